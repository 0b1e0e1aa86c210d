section
-- ===== PART A: goes FIRST, ahead of the names: the tables' words, and 'selects' of the private methods out of them =====
/-- a private method of a class that the tables say can be made, by its rows of tables_1 -/
def lw_okq (q : MethodName × Nat) : Prop := (q.1.cls ≠ "java/lang/invoke/MethodHandle" ∧ q.1.cls ≠ "java/lang/invoke/VarHandle") ∧ Cond.instantiable q.1.cls q.2 ∈ tables_1 ∧ Cond.privateMethod q.1 ∈ tables_1 ∧ Cond.instanceMethod q.1 ∈ tables_1
theorem lw_p0 : lw_okq (⟨"GuaranteeBook", "guaranteeNumbered", "(I)LGuaranteeBook$Guarantee;"⟩, 10) := ⟨⟨by decide +kernel, by decide +kernel⟩, List.mem_of_getElem? (i := 15) (by decide +kernel), List.mem_of_getElem? (i := 95) (by decide +kernel), List.mem_of_getElem? (i := 96) (by decide +kernel)⟩
theorem lw_p1 : lw_okq (⟨"GuaranteeBook", "putFirst", "(LGuaranteeBook$Guarantee;)V"⟩, 10) := ⟨⟨by decide +kernel, by decide +kernel⟩, List.mem_of_getElem? (i := 15) (by decide +kernel), List.mem_of_getElem? (i := 99) (by decide +kernel), List.mem_of_getElem? (i := 100) (by decide +kernel)⟩
theorem lw_p2 : lw_okq (⟨"GuaranteeBook", "mayCoverTogether", "(I)J"⟩, 10) := ⟨⟨by decide +kernel, by decide +kernel⟩, List.mem_of_getElem? (i := 15) (by decide +kernel), List.mem_of_getElem? (i := 143) (by decide +kernel), List.mem_of_getElem? (i := 144) (by decide +kernel)⟩
theorem lw_p3 : lw_okq (⟨"java/lang/Throwable", "fillInStackTrace", "(I)Ljava/lang/Throwable;"⟩, 6) := ⟨⟨by decide +kernel, by decide +kernel⟩, List.mem_of_getElem? (i := 230) (by decide +kernel), List.mem_of_getElem? (i := 228) (by decide +kernel), List.mem_of_getElem? (i := 229) (by decide +kernel)⟩
theorem lw_p4 : lw_okq (⟨"GuaranteeBook", "putLast", "(LGuaranteeBook$Guarantee;)V"⟩, 10) := ⟨⟨by decide +kernel, by decide +kernel⟩, List.mem_of_getElem? (i := 15) (by decide +kernel), List.mem_of_getElem? (i := 356) (by decide +kernel), List.mem_of_getElem? (i := 357) (by decide +kernel)⟩
theorem lw_p5 : lw_okq (⟨"GuaranteeBook", "draftCovers", "(IJ)Z"⟩, 10) := ⟨⟨by decide +kernel, by decide +kernel⟩, List.mem_of_getElem? (i := 15) (by decide +kernel), List.mem_of_getElem? (i := 369) (by decide +kernel), List.mem_of_getElem? (i := 370) (by decide +kernel)⟩
theorem lw_p6 : lw_okq (⟨"GuaranteeBook", "keepDraft", "()I"⟩, 10) := ⟨⟨by decide +kernel, by decide +kernel⟩, List.mem_of_getElem? (i := 15) (by decide +kernel), List.mem_of_getElem? (i := 382) (by decide +kernel), List.mem_of_getElem? (i := 383) (by decide +kernel)⟩
theorem lw_p7 : lw_okq (⟨"GuaranteeBook$Reservation", "tellGuarantee", "(IJJ)V"⟩, 6) := ⟨⟨by decide +kernel, by decide +kernel⟩, List.mem_of_getElem? (i := 26) (by decide +kernel), List.mem_of_getElem? (i := 390) (by decide +kernel), List.mem_of_getElem? (i := 391) (by decide +kernel)⟩
theorem lw_p8 : lw_okq (⟨"GuaranteeBook", "reservationNumbered", "(I)LGuaranteeBook$Reservation;"⟩, 10) := ⟨⟨by decide +kernel, by decide +kernel⟩, List.mem_of_getElem? (i := 15) (by decide +kernel), List.mem_of_getElem? (i := 409) (by decide +kernel), List.mem_of_getElem? (i := 410) (by decide +kernel)⟩
theorem lw_p9 : lw_okq (⟨"GuaranteeBook", "finish", "(LGuaranteeBook$Reservation;I)V"⟩, 10) := ⟨⟨by decide +kernel, by decide +kernel⟩, List.mem_of_getElem? (i := 15) (by decide +kernel), List.mem_of_getElem? (i := 418) (by decide +kernel), List.mem_of_getElem? (i := 419) (by decide +kernel)⟩
theorem lw_p10 : lw_okq (⟨"GuaranteeBookModel", "refuse", "(I)I"⟩, 24) := ⟨⟨by decide +kernel, by decide +kernel⟩, List.mem_of_getElem? (i := 511) (by decide +kernel), List.mem_of_getElem? (i := 607) (by decide +kernel), List.mem_of_getElem? (i := 608) (by decide +kernel)⟩
theorem lw_p11 : lw_okq (⟨"GuaranteeBookModel", "isGuarantee", "(I)Z"⟩, 24) := ⟨⟨by decide +kernel, by decide +kernel⟩, List.mem_of_getElem? (i := 511) (by decide +kernel), List.mem_of_getElem? (i := 619) (by decide +kernel), List.mem_of_getElem? (i := 620) (by decide +kernel)⟩
theorem lw_p12 : lw_okq (⟨"GuaranteeBookModel", "together", "(I)J"⟩, 24) := ⟨⟨by decide +kernel, by decide +kernel⟩, List.mem_of_getElem? (i := 511) (by decide +kernel), List.mem_of_getElem? (i := 627) (by decide +kernel), List.mem_of_getElem? (i := 628) (by decide +kernel)⟩
theorem lw_p13 : lw_okq (⟨"GuaranteeBookModel", "may", "(I)J"⟩, 24) := ⟨⟨by decide +kernel, by decide +kernel⟩, List.mem_of_getElem? (i := 511) (by decide +kernel), List.mem_of_getElem? (i := 631) (by decide +kernel), List.mem_of_getElem? (i := 632) (by decide +kernel)⟩
theorem lw_p14 : lw_okq (⟨"GuaranteeBookModel", "used", "(I)I"⟩, 24) := ⟨⟨by decide +kernel, by decide +kernel⟩, List.mem_of_getElem? (i := 511) (by decide +kernel), List.mem_of_getElem? (i := 635) (by decide +kernel), List.mem_of_getElem? (i := 636) (by decide +kernel)⟩
theorem lw_p15 : lw_okq (⟨"GuaranteeBookModel", "freeOf", "(I)J"⟩, 24) := ⟨⟨by decide +kernel, by decide +kernel⟩, List.mem_of_getElem? (i := 511) (by decide +kernel), List.mem_of_getElem? (i := 639) (by decide +kernel), List.mem_of_getElem? (i := 640) (by decide +kernel)⟩
def lw_privs_1 : List (MethodName × Nat) := [(⟨"GuaranteeBook", "guaranteeNumbered", "(I)LGuaranteeBook$Guarantee;"⟩, 10), (⟨"GuaranteeBook", "putFirst", "(LGuaranteeBook$Guarantee;)V"⟩, 10), (⟨"GuaranteeBook", "mayCoverTogether", "(I)J"⟩, 10), (⟨"java/lang/Throwable", "fillInStackTrace", "(I)Ljava/lang/Throwable;"⟩, 6), (⟨"GuaranteeBook", "putLast", "(LGuaranteeBook$Guarantee;)V"⟩, 10), (⟨"GuaranteeBook", "draftCovers", "(IJ)Z"⟩, 10), (⟨"GuaranteeBook", "keepDraft", "()I"⟩, 10), (⟨"GuaranteeBook$Reservation", "tellGuarantee", "(IJJ)V"⟩, 6), (⟨"GuaranteeBook", "reservationNumbered", "(I)LGuaranteeBook$Reservation;"⟩, 10), (⟨"GuaranteeBook", "finish", "(LGuaranteeBook$Reservation;I)V"⟩, 10), (⟨"GuaranteeBookModel", "refuse", "(I)I"⟩, 24), (⟨"GuaranteeBookModel", "isGuarantee", "(I)Z"⟩, 24), (⟨"GuaranteeBookModel", "together", "(I)J"⟩, 24), (⟨"GuaranteeBookModel", "may", "(I)J"⟩, 24), (⟨"GuaranteeBookModel", "used", "(I)I"⟩, 24), (⟨"GuaranteeBookModel", "freeOf", "(I)J"⟩, 24)]
theorem lw_r1 : ∀ q ∈ lw_privs_1, lw_okq q := List.forall_mem_cons.mpr ⟨lw_p0, List.forall_mem_cons.mpr ⟨lw_p1, List.forall_mem_cons.mpr ⟨lw_p2, List.forall_mem_cons.mpr ⟨lw_p3, List.forall_mem_cons.mpr ⟨lw_p4, List.forall_mem_cons.mpr ⟨lw_p5, List.forall_mem_cons.mpr ⟨lw_p6, List.forall_mem_cons.mpr ⟨lw_p7, List.forall_mem_cons.mpr ⟨lw_p8, List.forall_mem_cons.mpr ⟨lw_p9, List.forall_mem_cons.mpr ⟨lw_p10, List.forall_mem_cons.mpr ⟨lw_p11, List.forall_mem_cons.mpr ⟨lw_p12, List.forall_mem_cons.mpr ⟨lw_p13, List.forall_mem_cons.mpr ⟨lw_p14, List.forall_mem_cons.mpr ⟨lw_p15, fun _ h => absurd h List.not_mem_nil⟩⟩⟩⟩⟩⟩⟩⟩⟩⟩⟩⟩⟩⟩⟩⟩
theorem lw_p16 : lw_okq (⟨"GuaranteeBookModel", "needed", "(I)J"⟩, 24) := ⟨⟨by decide +kernel, by decide +kernel⟩, List.mem_of_getElem? (i := 511) (by decide +kernel), List.mem_of_getElem? (i := 643) (by decide +kernel), List.mem_of_getElem? (i := 644) (by decide +kernel)⟩
theorem lw_p17 : lw_okq (⟨"GuaranteeBookModel", "needs", "(IJ)J"⟩, 24) := ⟨⟨by decide +kernel, by decide +kernel⟩, List.mem_of_getElem? (i := 511) (by decide +kernel), List.mem_of_getElem? (i := 647) (by decide +kernel), List.mem_of_getElem? (i := 648) (by decide +kernel)⟩
theorem lw_p18 : lw_okq (⟨"GuaranteeBookModel", "lays", "(IJ)Z"⟩, 24) := ⟨⟨by decide +kernel, by decide +kernel⟩, List.mem_of_getElem? (i := 511) (by decide +kernel), List.mem_of_getElem? (i := 658) (by decide +kernel), List.mem_of_getElem? (i := 659) (by decide +kernel)⟩
theorem lw_p19 : lw_okq (⟨"GuaranteeBookModel", "isReservation", "(I)Z"⟩, 24) := ⟨⟨by decide +kernel, by decide +kernel⟩, List.mem_of_getElem? (i := 511) (by decide +kernel), List.mem_of_getElem? (i := 667) (by decide +kernel), List.mem_of_getElem? (i := 668) (by decide +kernel)⟩
theorem lw_p20 : lw_okq (⟨"GuaranteeBookModel", "covered", "(I)J"⟩, 24) := ⟨⟨by decide +kernel, by decide +kernel⟩, List.mem_of_getElem? (i := 511) (by decide +kernel), List.mem_of_getElem? (i := 675) (by decide +kernel), List.mem_of_getElem? (i := 676) (by decide +kernel)⟩
theorem lw_p21 : lw_okq (⟨"GuaranteeBookModel", "endRow", "(I)V"⟩, 24) := ⟨⟨by decide +kernel, by decide +kernel⟩, List.mem_of_getElem? (i := 511) (by decide +kernel), List.mem_of_getElem? (i := 683) (by decide +kernel), List.mem_of_getElem? (i := 684) (by decide +kernel)⟩
theorem lw_p22 : lw_okq (⟨"GuaranteeBookModel", "running", "(I)J"⟩, 24) := ⟨⟨by decide +kernel, by decide +kernel⟩, List.mem_of_getElem? (i := 511) (by decide +kernel), List.mem_of_getElem? (i := 687) (by decide +kernel), List.mem_of_getElem? (i := 688) (by decide +kernel)⟩
def lw_privs_2 : List (MethodName × Nat) := [(⟨"GuaranteeBookModel", "needed", "(I)J"⟩, 24), (⟨"GuaranteeBookModel", "needs", "(IJ)J"⟩, 24), (⟨"GuaranteeBookModel", "lays", "(IJ)Z"⟩, 24), (⟨"GuaranteeBookModel", "isReservation", "(I)Z"⟩, 24), (⟨"GuaranteeBookModel", "covered", "(I)J"⟩, 24), (⟨"GuaranteeBookModel", "endRow", "(I)V"⟩, 24), (⟨"GuaranteeBookModel", "running", "(I)J"⟩, 24)]
theorem lw_r2 : ∀ q ∈ lw_privs_2, lw_okq q := List.forall_mem_cons.mpr ⟨lw_p16, List.forall_mem_cons.mpr ⟨lw_p17, List.forall_mem_cons.mpr ⟨lw_p18, List.forall_mem_cons.mpr ⟨lw_p19, List.forall_mem_cons.mpr ⟨lw_p20, List.forall_mem_cons.mpr ⟨lw_p21, List.forall_mem_cons.mpr ⟨lw_p22, fun _ h => absurd h List.not_mem_nil⟩⟩⟩⟩⟩⟩⟩
def lw_privs : List (MethodName × Nat) := lw_privs_1 ++ (lw_privs_2)
def lw_tbl : List Cond := k2_sels lw_privs ++ tables_1
theorem lw_privs_ok : ∀ q ∈ lw_privs, lw_okq q := by
  show ∀ q ∈ lw_privs_1 ++ (lw_privs_2), lw_okq q
  exact List.forall_mem_append.mpr ⟨lw_r1, lw_r2⟩
end
section
/-! ===== BEGIN words of one list among another's, by their places ===== -/
theorem goodIn_r {big : List Cond} (ws : List Cond) (ps : List Nat) (hp : ws = ps.filterMap (fun i => big[i]?)) (h : ws.all goodWord = true) : GoodIn big ws := by
  intro w hw
  have h1 := List.all_eq_true.mp h w hw
  rw [hp] at hw
  obtain ⟨i, -, hi⟩ := List.mem_filterMap.mp hw
  have hm : w ∈ big := by first | exact List.mem_of_getElem? hi | exact List.getElem?_mem hi
  exact ⟨hm, good_of_word h1⟩
theorem goodIn_app {big a b : List Cond} (ha : GoodIn big a) (hb : GoodIn big b) : GoodIn big (a ++ b) := fun w h => (List.mem_append.mp h).elim (ha w) (hb w)
theorem goodIn_ca {big a b : List Cond} {c : Cond} (ha : GoodIn big (c :: a)) (hb : GoodIn big b) : GoodIn big (c :: (a ++ b)) := fun w h => (List.mem_cons.mp h).elim (fun e => ha w (List.mem_cons.mpr (Or.inl e))) (fun h => (List.mem_append.mp h).elim (fun h => ha w (List.mem_cons.mpr (Or.inr h))) (hb w))
theorem goodIn_sub {big ws : List Cond} (hm : ∀ w ∈ ws, w ∈ big) (h : ws.all goodWord = true) : GoodIn big ws := fun w hw => ⟨hm w hw, good_of_word (List.all_eq_true.mp h w hw)⟩
/-! ===== END ===== -/

/-! ===== BEGIN exceptions that leave a method, and their catching by the caller (launches without stack traces) ===== -/
section VXA
/-! The laws vx_back, vx_callV, vx_callS, vx_callSW, vx_throw0, vx_throwS follow proofs of the library, with one case more: JvmDerived/Free/Laws.lean (Back.of_free), Shelf42/LK1.lean (callV, callS), Shelf/KitTraced.lean (throwNew0V, throwNewS). -/
/-- where a method has thrown q: the class by its name, the cell, what was written, the world -/
def vx_T (XC : String → State → State → Prop) (st : State) (q : Addr) (t : State) (mc ms : Nat) (free : Addr → Prop) : Prop :=
  ∃ (E : String) (ce : Cell) (L : List Loc), XC E st t ∧ t.heap[q]? = some ce ∧ ce.vm = .none ∧ st.vm.findClass E = some ce.cls ∧ st.WarmedH t.vm ∧ st.sameButNew ({ t with vm := st.vm } : State) L mc ms ∧ ∀ z ∈ L, free z.base
def vx_Q (Qc : Array Value → State → Outcome → State → Prop) (XC : String → State → State → Prop) (mc ms : Nat) (free : Addr → Prop) : Array Value → State → Outcome → State → Prop := fun a st o t =>
  (Qc a st o t ∧ ∃ L, FrameEnd st o t L mc ms ∧ ∀ q ∈ L, free q.base) ∨ ∃ q, o = .threw q ∧ vx_T XC st q t mc ms free
/-- a callee that returns or throws -/
def vx_Met (l : Launch) (y : MethodName) (ws : List Cond) (rm : Room) (Pc : Array Value → State → Prop) (Qc : Array Value → State → Outcome → State → Prop) (XC : String → State → State → Prop) (mc ms : Nat) (free : Addr → Prop) : Prop :=
  MetFree l y (headSpec ws rm) Pc (fun _ _ _ _ _ => True) (vx_Q Qc XC mc ms free)
def vx_Post (XC : String → State → State → Prop) (mc ms : Nat) (free : Addr → Prop) : Pt → Array Value → Addr → Pt → Prop := fun A a q B =>
  ∃ (g : JFrame) (mk : MethodId) (t : State) (L : List Loc) (E : String) (ce : Cell), B.U.heap = t.heap ∧ B.U.vm = t.vm ∧ XC E (A.U.calling g mk a) t ∧ t.heap[q]? = some ce ∧ ce.vm = .none ∧ A.U.vm.findClass E = some ce.cls ∧ B.locs = A.locs ++ L ∧ (∀ z ∈ L, free z.base) ∧ B.cells = A.cells + mc ∧ B.slots = A.slots + ms
def vx_Back (l : Launch) (R : Room) (p : Program) (e : Env) (below : List Frame) (s : State) (sargs : Array Value) (y : MethodName) (len W9 : Nat)
    (Pre : Pt → Array Value → Prop) (Post : Pt → Array Value → Option Value → Pt → Prop) (PostX : Pt → Array Value → Addr → Pt → Prop) : Prop :=
  ∀ (m : MethodId) (meth : Method) (c : Code) (A : Pt) (g : JFrame) (ig : Instr) (mk : MethodId) (a : Array Value),
    Stand p l e R s m sargs below meth c A.U A.locs A.cells A.slots → g.method = m → g.locals.size = c.maxLocals → decode c.code g.pc = .ok (ig, len) →
    2 * g.monitorRoom + (g.stack.map fun v => v.category).sum ≤ W9 → A.U.methodNamed? y = some mk → Pre A a →
    (∃ (v : Option Value) (B : Pt), Stand p l e R s m sargs below meth c B.U B.locs B.cells B.slots ∧ Post A a v B ∧
      Steps p.tables e below (doInvoke e (A.U.setTop g) [] mk a).1 (B.U.setTop { g with pc := g.pc + len, stack := v.toList ++ g.stack })) ∨
    (∃ (q : Addr) (B : Pt), Stand p l e R s m sargs below meth c B.U B.locs B.cells B.slots ∧ PostX A a q B ∧
      Steps p.tables e below (doInvoke e (A.U.setTop g) [] mk a).1 ((B.U.setTop g).pushFrame (.throwing q)))
section Payer
variable {l : Launch} {R : Room} {p : Program} {e : Env} {below : List Frame} {s : State} {sargs : Array Value} {y : MethodName} {len W9 : Nat}
theorem vx_back {ws : List Cond} {rm : Room} {Pc : Array Value → State → Prop} {Qc : Array Value → State → Outcome → State → Prop} {XC : String → State → State → Prop} {mc ms : Nat} {free : Addr → Prop} {bytes : ByteArray} {maxL : Nat} {ret : Option FieldType}
    (hM : vx_Met l y ws rm Pc Qc XC mc ms free) (hblind : FrameBlind Pc) (hrc : rm.cells = mc) (hrs : rm.slots = ms)
    (hframes : rm.frames + 1 ≤ R.frames) (hlocals : W9 + (maxL + 11) + rm.locals ≤ R.locals)
    (hws : ∀ w ∈ ws, ∀ a' U, s.WarmedH U.vm → w.before a' U = true) (hcode : Cond.code y bytes maxL ret ∈ ws) (hinit : ∀ a' U, s.WarmedH U.vm → (Cond.initialized y.cls).before a' U = true) :
    vx_Back l R p e below s sargs y len W9 (PreOf R mc ms Pc) (PostOf Qc mc ms free) (vx_Post XC mc ms free) := by
  intro m meth c A g ig mk a X hg hsize hdg hW hn hp
  have h1 : (headSpec ws rm).pre.before a A.U = true := atoms_intro fun w hw => hws w hw _ _ X.warmed
  have h2 : (Cond.code y bytes maxL ret).before a A.U = true := hws _ hcode _ _ X.warmed
  have h3 : (Cond.initialized y.cls).before a A.U = true := hinit _ _ X.warmed
  have h4 : A.cells + (headSpec ws rm).room.cells ≤ R.cells := by rw [show (headSpec ws rm).room.cells = mc from hrc]; exact hp.1
  have h5 : A.slots + (headSpec ws rm).room.slots ≤ R.slots := by rw [show (headSpec ws rm).room.slots = ms from hrs]; exact hp.2.1
  have hPc : Pc a (A.U.calling g mk a) := hblind _ _ _ _ hp.2.2
  obtain ⟨U, Ls, c0, s0⟩ := A
  dsimp only [Pt.U, Pt.locs, Pt.cells, Pt.slots] at h1 h2 h3 h4 h5 X hn hPc ⊢
  obtain ⟨methY, cY, hmY, hcY, -, hlY, -, -, -, -⟩ := Cond.code_spec hn h2
  obtain ⟨kY, hkY, -⟩ := className_of_methodNamed hn
  have hinitY : kY.init = .initialized := Cond.initialized_spec (findClass_of_methodNamed hn) hkY h3
  have h : At U g.method c below := by rw [hg]; exact X.here
  have hlocals9 : W9 + (maxL + 11) + (headSpec ws rm).room.locals ≤ R.locals := hlocals
  have happ : (headSpec ws rm).appliesLoose y e.platform (U.calling g mk a) = true :=
    Spec.appliesLoose_calling (g := g) h hdg hn hkY hinitY
      (X.room_calling (g := g) (R' := (headSpec ws rm).room) hsize hmY hcY hframes (by rw [hlY]; omega) h4 h5) h1
  obtain ⟨mid, hmid⟩ := h.above
  have hfr : (U.setTop g).frames = (.java g :: mid) ++ below := by rw [State.frames_setTop' g h.top, hmid]; rfl
  obtain ⟨o, s₂, hsteps, -, hend, hq⟩ := Steps.callFree hM p X.admits X.cas X.clock (acts := []) hfr happ hPc trivial
  have hq' : vx_Q Qc XC mc ms free a (U.calling g mk a) o s₂ := hq
  rw [State.frames_setTop' g h.top] at hend
  obtain ⟨g₀, hg0⟩ := Option.isSome_iff_exists.mp h.top
  obtain ⟨r, hr⟩ := State.topJava?_eq_some.mp hg0
  have hr' : (({ U with heap := s₂.heap, slotsUsed := s₂.slotsUsed } : State).setVm s₂.vm).frames = .java g₀ :: r := hr
  rcases hq' with ⟨hqc, L, hfe, hL⟩ | ⟨q, rfl, E, ce, L, hx, hce, hcv, hcl, hW₂, hsm, hL⟩
  · obtain ⟨⟨v, rfl⟩, hW₂, e2, q2, q3, q4, q5, q6⟩ := id hfe
    have e3 : s₂ = ({ (U.calling g mk a).setFrames s₂.frames with heap := s₂.heap, slotsUsed := s₂.slotsUsed } : State).setVm s₂.vm := by
      have : s₂ = ({ s₂ with vm := (U.calling g mk a).vm } : State).setVm s₂.vm := rfl
      rw [e2] at this
      exact this
    obtain ⟨c₂, i₂, len₂, hc₂, hd₂, hf₂⟩ := hend
    have hW' : U.WarmedH s₂.vm := hW₂
    have hcc : c₂ = c := by
      have h1 : s₂.code? g.method = U.code? g.method := by
        rw [State.code?_eq, State.code?_eq, hW'.alike.method?]
      exact Option.some.inj (hc₂.symm.trans (h1.trans h.code))
    subst hcc
    have hlen : len₂ = len := by rw [hdg] at hd₂; cases hd₂; rfl
    subst hlen
    have hs₂ : s₂ = (({ U with heap := s₂.heap, slotsUsed := s₂.slotsUsed } : State).setVm s₂.vm).setTop { g with pc := g.pc + len₂, stack := v.toList ++ g.stack } := by
      refine e3.trans ?_
      rw [hf₂, State.calling_eq h.top, State.setFrames_setFrames, State.setTop_of_frames _ hr', hr]
      rfl
    have hsame : U.sameButNew ({ U with heap := s₂.heap, slotsUsed := s₂.slotsUsed } : State) L mc ms := by
      refine ⟨?_, q2, q3, q4, q5, q6⟩
      obtain ⟨t, ht, -⟩ := State.frames_cons hr
      show ({ U with heap := s₂.heap, slotsUsed := s₂.slotsUsed } : State) = { U.setFrames U.frames with heap := s₂.heap, slotsUsed := s₂.slotsUsed }
      rw [State.setFrames_self ht]
    subst hg
    refine Or.inl ⟨v, ⟨(({ U with heap := s₂.heap, slotsUsed := s₂.slotsUsed } : State).setVm s₂.vm), Ls ++ L, c0 + mc, s0 + ms⟩,
      ⟨X.admits, X.cas, X.clock, X.frames, X.room, X.hears, X.method, X.code, (X.here.setHeapUsed s₂.heap s₂.slotsUsed).setVm hW'.alike, X.tail, State.WarmedH.trans X.warmed hW', X.limits, X.bytes, X.same.trans (hsame.setVm s.vm)⟩,
      ⟨g, mk, s₂, L, rfl, rfl, hqc, rfl, hL, rfl, rfl⟩, ?_⟩
    show Steps p.tables e below _ ((({ U with heap := s₂.heap, slotsUsed := s₂.slotsUsed } : State).setVm s₂.vm).setTop { g with pc := g.pc + len₂, stack := v.toList ++ g.stack })
    rw [← hs₂]
    exact hsteps
  · obtain ⟨e2, q2, q3, q4, q5, q6⟩ := id hsm
    have e3 : s₂ = ({ (U.calling g mk a).setFrames s₂.frames with heap := s₂.heap, slotsUsed := s₂.slotsUsed } : State).setVm s₂.vm := by
      have : s₂ = ({ s₂ with vm := (U.calling g mk a).vm } : State).setVm s₂.vm := rfl
      rw [e2] at this
      exact this
    have hf₂ : s₂.frames = .throwing q :: .java g :: U.frames.tail := hend
    have hW' : U.WarmedH s₂.vm := hW₂
    have hs₂ : s₂ = ((({ U with heap := s₂.heap, slotsUsed := s₂.slotsUsed } : State).setVm s₂.vm).setTop g).pushFrame (.throwing q) := by
      refine e3.trans ?_
      rw [hf₂, State.calling_eq h.top, State.setFrames_setFrames, State.pushFrame, State.frames_setTop _ hr', State.setTop_of_frames _ hr', State.setFrames_setFrames, hr]
      rfl
    have hsame : U.sameButNew ({ U with heap := s₂.heap, slotsUsed := s₂.slotsUsed } : State) L mc ms := by
      refine ⟨?_, q2, q3, q4, q5, q6⟩
      obtain ⟨t, ht, -⟩ := State.frames_cons hr
      show ({ U with heap := s₂.heap, slotsUsed := s₂.slotsUsed } : State) = { U.setFrames U.frames with heap := s₂.heap, slotsUsed := s₂.slotsUsed }
      rw [State.setFrames_self ht]
    subst hg
    refine Or.inr ⟨q, ⟨(({ U with heap := s₂.heap, slotsUsed := s₂.slotsUsed } : State).setVm s₂.vm), Ls ++ L, c0 + mc, s0 + ms⟩,
      ⟨X.admits, X.cas, X.clock, X.frames, X.room, X.hears, X.method, X.code, (X.here.setHeapUsed s₂.heap s₂.slotsUsed).setVm hW'.alike, X.tail, State.WarmedH.trans X.warmed hW', X.limits, X.bytes, X.same.trans (hsame.setVm s.vm)⟩,
      ⟨g, mk, s₂, L, E, ce, rfl, rfl, hx, hce, hcv, hcl, rfl, hL, rfl, rfl⟩, ?_⟩
    show Steps p.tables e below _ (((({ U with heap := s₂.heap, slotsUsed := s₂.slotsUsed } : State).setVm s₂.vm).setTop g).pushFrame (.throwing q))
    rw [← hs₂]
    exact hsteps
end Payer
section Calls
variable {p : Program} {l : Launch} {e : Env} {R : Room} {s : State} {m : MethodId} {args : Array Value} {below : List Frame} {meth : Method} {c : Code} {T : State} {locs : List Loc} {cells slots : Nat}
theorem vx_callV (X : Stand p l e R s m args below meth c T locs cells slots) (hexec : p.tables.exec = Jvm.exec) {own C : String} {index : Nat} {y : MethodName} {bytes : ByteArray} {maxL : Nat} {ret : Option FieldType}
    (hown : s.vm.findClass own = some m.cls) (hlink : (Cond.methodLink own index y).before args s = true) (hinst : (Cond.instanceMethod y).before args s = true) (hsel : (Cond.selects C y y).before args s = true)
    (hcode : (Cond.code y bytes maxL ret).before args s = true) (hy : y.cls ≠ "java/lang/invoke/MethodHandle" ∧ y.cls ≠ "java/lang/invoke/VarHandle")
    {W9 : Nat} {Pre : Pt → Array Value → Prop} {Post : Pt → Array Value → Option Value → Pt → Prop} {PostX : Pt → Array Value → Addr → Pt → Prop} (hK : vx_Back l R p e below s args y 3 W9 Pre Post PostX)
    {b : Addr} {cellB : Cell} (hcell : T.heap[b]? = some cellB) (hobj : cellB.vm.isStatics = false) (hcls : s.vm.findClass C = some cellB.cls)
    {g : JFrame} (hg : g.method = m) (hsize : g.locals.size = c.maxLocals) {argsL rest : List Value} (hlen : ∀ sig, parseMethodDescriptor y.desc = some sig → argsL.length = sig.parameters.length)
    (hstack : g.stack = argsL.reverse ++ .ref b :: rest) (hW : 2 * g.monitorRoom + (rest.map fun v => v.category).sum ≤ W9) (hdg : decode c.code g.pc = .ok (.invokevirtual index, 3))
    (hpre : ∀ vm₁, s.WarmedH vm₁ → Pre ⟨T.setVm vm₁, locs, cells, slots⟩ (Value.ref b :: argsL).toArray) :
    (∃ (v : Option Value) (vm₁ : Vm) (B : Pt), s.WarmedH vm₁ ∧ Stand p l e R s m args below meth c B.U B.locs B.cells B.slots ∧ Post ⟨T.setVm vm₁, locs, cells, slots⟩ (Value.ref b :: argsL).toArray v B ∧
      ∀ target, Steps p.tables e below (B.U.setTop { g with pc := g.pc + 3, stack := v.toList ++ rest }) target → Steps p.tables e below (T.setTop g) target) ∨
    (∃ (q : Addr) (vm₁ : Vm) (B : Pt), s.WarmedH vm₁ ∧ Stand p l e R s m args below meth c B.U B.locs B.cells B.slots ∧ PostX ⟨T.setVm vm₁, locs, cells, slots⟩ (Value.ref b :: argsL).toArray q B ∧
      Steps p.tables e below (T.setTop g) ((B.U.setTop { g with stack := rest }).pushFrame (.throwing q))) := by
  obtain ⟨mk, methM, hnamed, hmethM, hstM, habM⟩ := Cond.instanceMethod_spec hinst
  obtain ⟨methM', cM, hmethM', -, -, -, -, -, -, hsigM⟩ := Cond.code_spec hnamed hcode
  cases hmethM.symm.trans hmethM'
  obtain ⟨c2, r2, m2, q1, q2, q3, q4, kP, hkP, hkPi⟩ := Cond.selects_spec hsel
  cases hcls.symm.trans q1
  cases (State.methodFound?_of_named hnamed hy).symm.trans q2
  cases hnamed.symm.trans q3
  have hselP : selectMethod e.platform s.vm cellB.cls mk = .method mk := by rw [Launch.admits_selectMethod X.admits]; exact q4
  obtain ⟨vm₁, X₁, hstep₁⟩ := X.invokevirtual hexec hown hlink hnamed hmethM hstM hkP hkPi hy (a := b) (cell := cellB) hcell
    (fun z h => by rw [h] at hobj; cases hobj) hselP hmethM habM hkP hkPi (g := g) hg (argsL := argsL) (rest := rest) (hlen _ hsigM) hstack hdg
  rcases hK m meth c ⟨T.setVm vm₁, locs, cells, slots⟩ { g with stack := rest } (.invokevirtual index) mk (Value.ref b :: argsL).toArray X₁ hg hsize hdg hW (X₁.named hnamed) (hpre vm₁ X₁.warmed) with ⟨v, B, X', hpost, hsteps⟩ | ⟨q, B, X', hpost, hsteps⟩
  · exact Or.inl ⟨v, vm₁, B, X₁.warmed, X', hpost, fun target h => hstep₁ _ fun acts => by rw [doInvoke_state]; exact hsteps.trans h⟩
  · exact Or.inr ⟨q, vm₁, B, X₁.warmed, X', hpost, hstep₁ _ fun acts => by rw [doInvoke_state]; exact hsteps⟩
theorem vx_callS (X : Stand p l e R s m args below meth c T locs cells slots) (hexec : p.tables.exec = Jvm.exec) {own : String} {index : Nat} {y : MethodName} {bytes : ByteArray} {maxL : Nat} {ret : Option FieldType}
    (hown : s.vm.findClass own = some m.cls) (hlink : (Cond.methodLink own index y).before args s = true) (hstat : (Cond.static y).before args s = true) (hinit : (Cond.initialized y.cls).before args s = true)
    (hcode : (Cond.code y bytes maxL ret).before args s = true) (hy : y.cls ≠ "java/lang/invoke/MethodHandle" ∧ y.cls ≠ "java/lang/invoke/VarHandle")
    {W9 : Nat} {Pre : Pt → Array Value → Prop} {Post : Pt → Array Value → Option Value → Pt → Prop} {PostX : Pt → Array Value → Addr → Pt → Prop} (hK : vx_Back l R p e below s args y 3 W9 Pre Post PostX)
    {g : JFrame} (hg : g.method = m) (hsize : g.locals.size = c.maxLocals) {argsL rest : List Value} (hlen : ∀ sig, parseMethodDescriptor y.desc = some sig → argsL.length = sig.parameters.length)
    (hstack : g.stack = argsL.reverse ++ rest) (hW : 2 * g.monitorRoom + (rest.map fun v => v.category).sum ≤ W9) (hdg : decode c.code g.pc = .ok (.invokestatic index, 3))
    (hpre : ∀ vm₁, s.WarmedH vm₁ → Pre ⟨T.setVm vm₁, locs, cells, slots⟩ argsL.toArray) :
    (∃ (v : Option Value) (vm₁ : Vm) (B : Pt), s.WarmedH vm₁ ∧ Stand p l e R s m args below meth c B.U B.locs B.cells B.slots ∧ Post ⟨T.setVm vm₁, locs, cells, slots⟩ argsL.toArray v B ∧
      ∀ target, Steps p.tables e below (B.U.setTop { g with pc := g.pc + 3, stack := v.toList ++ rest }) target → Steps p.tables e below (T.setTop g) target) ∨
    (∃ (q : Addr) (vm₁ : Vm) (B : Pt), s.WarmedH vm₁ ∧ Stand p l e R s m args below meth c B.U B.locs B.cells B.slots ∧ PostX ⟨T.setVm vm₁, locs, cells, slots⟩ argsL.toArray q B ∧
      Steps p.tables e below (T.setTop g) ((B.U.setTop { g with stack := rest }).pushFrame (.throwing q))) := by
  obtain ⟨mk, hnamed⟩ := Cond.code_named hcode
  obtain ⟨methM, cM, hmethM, -, -, -, -, -, -, hsigM⟩ := Cond.code_spec hnamed hcode
  have hstatic : methM.isStatic = true := Cond.static_spec hnamed hmethM hstat
  obtain ⟨kP, hkP, -⟩ := className_of_methodNamed hnamed
  have hinitP : kP.init = .initialized := Cond.initialized_spec (findClass_of_methodNamed hnamed) hkP hinit
  obtain ⟨vm₁, X₁, hstep₁⟩ := X.invokestatic hexec hown hlink hnamed hmethM hstatic hkP hinitP hy (g := g) hg (argsL := argsL) (rest := rest) (hlen _ hsigM) hstack hdg
  rcases hK m meth c ⟨T.setVm vm₁, locs, cells, slots⟩ { g with stack := rest } (.invokestatic index) mk argsL.toArray X₁ hg hsize hdg hW (X₁.named hnamed) (hpre vm₁ X₁.warmed) with ⟨v, B, X', hpost, hsteps⟩ | ⟨q, B, X', hpost, hsteps⟩
  · exact Or.inl ⟨v, vm₁, B, X₁.warmed, X', hpost, fun target h => hstep₁ _ fun acts => by rw [doInvoke_state]; exact hsteps.trans h⟩
  · exact Or.inr ⟨q, vm₁, B, X₁.warmed, X', hpost, hstep₁ _ fun acts => by rw [doInvoke_state]; exact hsteps⟩
end Calls
theorem vx_cls {s : State} {T : State} {vm₁ : Vm} {E : String} {k : ClassId} (hW : s.WarmedH vm₁) (h : (T.setVm vm₁).vm.findClass E = some k) : s.vm.findClass E = some k := by
  have h1 : vm₁.findClass E = some k := h
  rw [hW.alike.findClass] at h1
  exact h1
/-- the method's frame g, with q thrown over it -/
def vx_W (p : Program) (l : Launch) (e : Env) (R : Room) (s : State) (m : MethodId) (args : Array Value) (below : List Frame) (meth : Method) (c : Code) (H : Heap) (locs : List Loc) (cells slots : Nat) (Q : State → Prop) (g : JFrame) (q : Addr) : Prop :=
  ∀ T : State, T.heap = H → Stand p l e R s m args below meth c T locs cells slots → ∃ t, Steps p.tables e below ((T.setTop g).pushFrame (.throwing q)) t ∧ Q t
def vx_Run (p : Program) (l : Launch) (e : Env) (R : Room) (s : State) (m : MethodId) (args : Array Value) (below : List Frame) (meth : Method) (c : Code) (H : Heap) (locs : List Loc) (cells slots mc ms : Nat) (g : JFrame) (rest : List Value) (Qa : State → Outcome → State → Prop) (XC : String → State → State → Prop) (free : Addr → Prop) : Prop :=
  ∀ T : State, T.heap = H → Stand p l e R s m args below meth c T locs cells slots →
    (∃ (v : Option Value) (st₀ t T' : State) (L : List Loc), st₀.heap = H ∧ Stand p l e R s m args below meth c T' (locs ++ L) (cells + mc) (slots + ms) ∧ (∀ q ∈ L, free q.base) ∧ T'.heap = t.heap ∧ T'.vm = t.vm ∧ Qa st₀ (.returned v) t ∧
      Goes p e below T g T' { g with pc := g.pc + 3, stack := v.toList ++ rest }) ∨
    (∃ (q : Addr) (st₀ t T' : State) (L : List Loc) (E : String) (ce : Cell), st₀.heap = H ∧ Stand p l e R s m args below meth c T' (locs ++ L) (cells + mc) (slots + ms) ∧ (∀ z ∈ L, free z.base) ∧ T'.heap = t.heap ∧ T'.vm = t.vm ∧ XC E st₀ t ∧ t.heap[q]? = some ce ∧ ce.vm = .none ∧ s.vm.findClass E = some ce.cls ∧
      Steps p.tables e below (T.setTop g) ((T'.setTop { g with stack := rest }).pushFrame (.throwing q)))
def vx_X {S : Type} (px : S → Prop) (B : String → S → State → Prop) (A : Nat → Prop) : String → State → State → Prop := fun E st t => ∃ u : S, px u ∧ B E u t ∧ va_F A st t
section Runs
variable {p : Program} {l : Launch} {e : Env} {R : Room} {s : State} {m : MethodId} {args : Array Value} {below : List Frame} {meth : Method} {c : Code} {H : Heap} {locs : List Loc} {cells slots : Nat}
variable {y : MethodName} {bytes cc : ByteArray} {maxL nL mc ms n index : Nat} {ret : Option FieldType} {ws : List Cond} {rm : Room} {Pc : Array Value → State → Prop} {Qc : Array Value → State → Outcome → State → Prop} {XC : String → State → State → Prop} {free : Addr → Prop} {Ts : List Cond} {own C : String} {b : Addr} {As rest : List Value} {g : JFrame}
theorem vx_callBack (cb : CallB R s args own index y bytes maxL ret ws rm mc ms n) (hM : vx_Met l y ws rm Pc Qc XC mc ms free) (hbl : FrameBlind Pc) : vx_Back l R p e below s args y 3 8 (PreOf R mc ms Pc) (PostOf Qc mc ms free) (vx_Post XC mc ms free) := by
  obtain ⟨hrc, hrs, hfr, hlo, hws, hcw, -, hini, -⟩ := cb
  exact vx_back (bytes := bytes) (maxL := maxL) (ret := ret) hM hbl hrc hrs hfr hlo hws hcw (fun a' U hW => word_at hW (Or.inl (by first | rfl | simp [Cond.onTables, Cond.keeps, Cond.steady])) hini)
theorem vx_runV (S : CallFix p m c cc nL s args Ts own) (hM : vx_Met l y ws rm Pc Qc XC mc ms free) (cw : CallW R s args own C index y bytes maxL ret ws rm mc ms n) (hp : PreV s H C b Pc As)
    (hg : g.method = m) (hn : As.length = n) (hsize : g.locals.size = nL) (hstack : g.stack = As.reverse ++ .ref b :: rest) (hW : 2 * g.monitorRoom + (rest.map fun v => v.category).sum ≤ 8) (hdg : decode cc g.pc = .ok (.invokevirtual index, 3)) (hf : cells + mc ≤ R.cells ∧ slots + ms ≤ R.slots) :
    vx_Run p l e R s m args below meth c H locs cells slots mc ms g rest (Qc (Value.ref b :: As).toArray) XC free := by
  have hK : vx_Back l R p e below s args y 3 8 (PreOf R mc ms Pc) (PostOf Qc mc ms free) (vx_Post XC mc ms free) := vx_callBack cw.1 hM hp.1
  obtain ⟨⟨-, -, -, -, -, -, hcode, -, hy, hlen, hl⟩, hin, hse⟩ := cw
  obtain ⟨hx, hb, hml, ho, -⟩ := S
  obtain ⟨-, ⟨cellB, hcB, hoB, hclB⟩, hPc⟩ := hp
  intro T hT X
  rcases vx_callV X hx (C := C) (bytes := bytes) (maxL := maxL) (ret := ret) ho hl hin hse hcode hy hK (by rw [hT]; exact hcB) hoB hclB hg (hsize.trans hml.symm) (argsL := As) (rest := rest) (fun sig h => hn.trans (hlen sig h)) hstack hW (by rw [hb]; exact hdg)
    (fun vm₁ hW₁ => ⟨hf.1, hf.2, hPc (T.setVm vm₁) hT hW₁⟩) with ⟨v, vm₁, ⟨U', l2, c2, s2⟩, hW₁, X', ⟨g', mk, t, L, e1, e2, hq, h1, hL, h2, h3⟩, st⟩ | ⟨q, vm₁, ⟨U', l2, c2, s2⟩, hW₁, X', ⟨g', mk, t, L, E, ce, e1, e2, hq, hce, hcv, hcl, h1, hL, h2, h3⟩, st⟩
  · dsimp only [Pt.U, Pt.locs, Pt.cells, Pt.slots] at X' e1 e2 h1 h2 h3 st
    subst h1; subst h2; subst h3
    exact Or.inl ⟨v, (T.setVm vm₁).calling g' mk (Value.ref b :: As).toArray, t, U', L, hT, X', hL, e1, e2, hq, st⟩
  · dsimp only [Pt.U, Pt.locs, Pt.cells, Pt.slots] at X' e1 e2 h1 h2 h3 st hcl
    subst h1; subst h2; subst h3
    exact Or.inr ⟨q, (T.setVm vm₁).calling g' mk (Value.ref b :: As).toArray, t, U', L, E, ce, hT, X', hL, e1, e2, hq, hce, hcv, vx_cls hW₁ hcl, st⟩
theorem vx_runS (S : CallFix p m c cc nL s args Ts own) (hM : vx_Met l y ws rm Pc Qc XC mc ms free) (cw : CallB R s args own index y bytes maxL ret ws rm mc ms n ∧ (Cond.static y).before args s = true) (hp : PreS s H Pc As)
    (hg : g.method = m) (hn : As.length = n) (hsize : g.locals.size = nL) (hstack : g.stack = As.reverse ++ rest) (hW : 2 * g.monitorRoom + (rest.map fun v => v.category).sum ≤ 8) (hdg : decode cc g.pc = .ok (.invokestatic index, 3)) (hf : cells + mc ≤ R.cells ∧ slots + ms ≤ R.slots) :
    vx_Run p l e R s m args below meth c H locs cells slots mc ms g rest (Qc As.toArray) XC free := by
  have hK : vx_Back l R p e below s args y 3 8 (PreOf R mc ms Pc) (PostOf Qc mc ms free) (vx_Post XC mc ms free) := vx_callBack cw.1 hM hp.1
  obtain ⟨⟨-, -, -, -, -, -, hcode, hini, hy, hlen, hl⟩, hstt⟩ := cw
  obtain ⟨hx, hb, hml, ho, -⟩ := S
  intro T hT X
  rcases vx_callS X hx (bytes := bytes) (maxL := maxL) (ret := ret) ho hl hstt hini hcode hy hK hg (hsize.trans hml.symm) (argsL := As) (rest := rest) (fun sig h => hn.trans (hlen sig h)) hstack hW (by rw [hb]; exact hdg)
    (fun vm₁ hW₁ => ⟨hf.1, hf.2, hp.2 (T.setVm vm₁) hT hW₁⟩) with ⟨v, vm₁, ⟨U', l2, c2, s2⟩, hW₁, X', ⟨g', mk, t, L, e1, e2, hq, h1, hL, h2, h3⟩, st⟩ | ⟨q, vm₁, ⟨U', l2, c2, s2⟩, hW₁, X', ⟨g', mk, t, L, E, ce, e1, e2, hq, hce, hcv, hcl, h1, hL, h2, h3⟩, st⟩
  · dsimp only [Pt.U, Pt.locs, Pt.cells, Pt.slots] at X' e1 e2 h1 h2 h3 st
    subst h1; subst h2; subst h3
    exact Or.inl ⟨v, (T.setVm vm₁).calling g' mk As.toArray, t, U', L, hT, X', hL, e1, e2, hq, st⟩
  · dsimp only [Pt.U, Pt.locs, Pt.cells, Pt.slots] at X' e1 e2 h1 h2 h3 st hcl
    subst h1; subst h2; subst h3
    exact Or.inr ⟨q, (T.setVm vm₁).calling g' mk As.toArray, t, U', L, E, ce, hT, X', hL, e1, e2, hq, hce, hcv, vx_cls hW₁ hcl, st⟩
end Runs
section Rows
variable {p : Program} {l : Launch} {e : Env} {R : Room} {s : State} {m : MethodId} {args : Array Value} {below : List Frame} {meth : Method} {c : Code} {H : Heap} {locs : List Loc} {cells slots : Nat} {Q : State → Prop}
variable {mc ms : Nat} {free : Addr → Prop} {A0 A1 : Nat → Prop} {H0 : Heap} {a : Array Value} {pc : Nat} {ls : Array Slot} {st0 rest : List Value}
theorem vx_keep {st₀ t T' : State} {L : List Loc} (h0 : st₀.heap = H) (e1 : T'.heap = t.heap) (hS : va_S A0 H0 H locs) (hA : ∀ q, q < H.size → A1 q → A0 q) (hf : ∀ q, free q → A0 q) (hL : ∀ q ∈ L, free q.base) (hF : va_F A1 st₀ t) :
    H.size ≤ T'.heap.size ∧ (∀ q : Nat, q < H.size → ¬ A1 q → T'.heap[q]? = H[q]?) ∧ va_S A0 H0 T'.heap (locs ++ L) := by
  obtain ⟨hz, hk⟩ := hF
  rw [h0] at hz hk
  exact ⟨by rw [e1]; exact hz, fun q h1 h2 => by rw [e1]; exact hk q h1 h2,
    ⟨Nat.le_trans hS.1 (by rw [e1]; exact hz), fun q h1 h2 => by rw [e1, hk q (Nat.lt_of_lt_of_le h1 hS.1) (fun z => h2 (hA q (Nat.lt_of_lt_of_le h1 hS.1) z))]; exact hS.2.1 q h1 h2, fun q hq => by
      rcases List.mem_append.mp hq with h | h
      · exact hS.2.2 q h
      · exact hf _ (hL q h)⟩⟩
theorem vx_calli {S SX : Type} {post : Int32 → S → Prop} {px : SX → Prop} {B : S → State → Prop} {BX : String → SX → State → Prop} {AX : Nat → Prop} (hr : vx_Run p l e R s m args below meth c H locs cells slots mc ms (F0 m pc ls st0) rest (va_Qi post B A1 a) (vx_X px BX AX) free) (hS : va_S A0 H0 H locs) (hA : ∀ q, q < H.size → A1 q → A0 q) (hf : ∀ q, free q → A0 q) (hAX : ∀ q, q < H.size → AX q → A0 q)
    (kx : ∀ (E : String) (ce : Cell) (q9 : Addr) (u : SX) (t : State) (H1 : Heap) (locs1 : List Loc), t.heap = H1 → s.vm.Alike t.vm → px u → BX E u t → H.size ≤ H1.size → (∀ q : Nat, q < H.size → ¬ AX q → H1[q]? = H[q]?) → va_S A0 H0 H1 locs1 → H1[q9]? = some ce → ce.vm = .none → s.vm.findClass E = some ce.cls → vx_W p l e R s m args below meth c H1 locs1 (cells + mc) (slots + ms) Q (F0 m pc ls rest) q9)
    (kk : ∀ (r : Int32) (u : S) (t : State) (H1 : Heap) (locs1 : List Loc), t.heap = H1 → s.vm.Alike t.vm → post r u → B u t → H.size ≤ H1.size → (∀ q : Nat, q < H.size → ¬ A1 q → H1[q]? = H[q]?) → va_S A0 H0 H1 locs1 → W p l e R s m args below meth c H1 locs1 (cells + mc) (slots + ms) Q (F0 m (pc + 3) ls (.int r :: rest))) : W p l e R s m args below meth c H locs cells slots Q (F0 m pc ls st0) := by
  intro T hT X
  rcases hr T hT X with ⟨v, st₀, t, T', L, h0, X', hL, e1, e2, ⟨⟨r, u, hv, hp, hb⟩, hF⟩, st⟩ | ⟨q, st₀, t, T', L, E, ce, h0, X', hL, e1, e2, ⟨u, hp, hb, hF⟩, hce, hcv, hcl, st⟩
  · cases hv
    obtain ⟨k1, k2, k3⟩ := vx_keep h0 e1 hS hA hf hL hF
    obtain ⟨t2, a1, b1⟩ := kk r u t T'.heap (locs ++ L) e1.symm (by rw [← e2]; exact X'.warmed.alike) hp hb k1 k2 k3 T' rfl X'
    exact ⟨t2, st t2 a1, b1⟩
  · obtain ⟨k1, k2, k3⟩ := vx_keep h0 e1 hS hAX hf hL hF
    obtain ⟨t2, a1, b1⟩ := kx E ce q u t T'.heap (locs ++ L) e1.symm (by rw [← e2]; exact X'.warmed.alike) hp hb k1 k2 k3 (by rw [e1]; exact hce) hcv hcl T' rfl X'
    exact ⟨t2, st.trans a1, b1⟩
theorem vx_calll {S SX : Type} {post : Int64 → S → Prop} {px : SX → Prop} {B : S → State → Prop} {BX : String → SX → State → Prop} {AX : Nat → Prop} (hr : vx_Run p l e R s m args below meth c H locs cells slots mc ms (F0 m pc ls st0) rest (va_Ql post B A1 a) (vx_X px BX AX) free) (hS : va_S A0 H0 H locs) (hA : ∀ q, q < H.size → A1 q → A0 q) (hf : ∀ q, free q → A0 q) (hAX : ∀ q, q < H.size → AX q → A0 q)
    (kx : ∀ (E : String) (ce : Cell) (q9 : Addr) (u : SX) (t : State) (H1 : Heap) (locs1 : List Loc), t.heap = H1 → s.vm.Alike t.vm → px u → BX E u t → H.size ≤ H1.size → (∀ q : Nat, q < H.size → ¬ AX q → H1[q]? = H[q]?) → va_S A0 H0 H1 locs1 → H1[q9]? = some ce → ce.vm = .none → s.vm.findClass E = some ce.cls → vx_W p l e R s m args below meth c H1 locs1 (cells + mc) (slots + ms) Q (F0 m pc ls rest) q9)
    (kk : ∀ (r : Int64) (u : S) (t : State) (H1 : Heap) (locs1 : List Loc), t.heap = H1 → s.vm.Alike t.vm → post r u → B u t → H.size ≤ H1.size → (∀ q : Nat, q < H.size → ¬ A1 q → H1[q]? = H[q]?) → va_S A0 H0 H1 locs1 → W p l e R s m args below meth c H1 locs1 (cells + mc) (slots + ms) Q (F0 m (pc + 3) ls (.long r :: rest))) : W p l e R s m args below meth c H locs cells slots Q (F0 m pc ls st0) := by
  intro T hT X
  rcases hr T hT X with ⟨v, st₀, t, T', L, h0, X', hL, e1, e2, ⟨⟨r, u, hv, hp, hb⟩, hF⟩, st⟩ | ⟨q, st₀, t, T', L, E, ce, h0, X', hL, e1, e2, ⟨u, hp, hb, hF⟩, hce, hcv, hcl, st⟩
  · cases hv
    obtain ⟨k1, k2, k3⟩ := vx_keep h0 e1 hS hA hf hL hF
    obtain ⟨t2, a1, b1⟩ := kk r u t T'.heap (locs ++ L) e1.symm (by rw [← e2]; exact X'.warmed.alike) hp hb k1 k2 k3 T' rfl X'
    exact ⟨t2, st t2 a1, b1⟩
  · obtain ⟨k1, k2, k3⟩ := vx_keep h0 e1 hS hAX hf hL hF
    obtain ⟨t2, a1, b1⟩ := kx E ce q u t T'.heap (locs ++ L) e1.symm (by rw [← e2]; exact X'.warmed.alike) hp hb k1 k2 k3 (by rw [e1]; exact hce) hcv hcl T' rfl X'
    exact ⟨t2, st.trans a1, b1⟩
theorem vx_callf {S SX : Type} {post : UInt32 → S → Prop} {px : SX → Prop} {B : S → State → Prop} {BX : String → SX → State → Prop} {AX : Nat → Prop} (hr : vx_Run p l e R s m args below meth c H locs cells slots mc ms (F0 m pc ls st0) rest (va_Qf post B A1 a) (vx_X px BX AX) free) (hS : va_S A0 H0 H locs) (hA : ∀ q, q < H.size → A1 q → A0 q) (hf : ∀ q, free q → A0 q) (hAX : ∀ q, q < H.size → AX q → A0 q)
    (kx : ∀ (E : String) (ce : Cell) (q9 : Addr) (u : SX) (t : State) (H1 : Heap) (locs1 : List Loc), t.heap = H1 → s.vm.Alike t.vm → px u → BX E u t → H.size ≤ H1.size → (∀ q : Nat, q < H.size → ¬ AX q → H1[q]? = H[q]?) → va_S A0 H0 H1 locs1 → H1[q9]? = some ce → ce.vm = .none → s.vm.findClass E = some ce.cls → vx_W p l e R s m args below meth c H1 locs1 (cells + mc) (slots + ms) Q (F0 m pc ls rest) q9)
    (kk : ∀ (r : UInt32) (u : S) (t : State) (H1 : Heap) (locs1 : List Loc), t.heap = H1 → s.vm.Alike t.vm → post r u → B u t → H.size ≤ H1.size → (∀ q : Nat, q < H.size → ¬ A1 q → H1[q]? = H[q]?) → va_S A0 H0 H1 locs1 → W p l e R s m args below meth c H1 locs1 (cells + mc) (slots + ms) Q (F0 m (pc + 3) ls (.float r :: rest))) : W p l e R s m args below meth c H locs cells slots Q (F0 m pc ls st0) := by
  intro T hT X
  rcases hr T hT X with ⟨v, st₀, t, T', L, h0, X', hL, e1, e2, ⟨⟨r, u, hv, hp, hb⟩, hF⟩, st⟩ | ⟨q, st₀, t, T', L, E, ce, h0, X', hL, e1, e2, ⟨u, hp, hb, hF⟩, hce, hcv, hcl, st⟩
  · cases hv
    obtain ⟨k1, k2, k3⟩ := vx_keep h0 e1 hS hA hf hL hF
    obtain ⟨t2, a1, b1⟩ := kk r u t T'.heap (locs ++ L) e1.symm (by rw [← e2]; exact X'.warmed.alike) hp hb k1 k2 k3 T' rfl X'
    exact ⟨t2, st t2 a1, b1⟩
  · obtain ⟨k1, k2, k3⟩ := vx_keep h0 e1 hS hAX hf hL hF
    obtain ⟨t2, a1, b1⟩ := kx E ce q u t T'.heap (locs ++ L) e1.symm (by rw [← e2]; exact X'.warmed.alike) hp hb k1 k2 k3 (by rw [e1]; exact hce) hcv hcl T' rfl X'
    exact ⟨t2, st.trans a1, b1⟩
theorem vx_calld {S SX : Type} {post : UInt64 → S → Prop} {px : SX → Prop} {B : S → State → Prop} {BX : String → SX → State → Prop} {AX : Nat → Prop} (hr : vx_Run p l e R s m args below meth c H locs cells slots mc ms (F0 m pc ls st0) rest (va_Qd post B A1 a) (vx_X px BX AX) free) (hS : va_S A0 H0 H locs) (hA : ∀ q, q < H.size → A1 q → A0 q) (hf : ∀ q, free q → A0 q) (hAX : ∀ q, q < H.size → AX q → A0 q)
    (kx : ∀ (E : String) (ce : Cell) (q9 : Addr) (u : SX) (t : State) (H1 : Heap) (locs1 : List Loc), t.heap = H1 → s.vm.Alike t.vm → px u → BX E u t → H.size ≤ H1.size → (∀ q : Nat, q < H.size → ¬ AX q → H1[q]? = H[q]?) → va_S A0 H0 H1 locs1 → H1[q9]? = some ce → ce.vm = .none → s.vm.findClass E = some ce.cls → vx_W p l e R s m args below meth c H1 locs1 (cells + mc) (slots + ms) Q (F0 m pc ls rest) q9)
    (kk : ∀ (r : UInt64) (u : S) (t : State) (H1 : Heap) (locs1 : List Loc), t.heap = H1 → s.vm.Alike t.vm → post r u → B u t → H.size ≤ H1.size → (∀ q : Nat, q < H.size → ¬ A1 q → H1[q]? = H[q]?) → va_S A0 H0 H1 locs1 → W p l e R s m args below meth c H1 locs1 (cells + mc) (slots + ms) Q (F0 m (pc + 3) ls (.double r :: rest))) : W p l e R s m args below meth c H locs cells slots Q (F0 m pc ls st0) := by
  intro T hT X
  rcases hr T hT X with ⟨v, st₀, t, T', L, h0, X', hL, e1, e2, ⟨⟨r, u, hv, hp, hb⟩, hF⟩, st⟩ | ⟨q, st₀, t, T', L, E, ce, h0, X', hL, e1, e2, ⟨u, hp, hb, hF⟩, hce, hcv, hcl, st⟩
  · cases hv
    obtain ⟨k1, k2, k3⟩ := vx_keep h0 e1 hS hA hf hL hF
    obtain ⟨t2, a1, b1⟩ := kk r u t T'.heap (locs ++ L) e1.symm (by rw [← e2]; exact X'.warmed.alike) hp hb k1 k2 k3 T' rfl X'
    exact ⟨t2, st t2 a1, b1⟩
  · obtain ⟨k1, k2, k3⟩ := vx_keep h0 e1 hS hAX hf hL hF
    obtain ⟨t2, a1, b1⟩ := kx E ce q u t T'.heap (locs ++ L) e1.symm (by rw [← e2]; exact X'.warmed.alike) hp hb k1 k2 k3 (by rw [e1]; exact hce) hcv hcl T' rfl X'
    exact ⟨t2, st.trans a1, b1⟩
theorem vx_callv {S SX : Type} {post : S → Prop} {px : SX → Prop} {B : S → State → Prop} {BX : String → SX → State → Prop} {AX : Nat → Prop} (hr : vx_Run p l e R s m args below meth c H locs cells slots mc ms (F0 m pc ls st0) rest (va_Qv post B A1 a) (vx_X px BX AX) free) (hS : va_S A0 H0 H locs) (hA : ∀ q, q < H.size → A1 q → A0 q) (hf : ∀ q, free q → A0 q) (hAX : ∀ q, q < H.size → AX q → A0 q)
    (kx : ∀ (E : String) (ce : Cell) (q9 : Addr) (u : SX) (t : State) (H1 : Heap) (locs1 : List Loc), t.heap = H1 → s.vm.Alike t.vm → px u → BX E u t → H.size ≤ H1.size → (∀ q : Nat, q < H.size → ¬ AX q → H1[q]? = H[q]?) → va_S A0 H0 H1 locs1 → H1[q9]? = some ce → ce.vm = .none → s.vm.findClass E = some ce.cls → vx_W p l e R s m args below meth c H1 locs1 (cells + mc) (slots + ms) Q (F0 m pc ls rest) q9)
    (kk : ∀ (u : S) (t : State) (H1 : Heap) (locs1 : List Loc), t.heap = H1 → s.vm.Alike t.vm → post u → B u t → H.size ≤ H1.size → (∀ q : Nat, q < H.size → ¬ A1 q → H1[q]? = H[q]?) → va_S A0 H0 H1 locs1 → W p l e R s m args below meth c H1 locs1 (cells + mc) (slots + ms) Q (F0 m (pc + 3) ls (rest))) : W p l e R s m args below meth c H locs cells slots Q (F0 m pc ls st0) := by
  intro T hT X
  rcases hr T hT X with ⟨v, st₀, t, T', L, h0, X', hL, e1, e2, ⟨⟨u, hv, hp, hb⟩, hF⟩, st⟩ | ⟨q, st₀, t, T', L, E, ce, h0, X', hL, e1, e2, ⟨u, hp, hb, hF⟩, hce, hcv, hcl, st⟩
  · cases hv
    obtain ⟨k1, k2, k3⟩ := vx_keep h0 e1 hS hA hf hL hF
    obtain ⟨t2, a1, b1⟩ := kk u t T'.heap (locs ++ L) e1.symm (by rw [← e2]; exact X'.warmed.alike) hp hb k1 k2 k3 T' rfl X'
    exact ⟨t2, st t2 a1, b1⟩
  · obtain ⟨k1, k2, k3⟩ := vx_keep h0 e1 hS hAX hf hL hF
    obtain ⟨t2, a1, b1⟩ := kx E ce q u t T'.heap (locs ++ L) e1.symm (by rw [← e2]; exact X'.warmed.alike) hp hb k1 k2 k3 (by rw [e1]; exact hce) hcv hcl T' rfl X'
    exact ⟨t2, st.trans a1, b1⟩
/-- caught by the row x of this method's table; the rows ahead don't take it -/
theorem vx_catch {own name : String} {E : String} {ce : Cell} {q : Addr} (hown : s.vm.findClass own = some m.cls) (pre : List ExceptionTableEntry) (x : ExceptionTableEntry) (suf : List ExceptionTableEntry) (hsplit : c.exceptionTable.toList = pre ++ x :: suf)
    (hpass : ∀ z ∈ pre, covers z pc = false ∨ (z.catchType ≠ 0 ∧ ∃ nm : String, (Cond.classLink own z.catchType nm).before args s = true ∧ va_Nc E nm s)) (hx : covers x pc = true) (h0 : x.catchType ≠ 0)
    (hlink : (Cond.classLink own x.catchType name).before args s = true) (hcast : (Cond.castable E name).before args s = true) (hcell : H[q]? = some ce) (hv : ce.vm = .none) (hcl : s.vm.findClass E = some ce.cls)
    (kk : W p l e R s m args below meth c H locs cells slots Q (F0 m x.handlerPc ls [.ref q])) : vx_W p l e R s m args below meth c H locs cells slots Q (F0 m pc ls rest) q := by
  intro T hT X
  have hpl : e.platform.magicAccessors = ({} : Platform).magicAccessors := by rw [X.admits.platform]
  obtain ⟨c3, c4, hc3, hc4, hasg⟩ := Cond.castable_spec hcast
  cases Option.some.inj (hc3.symm.trans hcl)
  obtain ⟨c5, hc5, hcl5⟩ := Cond.classLink_spec hown hlink e.platform hpl
  cases Option.some.inj (hc4.symm.trans hc5)
  obtain ⟨vm', X', st⟩ := X.thenCaughtThrough q (g := F0 m pc ls rest) rfl (Steps.refl _) (by rw [hT]; exact hcell) (by rw [hv]; rfl) (by obtain ⟨k9, h9, -⟩ := Vm.findClass_spec hcl; exact ⟨k9, h9⟩) pre x suf hsplit
    (fun z hz => by
      rcases hpass z hz with h | ⟨hz0, nm, hl1, hn1⟩
      · exact Or.inl h
      · obtain ⟨c6, hc6, hcl6⟩ := Cond.classLink_spec hown hl1 e.platform hpl
        obtain ⟨a8, b8, h1, h2, h3⟩ := hn1
        cases Option.some.inj (h1.symm.trans hcl)
        cases Option.some.inj (h2.symm.trans hc6)
        exact Or.inr ⟨hz0, _, hcl6, h3⟩) hx (Or.inr ⟨h0, c4, hcl5, hasg⟩)
  obtain ⟨t, a1, b1⟩ := kk (T.setVm vm') hT X'
  exact ⟨t, st.trans a1, b1⟩
end Rows
section Ends
variable {p : Program} {l : Launch} {e : Env} {R : Room} {s : State} {m : MethodId} {args : Array Value} {below : List Frame} {meth : Method} {c : Code} {H : Heap} {locs : List Loc} {cells slots : Nat} {Q : State → Prop}
variable {mc ms : Nat} {free : Addr → Prop} {A0 A1 : Nat → Prop} {H0 : Heap} {a : Array Value} {ls : Array Slot} {st0 rest : List Value}
variable {Qc : Array Value → State → Outcome → State → Prop} {XC : String → State → State → Prop}
/-- what a body that may throw owes at its end -/
def vx_MQ (below : List Frame) (Qc : Array Value → State → Outcome → State → Prop) (XC : String → State → State → Prop) (a : Array Value) (s : State) (mc ms : Nat) (free : Addr → Prop) : State → Prop := fun t =>
  ∃ o, t.status = .running ∧ Ended t below o ∧ vx_Q Qc XC mc ms free a s o t
theorem vx_ret {g : JFrame} {mc ms : Nat} (k : W p l e R s m args below meth c H locs cells slots (MQ below Qc args s mc ms free) g) : W p l e R s m args below meth c H locs cells slots (vx_MQ below Qc XC args s mc ms free) g := by
  intro T hT X
  obtain ⟨t, a1, o, b1, b2, b3, b4⟩ := k T hT X
  exact ⟨t, a1, o, b1, b2, Or.inl ⟨b3, b4⟩⟩
/-- not caught here: it goes on to the caller -/
theorem vx_widen {g : JFrame} {q : Addr} {k n : Nat} (h1 : cells ≤ k) (h2 : slots ≤ n) (kk : vx_W p l e R s m args below meth c H locs k n Q g q) : vx_W p l e R s m args below meth c H locs cells slots Q g q := fun T hT X => kk T hT (stand_widen X h1 h2)
theorem vx_out {pc : Nat} {E : String} {ce : Cell} {q : Addr} {mc ms : Nat} (hout : ∀ x ∈ c.exceptionTable.toList, covers x pc = false) (hlocks : meth.locks = false) (hcell : H[q]? = some ce) (hv : ce.vm = .none) (hcl : s.vm.findClass E = some ce.cls)
    (hx : ∀ t : State, t.heap = H → s.vm.Alike t.vm → XC E s t) (hf : ∀ z ∈ locs, free z.base) (hc : cells ≤ mc) (hs : slots ≤ ms) :
    vx_W p l e R s m args below meth c H locs cells slots (vx_MQ below Qc XC args s mc ms free) (F0 m pc ls rest) q := by
  intro T hT X
  obtain ⟨st1, hrun, hend, hW, hsm⟩ := X.leaveThrown q (g := F0 m pc ls rest) rfl rfl rfl hout hlocks
  have hcell9 : (T.setFrames (.throwing q :: below)).heap[q]? = some ce := by
    show T.heap[q]? = some ce
    rw [hT]; exact hcell
  exact ⟨_, st1, .threw q, hrun, hend, Or.inr ⟨q, rfl, E, ce, locs, hx _ hT hW.alike, hcell9, hv, hcl, hW, hsm.mono hc hs, hf⟩⟩
theorem vx_frame {U : State} {k n : Nat} (h : s.sameButNew ({ U with vm := s.vm } : State) locs k n) : s.heap.size ≤ U.heap.size ∧ ∀ q : Nat, q < s.heap.size → (∀ z ∈ locs, z.base ≠ q) → U.heap[q]? = s.heap[q]? := by
  obtain ⟨-, h2, -, -, -, h6⟩ := h
  refine ⟨h2, fun q hq hz => ?_⟩
  obtain ⟨c9, e1, e2, e3, e4⟩ := h6 q _ (Array.getElem?_eq_getElem hq)
  have hs : c9.slots = (s.heap[q]).slots := Array.ext_getElem? fun i => e4 i fun hm => hz _ hm rfl
  have h9 : c9 = s.heap[q] := by
    rw [hs] at e2
    exact e2
  have e5 : U.heap[q]? = some c9 := e1
  rw [e5, h9, Array.getElem?_eq_getElem hq]
/-- the words of a throw but the four that speak of the heap -/
def vx_no (w : Cond) : Bool := decide (w ≠ .isRef (.static Bundle.tN "UNASSIGNED_STACK" Bundle.steD)) && decide (w ≠ .isRef (.static Bundle.tN "SUPPRESSED_SENTINEL" Bundle.listD)) && decide (w ≠ .laysStatic Bundle.tN "UNASSIGNED_STACK" Bundle.steD) && decide (w ≠ .laysStatic Bundle.tN "SUPPRESSED_SENTINEL" Bundle.listD)
def vx_at0 (own : String) (ic : Nat) (X : String) (names : List String) : List Cond := (Bundle.ownAtoms0 own ic X names).filter vx_no
def vx_atS (own : String) (ic : Nat) (X : String) (names : List String) : List Cond := (Bundle.ownAtoms own ic X names).filter vx_no
/-- a word that the tables alone decide, or a good one -/
def vx_ot (w : Cond) : Bool := w.onTables || goodWord w
theorem vx_ot_at {args a' : Array Value} {s U : State} {w : Cond} (hW : s.WarmedH U.vm) (hvm : s.vm = U.vm) (hg : vx_ot w = true) (h : w.before args s = true) : w.before a' U = true := by
  simp only [vx_ot, Bool.or_eq_true] at hg
  rcases hg with hg | hg
  · exact va_tabs hg hvm h
  · exact word_at hW (good_of_word hg) h
/-- a list's words: the good ones out of the method's own list, the others by premises of their own -/
theorem vx_hat {args : Array Value} {s : State} {L B : List Cond} (h1 : ∀ w ∈ L.filter goodWord, w.before args s = true) (h2 : ∀ w ∈ L.filter (fun w => !goodWord w), w ∈ B) (h3 : ∀ w ∈ B, w.before args s = true) : ∀ w ∈ L, w.before args s = true := by
  intro w hw
  by_cases g : goodWord w = true
  · exact h1 w (List.mem_filter.mpr ⟨hw, g⟩)
  · refine h3 w (h2 w (List.mem_filter.mpr ⟨hw, ?_⟩))
    show (!goodWord w) = true
    cases hgw : goodWord w
    · rfl
    · exact absurd hgw g
theorem vx_c {args : Array Value} {s : State} {w : Cond} {B : List Cond} (h : w.before args s = true) (t : ∀ w ∈ B, w.before args s = true) : ∀ w' ∈ w :: B, w'.before args s = true := fun w' h' => (List.mem_cons.mp h').elim (fun e => by rw [e]; exact h) (t w')
theorem vx_n {args : Array Value} {s : State} : ∀ w ∈ ([] : List Cond), w.before args s = true := fun _ h => nomatch h
theorem vx_own {args : Array Value} {s : State} {L : List Cond} (h1 : ∀ w ∈ L.filter vx_no, w.before args s = true)
    (hU : (Cond.isRef (.static Bundle.tN "UNASSIGNED_STACK" Bundle.steD)).before args s = true) (hN : (Cond.isRef (.static Bundle.tN "SUPPRESSED_SENTINEL" Bundle.listD)).before args s = true)
    (lU : (Cond.laysStatic Bundle.tN "UNASSIGNED_STACK" Bundle.steD).before args s = true) (lN : (Cond.laysStatic Bundle.tN "SUPPRESSED_SENTINEL" Bundle.listD).before args s = true) : ∀ w ∈ L, w.before args s = true := by
  intro w hw
  by_cases e1 : w = .isRef (.static Bundle.tN "UNASSIGNED_STACK" Bundle.steD)
  · rw [e1]; exact hU
  · by_cases e2 : w = .isRef (.static Bundle.tN "SUPPRESSED_SENTINEL" Bundle.listD)
    · rw [e2]; exact hN
    · by_cases e3 : w = .laysStatic Bundle.tN "UNASSIGNED_STACK" Bundle.steD
      · rw [e3]; exact lU
      · by_cases e4 : w = .laysStatic Bundle.tN "SUPPRESSED_SENTINEL" Bundle.listD
        · rw [e4]; exact lN
        · exact h1 w (List.mem_filter.mpr ⟨hw, by unfold vx_no; rw [decide_eq_true e1, decide_eq_true e2, decide_eq_true e3, decide_eq_true e4]; rfl⟩)
/-- where a static field lies, its class's statics cell in H -/
def vx_L (C n d : String) (A : Nat → Prop) (U : State) (H : Heap) : Prop := ∃ (c : ClassId) (k : Class) (i : Nat) (f : Field) (a : Nat) (cell : Cell), U.vm.findClass C = some c ∧ U.fieldFound? C n d = some (c, k, i, f) ∧ f.isStatic = true ∧ k.statics = some a ∧ H[a]? = some cell ∧ cell.vm.isStatics = true ∧ cell.cls = c ∧ f.slot < cell.slots.size ∧ k.staticTypes[f.slot]? = some f.type ∧ ¬ A a
theorem vx_L.moved {C n d : String} {A : Nat → Prop} {u U : State} {H : Heap} (hvm : u.vm.Alike U.vm) (h : vx_L C n d A u H) : vx_L C n d A U H := by
  obtain ⟨c, k, i, f, a, cell, h1, h2, h3, h4, h5, h6, h7, h8, h9, h10⟩ := h
  obtain ⟨k', hi', he⟩ := State.fieldFound?_setVm hvm h2
  exact ⟨c, k', i, f, a, cell, by rw [hvm.findClass]; exact h1, hi', h3, by rw [he]; exact h4, h5, h6, h7, h8, by rw [he]; exact h9, h10⟩
theorem vx_L.kept {C n d : String} {A : Nat → Prop} {U : State} {H H1 : Heap} (h : vx_L C n d A U H) (hq : ∀ a : Nat, a < H.size → ¬ A a → H1[a]? = H[a]?) : vx_L C n d A U H1 := by
  obtain ⟨c, k, i, f, a, cell, h1, h2, h3, h4, h5, h6, h7, h8, h9, h10⟩ := h
  exact ⟨c, k, i, f, a, cell, h1, h2, h3, h4, by rw [hq a (Array.getElem?_eq_some_iff.mp h5).1 h10]; exact h5, h6, h7, h8, h9, h10⟩
theorem vx_L.narrow {C n d : String} {A B : Nat → Prop} {U : State} {H : Heap} (h : vx_L C n d A U H) (hAB : ∀ q, B q → A q) : vx_L C n d B U H := by
  obtain ⟨c, k, i, f, a, cell, h1, h2, h3, h4, h5, h6, h7, h8, h9, h10⟩ := h
  exact ⟨c, k, i, f, a, cell, h1, h2, h3, h4, h5, h6, h7, h8, h9, fun z => h10 (hAB _ z)⟩
theorem vx_L.word {C n d : String} {A : Nat → Prop} {s : State} {args : Array Value} (h : vx_L C n d A s s.heap) : (Cond.laysStatic C n d).before args s = true := by
  obtain ⟨c, k, i, f, a, cell, h1, h2, h3, h4, h5, h6, h7, h8, h9, -⟩ := h
  show (Cond.laysStatic C n d).holds args s none s [] = true
  exact Cond.laysStatic_of h1 h2 h3 h4 h5 h6 h7 h8 h9
/-- .. and what it holds: null or some reference -/
def vx_Zq (C n d : String) (A : Nat → Prop) (U : State) (H : Heap) : Prop := va_Zq C n d A U H ∧ vx_L C n d A U H
theorem vx_Zq.moved {C n d : String} {A : Nat → Prop} {u U : State} {H : Heap} (hvm : u.vm.Alike U.vm) (h : vx_Zq C n d A u H) : vx_Zq C n d A U H := ⟨va_Zq.moved hvm h.1, vx_L.moved hvm h.2⟩
theorem vx_Zq.kept {C n d : String} {A : Nat → Prop} {U : State} {H H1 : Heap} (h : vx_Zq C n d A U H) (hq : ∀ a : Nat, a < H.size → ¬ A a → H1[a]? = H[a]?) : vx_Zq C n d A U H1 := ⟨va_Zq.kept h.1 hq, vx_L.kept h.2 hq⟩
theorem vx_Zq.narrow {C n d : String} {A B : Nat → Prop} {U : State} {H : Heap} (h : vx_Zq C n d A U H) (hAB : ∀ q, B q → A q) : vx_Zq C n d B U H := ⟨va_Zq.narrow h.1 hAB, vx_L.narrow h.2 hAB⟩
theorem vx_Zqof {args : Array Value} {s : State} {C n d : String} {A : Nat → Prop} (hl : (Cond.laysStatic C n d).before args s = true) (hini : (Cond.initialized C).before args s = true) (h : (Cond.isRef (.static C n d)).before args s = true) (hA : ∀ a : Nat, a < s.heap.size → ¬ A a) : vx_Zq C n d A s s.heap := by
  refine ⟨va_Zqof hl hini h hA, ?_⟩
  obtain ⟨c, k, i, f, a, cell, h1, h2, h3, h4, h5, h6, h7, h8, h9⟩ := Cond.laysStatic_spec hl
  exact ⟨c, k, i, f, a, cell, h1, h2, h3, h4, h5, h6, h7, h8, h9, hA a (Array.getElem?_eq_some_iff.mp h5).1⟩
theorem vx_isRef {C n d : String} {v : Value} {A : Nat → Prop} {s : State} {args : Array Value} (h : va_Z C n d v A s s.heap) (hv : v.isRef = true) : (Cond.isRef (.static C n d)).before args s = true := by
  obtain ⟨cf, kf, fi, f, a, cell, h1, h2, h3, h4, h5, h6, h7, -⟩ := h
  have he : (Term.static C n d).eval args s none [] s = some v := by
    simp [Term.eval, State.fieldNamed?, h1, h2, h4, h5, h6, h7]
  simp only [Cond.before, Cond.holds, Cond.value, he]
  cases v <;> simp_all [Value.isRef]
theorem vx_isRefq {C n d : String} {A : Nat → Prop} {s : State} {args : Array Value} (h : va_Zq C n d A s s.heap) : (Cond.isRef (.static C n d)).before args s = true := by
  rcases h with h | ⟨t, h⟩
  · exact vx_isRef h rfl
  · exact vx_isRef h rfl
/-- the same frame, seen from here: as if the method were called anew in this heap -/
theorem vx_rebase {T : State} (X : Stand p l e R s m args below meth c T locs cells slots) {R' : Room} (hf : R'.frames ≤ R.frames) (hl : R'.locals ≤ R.locals) (hc : cells + R'.cells ≤ R.cells) (hs : slots + R'.slots ≤ R.slots) :
    Stand p l e R' ((T.setVm s.vm).setFrames (.invoking m args :: below)) m args below meth c T [] 0 0 := by
  have htop : (T.setVm s.vm).topJava?.isSome := X.here.top
  have hF : ((T.setVm s.vm).setFrames (.invoking m args :: below)).frames = .invoking m args :: below := State.frames_setFrames _ (State.cur_lt_of_top htop)
  obtain ⟨g₀, hg0⟩ := Option.isSome_iff_exists.mp htop
  obtain ⟨r, hr⟩ := State.topJava?_eq_some.mp hg0
  have hl9 : e.platform.stackLimits (T.setVm s.vm).me = e.platform.stackLimits s.me := X.limits
  have hb9 : (T.setVm s.vm).me.stackBytes = s.me.stackBytes := X.bytes
  refine ⟨X.admits, X.cas, X.clock, hF, ?_, X.hears, X.method, X.code, X.here, X.tail, X.warmed, ?_, ?_, ?_⟩
  · have h := X.room
    have hU : ((T.setVm s.vm).setFrames (.invoking m args :: below)).localsInUse = s.localsInUse := by
      rw [State.localsInUse_invoking hF (meth := meth) (c := c) X.method X.code, State.localsInUse_invoking X.frames X.method X.code]
    simp only [State.hasRoom, Bool.and_eq_true, decide_eq_true_eq] at h ⊢
    obtain ⟨⟨⟨⟨h1, h2, h3, h4, h5, h6⟩, h7⟩, h8⟩, h9⟩ := h
    rw [X.frames, List.length_cons] at h2 h3
    have q1 := X.heapSize
    have q2 := X.used
    simp only [hF, hU, List.length_cons, State.stackLimits_setFrames, State.stackBytes_setFrames, hl9, hb9]
    refine ⟨⟨⟨⟨by omega, by omega, by omega, by omega, by omega, h6⟩, ?_⟩, ?_⟩, X.book⟩
    · show T.heap.size + R'.cells ≤ e.platform.maxCells
      omega
    · show T.slotsUsed + R'.slots ≤ e.platform.maxSlots
      omega
  · rw [State.stackLimits_setFrames]; rfl
  · rw [State.stackBytes_setFrames]; rfl
  · refine ⟨?_, Nat.le_refl _, Nat.le_refl _, ?_, ?_, fun a c9 h9 => ⟨c9, h9, rfl, rfl, fun _ _ => rfl⟩⟩
    · obtain ⟨t, ht, -⟩ := State.frames_cons hr
      show T.setVm s.vm = { ((T.setVm s.vm).setFrames (.invoking m args :: below)).setFrames (T.setVm s.vm).frames with heap := T.heap, slotsUsed := T.slotsUsed }
      rw [State.setFrames_setFrames, State.setFrames_self ht]
      rfl
    · show T.slotsUsed = T.slotsUsed + ((T.heap.toList.drop T.heap.size).map (·.slots.size)).sum
      rw [List.drop_eq_nil_of_le (Nat.le_of_eq Array.length_toList)]
      rfl
    · show ((T.heap.toList.drop T.heap.size).map (·.slots.size)).sum ≤ 0
      rw [List.drop_eq_nil_of_le (Nat.le_of_eq Array.length_toList)]
      exact Nat.le_refl _
/-- 'throw new E()': new; dup; invokespecial; athrow -/
theorem vx_throw0 {cc : ByteArray} {pc : Nat} (hexec : p.tables.exec = Jvm.exec) (hb : c.code = cc) (hl : l.stackTraces = false) {own cls : String} {names : List String} {ik ic mc ms : Nat} {A : Nat → Prop}
    (hown : s.vm.findClass own = some m.cls) (hcls : Bundle.fit cls = true) (hnames : ∀ n ∈ names, Bundle.fit n = true)
    (hk : (Cond.classLink own ik cls).before args s = true) (hini : (Cond.initialized cls).before args s = true) (hat : ∀ w ∈ vx_at0 own ic cls names, w.before args s = true)
    (hgood : ∀ w ∈ Cond.classLink own ik cls :: Cond.initialized cls :: vx_at0 own ic cls names, vx_ot w = true)
    (hU : vx_Zq Bundle.tN "UNASSIGNED_STACK" Bundle.steD A s s.heap) (hN : vx_Zq Bundle.tN "SUPPRESSED_SENTINEL" Bundle.listD A s s.heap) (hS : va_S A s.heap H locs) (hsize : ls.size = c.maxLocals)
    (d0 : decode cc pc = .ok (.new ik, 3)) (d3 : decode cc (pc + 3) = .ok (.dup, 1)) (d4 : decode cc (pc + 4) = .ok (.invokespecial ic, 3)) (d7 : decode cc (pc + 7) = .ok (.athrow, 1))
    (hout : ∀ x ∈ c.exceptionTable.toList, covers x (pc + 7) = false)
    (hRframes : names.length + 3 < R.frames) (hRlocals : (rest.map fun v => v.category).sum + (13 * (names.length + 1) + 42) ≤ R.locals) (hRcells : cells + 1 ≤ R.cells) (hRslots : slots + 6 ≤ R.slots) (hlocks : meth.locks = false)
    (hx : ∀ t : State, s.vm.Alike t.vm → H.size ≤ t.heap.size → (∀ q : Nat, q < H.size → t.heap[q]? = H[q]?) → XC cls s t)
    (hf : ∀ z ∈ locs, free z.base) (hc : cells + 1 ≤ mc) (hs : slots + 6 ≤ ms) :
    W p l e R s m args below meth c H locs cells slots (vx_MQ below Qc XC args s mc ms free) (F0 m pc ls rest) := by
  intro T hT X
  have htr : e.platform.stackTraces = false := (show e.platform.stackTraces = l.stackTraces by rw [X.admits.platform]).trans hl
  have Y := vx_rebase X (R' := { frames := R.frames, locals := R.locals, cells := 1, slots := 6 }) (Nat.le_refl _) (Nat.le_refl _) hRcells hRslots
  obtain ⟨s', hA⟩ : ∃ z, z = (T.setVm s.vm).setFrames (.invoking m args :: below) := ⟨_, rfl⟩
  rw [← hA] at Y
  have hvm : s'.vm = s.vm := by rw [hA]; rfl
  have hhp : s'.heap = H := by rw [hA]; exact hT
  have hW0 : s.WarmedH s'.vm := by rw [hvm]; exact State.WarmedH.refl s
  have hat' : ∀ w ∈ vx_at0 own ic cls names, w.before args s' = true := fun w hw => vx_ot_at hW0 hvm.symm (hgood w (List.mem_cons_of_mem _ (List.mem_cons_of_mem _ hw))) (hat w hw)
  have hk' : (Cond.classLink own ik cls).before args s' = true := vx_ot_at hW0 hvm.symm (hgood _ List.mem_cons_self) hk
  have hini' : (Cond.initialized cls).before args s' = true := vx_ot_at hW0 hvm.symm (hgood _ (List.mem_cons_of_mem _ List.mem_cons_self)) hini
  have hU' : vx_Zq Bundle.tN "UNASSIGNED_STACK" Bundle.steD A s' s'.heap := by rw [hhp]; exact vx_Zq.moved hW0.alike (hU.kept hS.2.1)
  have hN' : vx_Zq Bundle.tN "SUPPRESSED_SENTINEL" Bundle.listD A s' s'.heap := by rw [hhp]; exact vx_Zq.moved hW0.alike (hN.kept hS.2.1)
  have h : ∀ w ∈ Bundle.ownAtoms0 own ic cls names, w.before args s' = true := vx_own hat' (vx_isRefq hU'.1) (vx_isRefq hN'.1) hU'.2.word hN'.2.word
  have hown' : s'.vm.findClass own = some m.cls := by rw [hvm]; exact hown
  have hins : (Cond.instantiable cls 6).before args s' = true := h _ (by simp [Bundle.ownAtoms0])
  obtain ⟨vm₁, cX, kX, hfX, hkX, -, -, X₁, st1⟩ := Y.newCold hexec (own := own) (C := cls) (index := ik) (n := 6) hown' hk' hins hini'
    (g := F0 m pc ls rest) rfl (by rw [hb]; exact d0) (Nat.le_refl _) (Nat.le_refl _)
  generalize hT1 : (T.setVm vm₁).pushCell { cls := cX, slots := kX.instanceTypes.map defaultValue, vm := .none } = T1 at X₁ st1
  have hcat : (Value.ref T.heap.size).category = 1 := rfl
  have hcellA : T1.heap[T.heap.size]? = some (freshCell cX kX) := by rw [← hT1]; exact State.heap_pushCell_size _ _
  have d3' : decode c.code (pc + 3) = .ok (.dup, 1) := by rw [hb]; exact d3
  obtain ⟨U, hsteps, hrun, hend, hW, hsame, ce, hce, hO⟩ := X₁.ctorThrow0 hexec htr (own := own) (cls := cls) (names := names) (ic := ic) hown' hcls hnames h (fun x hx => nomatch hx) hfX hkX hcellA (by rw [hhp, hT]; exact Nat.le_refl _)
    (g := { method := m, pc := pc + 4, locals := ls, stack := .ref T.heap.size :: .ref T.heap.size :: rest, locked := none }) rfl hsize rfl rfl (rest := rest) rfl
    (by rw [hb]; exact d4) (by rw [hb]; exact d7) hout hRframes (by simp only [List.map_cons, List.sum_cons, hcat]; omega) hlocks
  obtain ⟨f1, f2⟩ := vx_frame hsame
  rw [hhp] at f1 f2
  have hWs : s.WarmedH U.vm := State.WarmedH.trans hW0 hW
  have hcl : s.vm.findClass cls = some ce.cls := by
    have h9 := hO.cls
    rw [hvm] at h9
    exact h9
  have hall : s.sameButNew ({ U with vm := s.vm } : State) locs mc ms := by
    subst hA
    obtain ⟨e1, e2⟩ := hsame
    rw [State.setFrames_setFrames] at e1
    have h2 : (T.setVm s.vm).sameButNew ({ U with vm := s.vm } : State) [] (0 + 1) (0 + 6) := ⟨e1, e2⟩
    have h3 := X.same.trans h2
    rw [List.append_nil] at h3
    exact h3.mono hc hs
  refine ⟨U, ?_, .threw T.heap.size, hrun, hend, Or.inr ⟨T.heap.size, rfl, cls, ce, locs, hx U hWs.alike f1 (fun q hq => f2 q hq (fun z hz => nomatch hz)), hce, hO.vm, hcl, hWs, hall, hf⟩⟩
  refine st1 _ ?_
  show Steps p.tables e below (T1.setTop { method := m, pc := pc + 3, locals := ls, stack := .ref T.heap.size :: rest, locked := none }) _
  jvm_step X₁.here [X₁.here.top, hexec, d3', Value.category]
  exact hsteps
/-- 'throw new E("text")': new; dup; ldc; invokespecial; athrow -/
theorem vx_throwS {cc : ByteArray} {pc : Nat} (hexec : p.tables.exec = Jvm.exec) (hb : c.code = cc) (hl : l.stackTraces = false) {own cls text : String} {names : List String} {ik is ic mc ms sa : Nat} {A : Nat → Prop}
    (hown : s.vm.findClass own = some m.cls) (hcls : Bundle.fit cls = true) (hnames : ∀ n ∈ names, Bundle.fit n = true)
    (hk : (Cond.classLink own ik cls).before args s = true) (hini : (Cond.initialized cls).before args s = true) (hstr : vk_R own is text sa s) (hat : ∀ w ∈ vx_atS own ic cls names, w.before args s = true)
    (hgood : ∀ w ∈ Cond.classLink own ik cls :: Cond.initialized cls :: vx_atS own ic cls names, vx_ot w = true)
    (hU : vx_Zq Bundle.tN "UNASSIGNED_STACK" Bundle.steD A s s.heap) (hN : vx_Zq Bundle.tN "SUPPRESSED_SENTINEL" Bundle.listD A s s.heap) (hS : va_S A s.heap H locs) (hsize : ls.size = c.maxLocals)
    (d0 : decode cc pc = .ok (.new ik, 3)) (d3 : decode cc (pc + 3) = .ok (.dup, 1)) (d4 : decode cc (pc + 4) = .ok (.ldc is, 2)) (d6 : decode cc (pc + 6) = .ok (.invokespecial ic, 3)) (d9 : decode cc (pc + 9) = .ok (.athrow, 1))
    (hout : ∀ x ∈ c.exceptionTable.toList, covers x (pc + 9) = false)
    (hRframes : names.length + 3 < R.frames) (hRlocals : (rest.map fun v => v.category).sum + (13 * (names.length + 1) + 43) ≤ R.locals) (hRcells : cells + 1 ≤ R.cells) (hRslots : slots + 6 ≤ R.slots) (hlocks : meth.locks = false)
    (hx : ∀ t : State, s.vm.Alike t.vm → H.size ≤ t.heap.size → (∀ q : Nat, q < H.size → t.heap[q]? = H[q]?) → XC cls s t)
    (hf : ∀ z ∈ locs, free z.base) (hc : cells + 1 ≤ mc) (hs : slots + 6 ≤ ms) :
    W p l e R s m args below meth c H locs cells slots (vx_MQ below Qc XC args s mc ms free) (F0 m pc ls rest) := by
  intro T hT X
  have htr : e.platform.stackTraces = false := (show e.platform.stackTraces = l.stackTraces by rw [X.admits.platform]).trans hl
  have Y := vx_rebase X (R' := { frames := R.frames, locals := R.locals, cells := 1, slots := 6 }) (Nat.le_refl _) (Nat.le_refl _) hRcells hRslots
  obtain ⟨s', hA⟩ : ∃ z, z = (T.setVm s.vm).setFrames (.invoking m args :: below) := ⟨_, rfl⟩
  rw [← hA] at Y
  have hvm : s'.vm = s.vm := by rw [hA]; rfl
  have hhp : s'.heap = H := by rw [hA]; exact hT
  have hW0 : s.WarmedH s'.vm := by rw [hvm]; exact State.WarmedH.refl s
  have hat' : ∀ w ∈ vx_atS own ic cls names, w.before args s' = true := fun w hw => vx_ot_at hW0 hvm.symm (hgood w (List.mem_cons_of_mem _ (List.mem_cons_of_mem _ hw))) (hat w hw)
  have hk' : (Cond.classLink own ik cls).before args s' = true := vx_ot_at hW0 hvm.symm (hgood _ List.mem_cons_self) hk
  have hini' : (Cond.initialized cls).before args s' = true := vx_ot_at hW0 hvm.symm (hgood _ (List.mem_cons_of_mem _ List.mem_cons_self)) hini
  have hU' : vx_Zq Bundle.tN "UNASSIGNED_STACK" Bundle.steD A s' s'.heap := by rw [hhp]; exact vx_Zq.moved hW0.alike (hU.kept hS.2.1)
  have hN' : vx_Zq Bundle.tN "SUPPRESSED_SENTINEL" Bundle.listD A s' s'.heap := by rw [hhp]; exact vx_Zq.moved hW0.alike (hN.kept hS.2.1)
  have h : ∀ w ∈ Bundle.ownAtoms own ic cls names, w.before args s' = true := vx_own hat' (vx_isRefq hU'.1) (vx_isRefq hN'.1) hU'.2.word hN'.2.word
  have hown' : s'.vm.findClass own = some m.cls := by rw [hvm]; exact hown
  have hins : (Cond.instantiable cls 6).before args s' = true := h _ (by simp [Bundle.ownAtoms])
  obtain ⟨vm₁, cX, kX, hfX, hkX, -, -, X₁, st1⟩ := Y.newCold hexec (own := own) (C := cls) (index := ik) (n := 6) hown' hk' hins hini'
    (g := F0 m pc ls rest) rfl (by rw [hb]; exact d0) (Nat.le_refl _) (Nat.le_refl _)
  generalize hT1 : (T.setVm vm₁).pushCell { cls := cX, slots := kX.instanceTypes.map defaultValue, vm := .none } = T1 at X₁ st1
  have hcat : (Value.ref T.heap.size).category = 1 := rfl
  have hcellA : T1.heap[T.heap.size]? = some (freshCell cX kX) := by rw [← hT1]; exact State.heap_pushCell_size _ _
  have d3' : decode c.code (pc + 3) = .ok (.dup, 1) := by rw [hb]; exact d3
  have d4' : decode c.code (pc + 4) = .ok (.ldc is, 2) := by rw [hb]; exact d4
  have hstr' : vk_R own is text sa s' := vk_R.warm hW0 hstr
  obtain ⟨U, hsteps, hrun, hend, hW, hsame, ce, hce, hO⟩ := X₁.ctorThrowS hexec htr (own := own) (cls := cls) (names := names) (ic := ic) hown' hcls hnames h (fun x hx => nomatch hx) hfX hkX hcellA (by rw [hhp, hT]; exact Nat.le_refl _) (msg := .ref sa) rfl
    (g := { method := m, pc := pc + 6, locals := ls, stack := .ref sa :: .ref T.heap.size :: .ref T.heap.size :: rest, locked := none }) rfl hsize rfl rfl (rest := rest) rfl
    (by rw [hb]; exact d6) (by rw [hb]; exact d9) hout hRframes (by simp only [List.map_cons, List.sum_cons, hcat]; omega) hlocks
  obtain ⟨f1, f2⟩ := vx_frame hsame
  rw [hhp] at f1 f2
  have hWs : s.WarmedH U.vm := State.WarmedH.trans hW0 hW
  have hcl : s.vm.findClass cls = some ce.cls := by
    have h9 := hO.cls
    rw [hvm] at h9
    exact h9
  have hall : s.sameButNew ({ U with vm := s.vm } : State) locs mc ms := by
    subst hA
    obtain ⟨e1, e2⟩ := hsame
    rw [State.setFrames_setFrames] at e1
    have h2 : (T.setVm s.vm).sameButNew ({ U with vm := s.vm } : State) [] (0 + 1) (0 + 6) := ⟨e1, e2⟩
    have h3 := X.same.trans h2
    rw [List.append_nil] at h3
    exact h3.mono hc hs
  refine ⟨U, ?_, .threw T.heap.size, hrun, hend, Or.inr ⟨T.heap.size, rfl, cls, ce, locs, hx U hWs.alike f1 (fun q hq => f2 q hq (fun z hz => nomatch hz)), hce, hO.vm, hcl, hWs, hall, hf⟩⟩
  refine st1 _ ?_
  show Steps p.tables e below (T1.setTop { method := m, pc := pc + 3, locals := ls, stack := .ref T.heap.size :: rest, locked := none }) _
  jvm_step X₁.here [X₁.here.top, hexec, d3', Value.category]
  exact X₁.ldcString hexec (own := own) (text := text) (index := is) (a := sa) hown' hstr'.1 hstr'.2
    (g := { method := m, pc := pc + 4, locals := ls, stack := .ref T.heap.size :: .ref T.heap.size :: rest, locked := none }) rfl d4' _ hsteps
/-- 'throw new E("text")', the text by a wide index -/
theorem vx_throwSW {cc : ByteArray} {pc : Nat} (hexec : p.tables.exec = Jvm.exec) (hb : c.code = cc) (hl : l.stackTraces = false) {own cls text : String} {names : List String} {ik is ic mc ms sa : Nat} {A : Nat → Prop}
    (hown : s.vm.findClass own = some m.cls) (hcls : Bundle.fit cls = true) (hnames : ∀ n ∈ names, Bundle.fit n = true)
    (hk : (Cond.classLink own ik cls).before args s = true) (hini : (Cond.initialized cls).before args s = true) (hstr : vk_R own is text sa s) (hat : ∀ w ∈ vx_atS own ic cls names, w.before args s = true)
    (hgood : ∀ w ∈ Cond.classLink own ik cls :: Cond.initialized cls :: vx_atS own ic cls names, vx_ot w = true)
    (hU : vx_Zq Bundle.tN "UNASSIGNED_STACK" Bundle.steD A s s.heap) (hN : vx_Zq Bundle.tN "SUPPRESSED_SENTINEL" Bundle.listD A s s.heap) (hS : va_S A s.heap H locs) (hsize : ls.size = c.maxLocals)
    (d0 : decode cc pc = .ok (.new ik, 3)) (d3 : decode cc (pc + 3) = .ok (.dup, 1)) (d4 : decode cc (pc + 4) = .ok (.ldc_w is, 3)) (d7 : decode cc (pc + 7) = .ok (.invokespecial ic, 3)) (d10 : decode cc (pc + 10) = .ok (.athrow, 1))
    (hout : ∀ x ∈ c.exceptionTable.toList, covers x (pc + 10) = false)
    (hRframes : names.length + 3 < R.frames) (hRlocals : (rest.map fun v => v.category).sum + (13 * (names.length + 1) + 43) ≤ R.locals) (hRcells : cells + 1 ≤ R.cells) (hRslots : slots + 6 ≤ R.slots) (hlocks : meth.locks = false)
    (hx : ∀ t : State, s.vm.Alike t.vm → H.size ≤ t.heap.size → (∀ q : Nat, q < H.size → t.heap[q]? = H[q]?) → XC cls s t)
    (hf : ∀ z ∈ locs, free z.base) (hc : cells + 1 ≤ mc) (hs : slots + 6 ≤ ms) :
    W p l e R s m args below meth c H locs cells slots (vx_MQ below Qc XC args s mc ms free) (F0 m pc ls rest) := by
  intro T hT X
  have htr : e.platform.stackTraces = false := (show e.platform.stackTraces = l.stackTraces by rw [X.admits.platform]).trans hl
  have Y := vx_rebase X (R' := { frames := R.frames, locals := R.locals, cells := 1, slots := 6 }) (Nat.le_refl _) (Nat.le_refl _) hRcells hRslots
  obtain ⟨s', hA⟩ : ∃ z, z = (T.setVm s.vm).setFrames (.invoking m args :: below) := ⟨_, rfl⟩
  rw [← hA] at Y
  have hvm : s'.vm = s.vm := by rw [hA]; rfl
  have hhp : s'.heap = H := by rw [hA]; exact hT
  have hW0 : s.WarmedH s'.vm := by rw [hvm]; exact State.WarmedH.refl s
  have hat' : ∀ w ∈ vx_atS own ic cls names, w.before args s' = true := fun w hw => vx_ot_at hW0 hvm.symm (hgood w (List.mem_cons_of_mem _ (List.mem_cons_of_mem _ hw))) (hat w hw)
  have hk' : (Cond.classLink own ik cls).before args s' = true := vx_ot_at hW0 hvm.symm (hgood _ List.mem_cons_self) hk
  have hini' : (Cond.initialized cls).before args s' = true := vx_ot_at hW0 hvm.symm (hgood _ (List.mem_cons_of_mem _ List.mem_cons_self)) hini
  have hU' : vx_Zq Bundle.tN "UNASSIGNED_STACK" Bundle.steD A s' s'.heap := by rw [hhp]; exact vx_Zq.moved hW0.alike (hU.kept hS.2.1)
  have hN' : vx_Zq Bundle.tN "SUPPRESSED_SENTINEL" Bundle.listD A s' s'.heap := by rw [hhp]; exact vx_Zq.moved hW0.alike (hN.kept hS.2.1)
  have h : ∀ w ∈ Bundle.ownAtoms own ic cls names, w.before args s' = true := vx_own hat' (vx_isRefq hU'.1) (vx_isRefq hN'.1) hU'.2.word hN'.2.word
  have hown' : s'.vm.findClass own = some m.cls := by rw [hvm]; exact hown
  have hins : (Cond.instantiable cls 6).before args s' = true := h _ (by simp [Bundle.ownAtoms])
  obtain ⟨vm₁, cX, kX, hfX, hkX, -, -, X₁, st1⟩ := Y.newCold hexec (own := own) (C := cls) (index := ik) (n := 6) hown' hk' hins hini'
    (g := F0 m pc ls rest) rfl (by rw [hb]; exact d0) (Nat.le_refl _) (Nat.le_refl _)
  generalize hT1 : (T.setVm vm₁).pushCell { cls := cX, slots := kX.instanceTypes.map defaultValue, vm := .none } = T1 at X₁ st1
  have hcat : (Value.ref T.heap.size).category = 1 := rfl
  have hcellA : T1.heap[T.heap.size]? = some (freshCell cX kX) := by rw [← hT1]; exact State.heap_pushCell_size _ _
  have d3' : decode c.code (pc + 3) = .ok (.dup, 1) := by rw [hb]; exact d3
  have d4' : decode c.code (pc + 4) = .ok (.ldc_w is, 3) := by rw [hb]; exact d4
  have hstr' : vk_R own is text sa s' := vk_R.warm hW0 hstr
  obtain ⟨U, hsteps, hrun, hend, hW, hsame, ce, hce, hO⟩ := X₁.ctorThrowS hexec htr (own := own) (cls := cls) (names := names) (ic := ic) hown' hcls hnames h (fun x hx => nomatch hx) hfX hkX hcellA (by rw [hhp, hT]; exact Nat.le_refl _) (msg := .ref sa) rfl
    (g := { method := m, pc := pc + 7, locals := ls, stack := .ref sa :: .ref T.heap.size :: .ref T.heap.size :: rest, locked := none }) rfl hsize rfl rfl (rest := rest) rfl
    (by rw [hb]; exact d7) (by rw [hb]; exact d10) hout hRframes (by simp only [List.map_cons, List.sum_cons, hcat]; omega) hlocks
  obtain ⟨f1, f2⟩ := vx_frame hsame
  rw [hhp] at f1 f2
  have hWs : s.WarmedH U.vm := State.WarmedH.trans hW0 hW
  have hcl : s.vm.findClass cls = some ce.cls := by
    have h9 := hO.cls
    rw [hvm] at h9
    exact h9
  have hall : s.sameButNew ({ U with vm := s.vm } : State) locs mc ms := by
    subst hA
    obtain ⟨e1, e2⟩ := hsame
    rw [State.setFrames_setFrames] at e1
    have h2 : (T.setVm s.vm).sameButNew ({ U with vm := s.vm } : State) [] (0 + 1) (0 + 6) := ⟨e1, e2⟩
    have h3 := X.same.trans h2
    rw [List.append_nil] at h3
    exact h3.mono hc hs
  refine ⟨U, ?_, .threw T.heap.size, hrun, hend, Or.inr ⟨T.heap.size, rfl, cls, ce, locs, hx U hWs.alike f1 (fun q hq => f2 q hq (fun z hz => nomatch hz)), hce, hO.vm, hcl, hWs, hall, hf⟩⟩
  refine st1 _ ?_
  show Steps p.tables e below (T1.setTop { method := m, pc := pc + 3, locals := ls, stack := .ref T.heap.size :: rest, locked := none }) _
  jvm_step X₁.here [X₁.here.top, hexec, d3', Value.category]
  exact X₁.ldcStringW hexec (own := own) (text := text) (index := is) (a := sa) hown' hstr'.1 hstr'.2
    (g := { method := m, pc := pc + 4, locals := ls, stack := .ref T.heap.size :: .ref T.heap.size :: rest, locked := none }) rfl d4' _ hsteps
end Ends
section Bodies
variable {l : Launch}
theorem vx_ofW {y : MethodName} {ws ws' : List Cond} {rm : Room} {Pc : Array Value → State → Prop} {Qc : Array Value → State → Outcome → State → Prop} {XC : String → State → State → Prop} {mc ms : Nat} {free : Addr → Prop} {cc : ByteArray} {maxL : Nat} {ret : Option FieldType}
    (hy : plainName y.cls = true) (hw : ws = Cond.code y cc maxL ret :: ws')
    (body : ∀ p e s m args below meth c s₁, BodyLoose p l y (headSpec ws rm) cc maxL ret e s m args below meth c s₁ → c.maxLocals = maxL → (∀ x ∈ c.exceptionTable.toList, False) → Pc args s →
      W p l e (headSpec ws rm).room s m args below meth c s.heap [] 0 0 (vx_MQ below Qc XC args s mc ms free) (entryFrame m args maxL)) : vx_Met l y ws rm Pc Qc XC mc ms free := by
  refine MetFree.of_bodyS (code := cc) (maxLocals := maxL) (ret := ret) hy ?_ ?_
  · intro args s m h hn
    obtain ⟨meth, c, h1, h2, h3, h4, h5, h6, -, -⟩ := Cond.code_spec hn (atoms_spec (ws := ws) h _ (by rw [hw]; exact List.mem_cons_self))
    exact ⟨meth, c, h1, h2, h3, h4, h5, h6⟩
  · intro p e s m args below meth c s₁ B hml hP _
    have hh0 : s₁.heap = s.heap := by rw [B.state]; rfl
    have ht : ∀ x ∈ c.exceptionTable.toList, False := by
      obtain ⟨meth9, c9, h1, h2, -, -, -, -, h7, -⟩ := Cond.code_spec B.named (atoms_spec (ws := ws) B.pre _ (by rw [hw]; exact List.mem_cons_self))
      cases Option.some.inj (h1.symm.trans B.method)
      cases Option.some.inj (h2.symm.trans (Stand.of_body B).code)
      intro x hx
      rw [Array.isEmpty_iff.mp h7] at hx
      cases hx
    obtain ⟨t, a1, o, b1, b2, b3⟩ := body p e s m args below meth c s₁ B hml ht hP s₁ hh0 (Stand.of_body B)
    exact ⟨t, o, a1, b1, b2, b3⟩
/-- the table of a body with handlers -/
theorem vx_table {p : Program} {x y : MethodName} {S : Spec} {cc bytes : ByteArray} {maxL maxL' : Nat} {ret ret' : Option FieldType} {e : Env} {s s₁ : State} {m : MethodId} {args : Array Value} {below : List Frame} {meth : Method} {c : Code} {hh : List (Nat × Nat × Nat × Nat)}
    (B : BodyLoose p l y S cc maxL ret e s m args below meth c s₁) (h : (Cond.codeWith y bytes maxL' ret' hh).before args s = true) : c.exceptionTable.toList = tableOf hh := by
  obtain ⟨m9, meth9, c9, hn9, h1, h2, -, -, h6, -⟩ := Cond.codeWith_spec h
  cases Option.some.inj (hn9.symm.trans B.named)
  cases Option.some.inj (h1.symm.trans B.method)
  cases Option.some.inj (h2.symm.trans (Stand.of_body B).code)
  rw [← h6, table_eq]
end Bodies
end VXA
/-! ===== END ===== -/
/-! ===== BEGIN a static call of a method with an exception table ===== -/
section VXS
variable {p : Program} {l : Launch} {e : Env} {R : Room} {s : State} {m : MethodId} {args : Array Value} {below : List Frame} {meth : Method} {c : Code} {T : State} {H : Heap} {locs : List Loc} {cells slots : Nat}
abbrev vx_CSW (R : Room) (s : State) (args : Array Value) (own : String) (index : Nat) (y : MethodName) (bytes : ByteArray) (maxL : Nat) (ret : Option FieldType) (hh : List (Nat × Nat × Nat × Nat)) (ws : List Cond) (rm : Room) (mc ms n : Nat) : Prop :=
  (rm.cells = mc ∧ rm.slots = ms ∧ rm.frames + 1 ≤ R.frames ∧ 8 + (maxL + 11) + rm.locals ≤ R.locals ∧ (∀ w ∈ ws, ∀ (a' : Array Value) (U : State), s.WarmedH U.vm → w.before a' U = true) ∧ Cond.codeWith y bytes maxL ret hh ∈ ws) ∧
  (Cond.codeWith y bytes maxL ret hh).before args s = true ∧ (Cond.initialized y.cls).before args s = true ∧ (y.cls ≠ "java/lang/invoke/MethodHandle" ∧ y.cls ≠ "java/lang/invoke/VarHandle") ∧
  (∀ sig, parseMethodDescriptor y.desc = some sig → n = sig.parameters.length) ∧ (Cond.methodLink own index y).before args s = true ∧ (Cond.static y).before args s = true
theorem vx_cwSW {own : String} {index maxL mc ms : Nat} {y : MethodName} {bytes : ByteArray} {ret : Option FieldType} {hh : List (Nat × Nat × Nat × Nat)} {Ts ws ws' : List Cond} {rm : Room} (n : Nat) (ht : ∀ w ∈ Ts, w.before args s = true) (hT : GoodIn Ts (va_wsS own index y ws)) (hw : ws = Cond.codeWith y bytes maxL ret hh :: ws') (hrc : rm.cells = mc) (hrs : rm.slots = ms)
    (hd : y.cls ≠ "java/lang/invoke/MethodHandle" ∧ y.cls ≠ "java/lang/invoke/VarHandle" ∧ (parseMethodDescriptor y.desc).map (fun d => d.parameters.length) = some n) (hR : rm.frames + 1 ≤ R.frames ∧ 8 + (maxL + 11) + rm.locals ≤ R.locals) :
    vx_CSW R s args own index y bytes maxL ret hh ws rm mc ms n := by
  have ok : ∀ w ∈ va_wsS own index y ws, w.before args s = true := fun w h => ht w (hT w h).1
  have hG : GoodIn Ts ws := fun w h => hT w (by unfold va_wsS; exact List.mem_append_right _ h)
  have hc : Cond.codeWith y bytes maxL ret hh ∈ ws := by rw [hw]; exact List.mem_cons_self
  refine ⟨⟨hrc, hrs, hR.1, hR.2, pay_in ht hG, hc⟩, ht _ (hG _ hc).1, ok _ (by simp [va_wsS]), ⟨hd.1, hd.2.1⟩, fun sig h => ?_, ok _ (by simp [va_wsS]), ok _ (by simp [va_wsS])⟩
  have h2 := hd.2.2
  rw [h] at h2
  exact (Option.some.inj h2).symm
theorem vx_callSW (X : Stand p l e R s m args below meth c T locs cells slots) (hexec : p.tables.exec = Jvm.exec) {own : String} {index : Nat} {y : MethodName} {bytes : ByteArray} {maxL : Nat} {ret : Option FieldType} {hh : List (Nat × Nat × Nat × Nat)}
    (hown : s.vm.findClass own = some m.cls) (hlink : (Cond.methodLink own index y).before args s = true) (hstat : (Cond.static y).before args s = true) (hinit : (Cond.initialized y.cls).before args s = true)
    (hcode : (Cond.codeWith y bytes maxL ret hh).before args s = true) (hy : y.cls ≠ "java/lang/invoke/MethodHandle" ∧ y.cls ≠ "java/lang/invoke/VarHandle")
    {W9 : Nat} {Pre : Pt → Array Value → Prop} {Post : Pt → Array Value → Option Value → Pt → Prop} (hK : Back l R p e below s args y 3 W9 Pre Post)
    {g : JFrame} (hg : g.method = m) (hsize : g.locals.size = c.maxLocals) {argsL rest : List Value} (hlen : ∀ sig, parseMethodDescriptor y.desc = some sig → argsL.length = sig.parameters.length)
    (hstack : g.stack = argsL.reverse ++ rest) (hW : 2 * g.monitorRoom + (rest.map fun v => v.category).sum ≤ W9) (hdg : decode c.code g.pc = .ok (.invokestatic index, 3))
    (hpre : ∀ vm₁, s.WarmedH vm₁ → Pre ⟨T.setVm vm₁, locs, cells, slots⟩ argsL.toArray) :
    ∃ (v : Option Value) (vm₁ : Vm) (B : Pt), s.WarmedH vm₁ ∧ Stand p l e R s m args below meth c B.U B.locs B.cells B.slots ∧ Post ⟨T.setVm vm₁, locs, cells, slots⟩ argsL.toArray v B ∧
      ∀ target, Steps p.tables e below (B.U.setTop { g with pc := g.pc + 3, stack := v.toList ++ rest }) target → Steps p.tables e below (T.setTop g) target := by
  obtain ⟨mk, methM, cM, hnamed, hmethM, -, -, -, -, -, -, hsigM⟩ := Cond.codeWith_spec hcode
  have hstatic : methM.isStatic = true := Cond.static_spec hnamed hmethM hstat
  obtain ⟨kP, hkP, -⟩ := className_of_methodNamed hnamed
  have hinitP : kP.init = .initialized := Cond.initialized_spec (findClass_of_methodNamed hnamed) hkP hinit
  obtain ⟨vm₁, X₁, hstep₁⟩ := X.invokestatic hexec hown hlink hnamed hmethM hstatic hkP hinitP hy (g := g) hg (argsL := argsL) (rest := rest) (hlen _ hsigM) hstack hdg
  obtain ⟨v, B, X', hpost, hsteps⟩ := hK m meth c ⟨T.setVm vm₁, locs, cells, slots⟩ { g with stack := rest } (.invokestatic index) mk argsL.toArray X₁ hg hsize hdg hW (X₁.named hnamed) (hpre vm₁ X₁.warmed)
  exact ⟨v, vm₁, B, X₁.warmed, X', hpost, fun target h => hstep₁ _ fun acts => by rw [doInvoke_state]; exact hsteps.trans h⟩
theorem vx_runSW {y : MethodName} {bytes cc : ByteArray} {maxL nL mc ms n index : Nat} {ret : Option FieldType} {hh : List (Nat × Nat × Nat × Nat)} {ws : List Cond} {rm : Room} {Pc : Array Value → State → Prop} {Qc : Array Value → State → Outcome → State → Prop} {free : Addr → Prop} {Ts : List Cond} {own : String} {As rest : List Value} {g : JFrame}
    (S : CallFix p m c cc nL s args Ts own) (hM : Met l y ws rm Pc Qc mc ms free) (cw : vx_CSW R s args own index y bytes maxL ret hh ws rm mc ms n) (hp : PreS s H Pc As)
    (hg : g.method = m) (hn : As.length = n) (hsize : g.locals.size = nL) (hstack : g.stack = As.reverse ++ rest) (hW : 2 * g.monitorRoom + (rest.map fun v => v.category).sum ≤ 8) (hdg : decode cc g.pc = .ok (.invokestatic index, 3)) (hf : cells + mc ≤ R.cells ∧ slots + ms ≤ R.slots) :
    va_Run p l e R s m args below meth c H locs cells slots mc ms g rest (Qc As.toArray) (free) := by
  obtain ⟨⟨hrc, hrs, hfr, hlo, hws, hcw⟩, hcode, hini, hy, hlen, hl, hstt⟩ := cw
  have hK : Back l R p e below s args y 3 8 (PreOf R mc ms Pc) (PostOf Qc mc ms free) := va_backW (hh := hh) (bytes := bytes) (maxL := maxL) (ret := ret) hM hp.1 hrc hrs hfr hlo hws hcw (fun a' U hW => word_at hW (Or.inl (by first | rfl | simp [Cond.onTables, Cond.keeps, Cond.steady])) hini)
  obtain ⟨hx, hb, hml, ho, -⟩ := S
  intro T hT X
  obtain ⟨v, vm₁, ⟨U', l2, c2, s2⟩, hW₁, X', ⟨g', mk, t, L, e1, e2, hq, h1, hL, h2, h3⟩, st⟩ := vx_callSW X hx (hh := hh) (bytes := bytes) (maxL := maxL) (ret := ret) ho hl hstt hini hcode hy hK hg (hsize.trans hml.symm) (argsL := As) (rest := rest) (fun sig h => hn.trans (hlen sig h)) hstack hW (by rw [hb]; exact hdg)
    (fun vm₁ hW₁ => ⟨hf.1, hf.2, hp.2 (T.setVm vm₁) hT hW₁⟩)
  dsimp only [Pt.U, Pt.locs, Pt.cells, Pt.slots] at X' e1 e2 h1 h2 h3 st
  subst h1; subst h2; subst h3
  exact ⟨v, (T.setVm vm₁).calling g' mk As.toArray, t, U', L, hT, X', hL, e1, e2, hq, st⟩
/-- not caught here, past rows that name other classes: it goes on to the caller -/
theorem vx_outP {p : Program} {l : Launch} {e : Env} {R : Room} {s : State} {m : MethodId} {args : Array Value} {below : List Frame} {meth : Method} {c : Code} {H : Heap} {locs : List Loc} {cells slots : Nat} {free : Addr → Prop} {ls : Array Slot} {rest : List Value} {Qc : Array Value → State → Outcome → State → Prop} {XC : String → State → State → Prop}
    {pc : Nat} {own E : String} {ce : Cell} {q : Addr} {mc ms : Nat} (hown : s.vm.findClass own = some m.cls) (hlocks : meth.locks = false)
    (hpass : ∀ z ∈ c.exceptionTable.toList, covers z pc = false ∨ (z.catchType ≠ 0 ∧ ∃ nm : String, (Cond.classLink own z.catchType nm).before args s = true ∧ va_Nc E nm s)) (hcell : H[q]? = some ce) (hv : ce.vm = .none) (hcl : s.vm.findClass E = some ce.cls)
    (hx : ∀ t : State, t.heap = H → s.vm.Alike t.vm → XC E s t) (hf : ∀ z ∈ locs, free z.base) (hc : cells ≤ mc) (hs : slots ≤ ms) :
    vx_W p l e R s m args below meth c H locs cells slots (vx_MQ below Qc XC args s mc ms free) (F0 m pc ls rest) q := by
  intro T hT X
  have hpl : e.platform.magicAccessors = ({} : Platform).magicAccessors := by rw [X.admits.platform]
  obtain ⟨vm', hW', X', st⟩ := X.outThrough hlocks q (g := F0 m pc ls rest) rfl rfl rfl (cell := ce) (by rw [hT]; exact hcell) (by rw [hv]; rfl)
    (by obtain ⟨k9, h9, -⟩ := Vm.findClass_spec hcl; exact ⟨k9, h9⟩) (fun z hz => by
      rcases hpass z hz with h | ⟨hz0, nm, hl1, hn1⟩
      · exact Or.inl h
      · obtain ⟨c6, hc6, hcl6⟩ := Cond.classLink_spec hown hl1 e.platform hpl
        obtain ⟨a8, b8, h1, h2, h3⟩ := hn1
        cases Option.some.inj (h1.symm.trans hcl)
        cases Option.some.inj (h2.symm.trans hc6)
        exact Or.inr ⟨hz0, _, hcl6, h3⟩)
  obtain ⟨g₀, hfr⟩ := X'.frames_eq
  have hcell9 : ((T.setVm vm').setFrames (.throwing q :: below)).heap[q]? = some ce := by
    show T.heap[q]? = some ce
    rw [hT]; exact hcell
  have hend : Ended ((T.setVm vm').setFrames (.throwing q :: below)) below (.threw q) := State.frames_setFrames _ (State.cur_lt_of_frames hfr)
  refine ⟨(T.setVm vm').setFrames (.throwing q :: below), ?_, .threw q, X'.here.running, hend, Or.inr ⟨q, rfl, E, ce, locs, hx _ hT (X'.ends _).1.alike, hcell9, hv, hcl, (X'.ends _).1, (X'.ends _).2.mono hc hs, hf⟩⟩
  rw [X.pushThrowing_eq]
  exact st
/-- a thing of a world lies in the heap -/
theorem vx_lt {D : va_G} {cl : List vw_C} {ws : va_W} {H1 : Heap} (h : va_P D cl ws H1) {k : Nat} {q : Nat × va_E} (hk : ws[k]? = some q) : q.1 < H1.size := (h k q hk).lt
end VXS
/-! ===== END ===== -/
/-! ===== BEGIN methods with a table of their own: called by a name, returning or throwing ===== -/
section VXH
/-! vx_backW, vx_callVX, vx_callSX, vx_callVW, vx_runVW, vx_runVX, vx_runSX, vx_ofWH follow the same proofs as their sisters above (Free/Laws.lean, Shelf42/LK1.lean); vx_outP calls Shelf42/NT130.lean (outThrough). -/
section
variable {l : Launch} {R : Room} {p : Program} {e : Env} {below : List Frame} {s : State} {sargs : Array Value} {y : MethodName} {len W9 : Nat}
theorem vx_backW {ws : List Cond} {rm : Room} {Pc : Array Value → State → Prop} {Qc : Array Value → State → Outcome → State → Prop} {XC : String → State → State → Prop} {mc ms : Nat} {free : Addr → Prop} {bytes : ByteArray} {maxL : Nat} {ret : Option FieldType} {hh : List (Nat × Nat × Nat × Nat)}
    (hM : vx_Met l y ws rm Pc Qc XC mc ms free) (hblind : FrameBlind Pc) (hrc : rm.cells = mc) (hrs : rm.slots = ms)
    (hframes : rm.frames + 1 ≤ R.frames) (hlocals : W9 + (maxL + 11) + rm.locals ≤ R.locals)
    (hws : ∀ w ∈ ws, ∀ a' U, s.WarmedH U.vm → w.before a' U = true) (hcode : Cond.codeWith y bytes maxL ret hh ∈ ws) (hinit : ∀ a' U, s.WarmedH U.vm → (Cond.initialized y.cls).before a' U = true) :
    vx_Back l R p e below s sargs y len W9 (PreOf R mc ms Pc) (PostOf Qc mc ms free) (vx_Post XC mc ms free) := by
  intro m meth c A g ig mk a X hg hsize hdg hW hn hp
  have h1 : (headSpec ws rm).pre.before a A.U = true := atoms_intro fun w hw => hws w hw _ _ X.warmed
  have h2 : (Cond.codeWith y bytes maxL ret hh).before a A.U = true := hws _ hcode _ _ X.warmed
  have h3 : (Cond.initialized y.cls).before a A.U = true := hinit _ _ X.warmed
  have h4 : A.cells + (headSpec ws rm).room.cells ≤ R.cells := by rw [show (headSpec ws rm).room.cells = mc from hrc]; exact hp.1
  have h5 : A.slots + (headSpec ws rm).room.slots ≤ R.slots := by rw [show (headSpec ws rm).room.slots = ms from hrs]; exact hp.2.1
  have hPc : Pc a (A.U.calling g mk a) := hblind _ _ _ _ hp.2.2
  obtain ⟨U, Ls, c0, s0⟩ := A
  dsimp only [Pt.U, Pt.locs, Pt.cells, Pt.slots] at h1 h2 h3 h4 h5 X hn hPc ⊢
  obtain ⟨m9, methY, cY, hn9, hmY, hcY, -, hlY, -⟩ := Cond.codeWith_spec h2
  cases Option.some.inj (hn9.symm.trans hn)
  obtain ⟨kY, hkY, -⟩ := className_of_methodNamed hn
  have hinitY : kY.init = .initialized := Cond.initialized_spec (findClass_of_methodNamed hn) hkY h3
  have h : At U g.method c below := by rw [hg]; exact X.here
  have hlocals9 : W9 + (maxL + 11) + (headSpec ws rm).room.locals ≤ R.locals := hlocals
  have happ : (headSpec ws rm).appliesLoose y e.platform (U.calling g mk a) = true :=
    Spec.appliesLoose_calling (g := g) h hdg hn hkY hinitY
      (X.room_calling (g := g) (R' := (headSpec ws rm).room) hsize hmY hcY hframes (by rw [hlY]; omega) h4 h5) h1
  obtain ⟨mid, hmid⟩ := h.above
  have hfr : (U.setTop g).frames = (.java g :: mid) ++ below := by rw [State.frames_setTop' g h.top, hmid]; rfl
  obtain ⟨o, s₂, hsteps, -, hend, hq⟩ := Steps.callFree hM p X.admits X.cas X.clock (acts := []) hfr happ hPc trivial
  have hq' : vx_Q Qc XC mc ms free a (U.calling g mk a) o s₂ := hq
  rw [State.frames_setTop' g h.top] at hend
  obtain ⟨g₀, hg0⟩ := Option.isSome_iff_exists.mp h.top
  obtain ⟨r, hr⟩ := State.topJava?_eq_some.mp hg0
  have hr' : (({ U with heap := s₂.heap, slotsUsed := s₂.slotsUsed } : State).setVm s₂.vm).frames = .java g₀ :: r := hr
  rcases hq' with ⟨hqc, L, hfe, hL⟩ | ⟨q, rfl, E, ce, L, hx, hce, hcv, hcl, hW₂, hsm, hL⟩
  · obtain ⟨⟨v, rfl⟩, hW₂, e2, q2, q3, q4, q5, q6⟩ := id hfe
    have e3 : s₂ = ({ (U.calling g mk a).setFrames s₂.frames with heap := s₂.heap, slotsUsed := s₂.slotsUsed } : State).setVm s₂.vm := by
      have : s₂ = ({ s₂ with vm := (U.calling g mk a).vm } : State).setVm s₂.vm := rfl
      rw [e2] at this
      exact this
    obtain ⟨c₂, i₂, len₂, hc₂, hd₂, hf₂⟩ := hend
    have hW' : U.WarmedH s₂.vm := hW₂
    have hcc : c₂ = c := by
      have h1 : s₂.code? g.method = U.code? g.method := by
        rw [State.code?_eq, State.code?_eq, hW'.alike.method?]
      exact Option.some.inj (hc₂.symm.trans (h1.trans h.code))
    subst hcc
    have hlen : len₂ = len := by rw [hdg] at hd₂; cases hd₂; rfl
    subst hlen
    have hs₂ : s₂ = (({ U with heap := s₂.heap, slotsUsed := s₂.slotsUsed } : State).setVm s₂.vm).setTop { g with pc := g.pc + len₂, stack := v.toList ++ g.stack } := by
      refine e3.trans ?_
      rw [hf₂, State.calling_eq h.top, State.setFrames_setFrames, State.setTop_of_frames _ hr', hr]
      rfl
    have hsame : U.sameButNew ({ U with heap := s₂.heap, slotsUsed := s₂.slotsUsed } : State) L mc ms := by
      refine ⟨?_, q2, q3, q4, q5, q6⟩
      obtain ⟨t, ht, -⟩ := State.frames_cons hr
      show ({ U with heap := s₂.heap, slotsUsed := s₂.slotsUsed } : State) = { U.setFrames U.frames with heap := s₂.heap, slotsUsed := s₂.slotsUsed }
      rw [State.setFrames_self ht]
    subst hg
    refine Or.inl ⟨v, ⟨(({ U with heap := s₂.heap, slotsUsed := s₂.slotsUsed } : State).setVm s₂.vm), Ls ++ L, c0 + mc, s0 + ms⟩,
      ⟨X.admits, X.cas, X.clock, X.frames, X.room, X.hears, X.method, X.code, (X.here.setHeapUsed s₂.heap s₂.slotsUsed).setVm hW'.alike, X.tail, State.WarmedH.trans X.warmed hW', X.limits, X.bytes, X.same.trans (hsame.setVm s.vm)⟩,
      ⟨g, mk, s₂, L, rfl, rfl, hqc, rfl, hL, rfl, rfl⟩, ?_⟩
    show Steps p.tables e below _ ((({ U with heap := s₂.heap, slotsUsed := s₂.slotsUsed } : State).setVm s₂.vm).setTop { g with pc := g.pc + len₂, stack := v.toList ++ g.stack })
    rw [← hs₂]
    exact hsteps
  · obtain ⟨e2, q2, q3, q4, q5, q6⟩ := id hsm
    have e3 : s₂ = ({ (U.calling g mk a).setFrames s₂.frames with heap := s₂.heap, slotsUsed := s₂.slotsUsed } : State).setVm s₂.vm := by
      have : s₂ = ({ s₂ with vm := (U.calling g mk a).vm } : State).setVm s₂.vm := rfl
      rw [e2] at this
      exact this
    have hf₂ : s₂.frames = .throwing q :: .java g :: U.frames.tail := hend
    have hW' : U.WarmedH s₂.vm := hW₂
    have hs₂ : s₂ = ((({ U with heap := s₂.heap, slotsUsed := s₂.slotsUsed } : State).setVm s₂.vm).setTop g).pushFrame (.throwing q) := by
      refine e3.trans ?_
      rw [hf₂, State.calling_eq h.top, State.setFrames_setFrames, State.pushFrame, State.frames_setTop _ hr', State.setTop_of_frames _ hr', State.setFrames_setFrames, hr]
      rfl
    have hsame : U.sameButNew ({ U with heap := s₂.heap, slotsUsed := s₂.slotsUsed } : State) L mc ms := by
      refine ⟨?_, q2, q3, q4, q5, q6⟩
      obtain ⟨t, ht, -⟩ := State.frames_cons hr
      show ({ U with heap := s₂.heap, slotsUsed := s₂.slotsUsed } : State) = { U.setFrames U.frames with heap := s₂.heap, slotsUsed := s₂.slotsUsed }
      rw [State.setFrames_self ht]
    subst hg
    refine Or.inr ⟨q, ⟨(({ U with heap := s₂.heap, slotsUsed := s₂.slotsUsed } : State).setVm s₂.vm), Ls ++ L, c0 + mc, s0 + ms⟩,
      ⟨X.admits, X.cas, X.clock, X.frames, X.room, X.hears, X.method, X.code, (X.here.setHeapUsed s₂.heap s₂.slotsUsed).setVm hW'.alike, X.tail, State.WarmedH.trans X.warmed hW', X.limits, X.bytes, X.same.trans (hsame.setVm s.vm)⟩,
      ⟨g, mk, s₂, L, E, ce, rfl, rfl, hx, hce, hcv, hcl, rfl, hL, rfl, rfl⟩, ?_⟩
    show Steps p.tables e below _ (((({ U with heap := s₂.heap, slotsUsed := s₂.slotsUsed } : State).setVm s₂.vm).setTop g).pushFrame (.throwing q))
    rw [← hs₂]
    exact hsteps
end
variable {p : Program} {l : Launch} {e : Env} {R : Room} {s : State} {m : MethodId} {args : Array Value} {below : List Frame} {meth : Method} {c : Code} {T : State} {H : Heap} {locs : List Loc} {cells slots : Nat}
theorem vx_callVX (X : Stand p l e R s m args below meth c T locs cells slots) (hexec : p.tables.exec = Jvm.exec) {own C : String} {index : Nat} {y : MethodName} {bytes : ByteArray} {maxL : Nat} {ret : Option FieldType} {hh : List (Nat × Nat × Nat × Nat)}
    (hown : s.vm.findClass own = some m.cls) (hlink : (Cond.methodLink own index y).before args s = true) (hinst : (Cond.instanceMethod y).before args s = true) (hsel : (Cond.selects C y y).before args s = true)
    (hcode : (Cond.codeWith y bytes maxL ret hh).before args s = true) (hy : y.cls ≠ "java/lang/invoke/MethodHandle" ∧ y.cls ≠ "java/lang/invoke/VarHandle")
    {W9 : Nat} {Pre : Pt → Array Value → Prop} {Post : Pt → Array Value → Option Value → Pt → Prop} {PostX : Pt → Array Value → Addr → Pt → Prop} (hK : vx_Back l R p e below s args y 3 W9 Pre Post PostX)
    {b : Addr} {cellB : Cell} (hcell : T.heap[b]? = some cellB) (hobj : cellB.vm.isStatics = false) (hcls : s.vm.findClass C = some cellB.cls)
    {g : JFrame} (hg : g.method = m) (hsize : g.locals.size = c.maxLocals) {argsL rest : List Value} (hlen : ∀ sig, parseMethodDescriptor y.desc = some sig → argsL.length = sig.parameters.length)
    (hstack : g.stack = argsL.reverse ++ .ref b :: rest) (hW : 2 * g.monitorRoom + (rest.map fun v => v.category).sum ≤ W9) (hdg : decode c.code g.pc = .ok (.invokevirtual index, 3))
    (hpre : ∀ vm₁, s.WarmedH vm₁ → Pre ⟨T.setVm vm₁, locs, cells, slots⟩ (Value.ref b :: argsL).toArray) :
    (∃ (v : Option Value) (vm₁ : Vm) (B : Pt), s.WarmedH vm₁ ∧ Stand p l e R s m args below meth c B.U B.locs B.cells B.slots ∧ Post ⟨T.setVm vm₁, locs, cells, slots⟩ (Value.ref b :: argsL).toArray v B ∧
      ∀ target, Steps p.tables e below (B.U.setTop { g with pc := g.pc + 3, stack := v.toList ++ rest }) target → Steps p.tables e below (T.setTop g) target) ∨
    (∃ (q : Addr) (vm₁ : Vm) (B : Pt), s.WarmedH vm₁ ∧ Stand p l e R s m args below meth c B.U B.locs B.cells B.slots ∧ PostX ⟨T.setVm vm₁, locs, cells, slots⟩ (Value.ref b :: argsL).toArray q B ∧
      Steps p.tables e below (T.setTop g) ((B.U.setTop { g with stack := rest }).pushFrame (.throwing q))) := by
  obtain ⟨mk, methM, hnamed, hmethM, hstM, habM⟩ := Cond.instanceMethod_spec hinst
  obtain ⟨m8, methM', cM, hn8, hmethM', -, -, -, -, -, -, hsigM⟩ := Cond.codeWith_spec hcode
  cases Option.some.inj (hn8.symm.trans hnamed)
  cases hmethM.symm.trans hmethM'
  obtain ⟨c2, r2, m2, q1, q2, q3, q4, kP, hkP, hkPi⟩ := Cond.selects_spec hsel
  cases hcls.symm.trans q1
  cases (State.methodFound?_of_named hnamed hy).symm.trans q2
  cases hnamed.symm.trans q3
  have hselP : selectMethod e.platform s.vm cellB.cls mk = .method mk := by rw [Launch.admits_selectMethod X.admits]; exact q4
  obtain ⟨vm₁, X₁, hstep₁⟩ := X.invokevirtual hexec hown hlink hnamed hmethM hstM hkP hkPi hy (a := b) (cell := cellB) hcell
    (fun z h => by rw [h] at hobj; cases hobj) hselP hmethM habM hkP hkPi (g := g) hg (argsL := argsL) (rest := rest) (hlen _ hsigM) hstack hdg
  rcases hK m meth c ⟨T.setVm vm₁, locs, cells, slots⟩ { g with stack := rest } (.invokevirtual index) mk (Value.ref b :: argsL).toArray X₁ hg hsize hdg hW (X₁.named hnamed) (hpre vm₁ X₁.warmed) with ⟨v, B, X', hpost, hsteps⟩ | ⟨q, B, X', hpost, hsteps⟩
  · exact Or.inl ⟨v, vm₁, B, X₁.warmed, X', hpost, fun target h => hstep₁ _ fun acts => by rw [doInvoke_state]; exact hsteps.trans h⟩
  · exact Or.inr ⟨q, vm₁, B, X₁.warmed, X', hpost, hstep₁ _ fun acts => by rw [doInvoke_state]; exact hsteps⟩
theorem vx_callSX (X : Stand p l e R s m args below meth c T locs cells slots) (hexec : p.tables.exec = Jvm.exec) {own : String} {index : Nat} {y : MethodName} {bytes : ByteArray} {maxL : Nat} {ret : Option FieldType} {hh : List (Nat × Nat × Nat × Nat)}
    (hown : s.vm.findClass own = some m.cls) (hlink : (Cond.methodLink own index y).before args s = true) (hstat : (Cond.static y).before args s = true) (hinit : (Cond.initialized y.cls).before args s = true)
    (hcode : (Cond.codeWith y bytes maxL ret hh).before args s = true) (hy : y.cls ≠ "java/lang/invoke/MethodHandle" ∧ y.cls ≠ "java/lang/invoke/VarHandle")
    {W9 : Nat} {Pre : Pt → Array Value → Prop} {Post : Pt → Array Value → Option Value → Pt → Prop} {PostX : Pt → Array Value → Addr → Pt → Prop} (hK : vx_Back l R p e below s args y 3 W9 Pre Post PostX)
    {g : JFrame} (hg : g.method = m) (hsize : g.locals.size = c.maxLocals) {argsL rest : List Value} (hlen : ∀ sig, parseMethodDescriptor y.desc = some sig → argsL.length = sig.parameters.length)
    (hstack : g.stack = argsL.reverse ++ rest) (hW : 2 * g.monitorRoom + (rest.map fun v => v.category).sum ≤ W9) (hdg : decode c.code g.pc = .ok (.invokestatic index, 3))
    (hpre : ∀ vm₁, s.WarmedH vm₁ → Pre ⟨T.setVm vm₁, locs, cells, slots⟩ argsL.toArray) :
    (∃ (v : Option Value) (vm₁ : Vm) (B : Pt), s.WarmedH vm₁ ∧ Stand p l e R s m args below meth c B.U B.locs B.cells B.slots ∧ Post ⟨T.setVm vm₁, locs, cells, slots⟩ argsL.toArray v B ∧
      ∀ target, Steps p.tables e below (B.U.setTop { g with pc := g.pc + 3, stack := v.toList ++ rest }) target → Steps p.tables e below (T.setTop g) target) ∨
    (∃ (q : Addr) (vm₁ : Vm) (B : Pt), s.WarmedH vm₁ ∧ Stand p l e R s m args below meth c B.U B.locs B.cells B.slots ∧ PostX ⟨T.setVm vm₁, locs, cells, slots⟩ argsL.toArray q B ∧
      Steps p.tables e below (T.setTop g) ((B.U.setTop { g with stack := rest }).pushFrame (.throwing q))) := by
  obtain ⟨mk, methM, cM, hnamed, hmethM, -, -, -, -, -, -, hsigM⟩ := Cond.codeWith_spec hcode
  have hstatic : methM.isStatic = true := Cond.static_spec hnamed hmethM hstat
  obtain ⟨kP, hkP, -⟩ := className_of_methodNamed hnamed
  have hinitP : kP.init = .initialized := Cond.initialized_spec (findClass_of_methodNamed hnamed) hkP hinit
  obtain ⟨vm₁, X₁, hstep₁⟩ := X.invokestatic hexec hown hlink hnamed hmethM hstatic hkP hinitP hy (g := g) hg (argsL := argsL) (rest := rest) (hlen _ hsigM) hstack hdg
  rcases hK m meth c ⟨T.setVm vm₁, locs, cells, slots⟩ { g with stack := rest } (.invokestatic index) mk argsL.toArray X₁ hg hsize hdg hW (X₁.named hnamed) (hpre vm₁ X₁.warmed) with ⟨v, B, X', hpost, hsteps⟩ | ⟨q, B, X', hpost, hsteps⟩
  · exact Or.inl ⟨v, vm₁, B, X₁.warmed, X', hpost, fun target h => hstep₁ _ fun acts => by rw [doInvoke_state]; exact hsteps.trans h⟩
  · exact Or.inr ⟨q, vm₁, B, X₁.warmed, X', hpost, hstep₁ _ fun acts => by rw [doInvoke_state]; exact hsteps⟩
theorem vx_callVW (X : Stand p l e R s m args below meth c T locs cells slots) (hexec : p.tables.exec = Jvm.exec) {own C : String} {index : Nat} {y : MethodName} {bytes : ByteArray} {maxL : Nat} {ret : Option FieldType} {hh : List (Nat × Nat × Nat × Nat)}
    (hown : s.vm.findClass own = some m.cls) (hlink : (Cond.methodLink own index y).before args s = true) (hinst : (Cond.instanceMethod y).before args s = true) (hsel : (Cond.selects C y y).before args s = true)
    (hcode : (Cond.codeWith y bytes maxL ret hh).before args s = true) (hy : y.cls ≠ "java/lang/invoke/MethodHandle" ∧ y.cls ≠ "java/lang/invoke/VarHandle")
    {W9 : Nat} {Pre : Pt → Array Value → Prop} {Post : Pt → Array Value → Option Value → Pt → Prop} (hK : Back l R p e below s args y 3 W9 Pre Post)
    {b : Addr} {cellB : Cell} (hcell : T.heap[b]? = some cellB) (hobj : cellB.vm.isStatics = false) (hcls : s.vm.findClass C = some cellB.cls)
    {g : JFrame} (hg : g.method = m) (hsize : g.locals.size = c.maxLocals) {argsL rest : List Value} (hlen : ∀ sig, parseMethodDescriptor y.desc = some sig → argsL.length = sig.parameters.length)
    (hstack : g.stack = argsL.reverse ++ .ref b :: rest) (hW : 2 * g.monitorRoom + (rest.map fun v => v.category).sum ≤ W9) (hdg : decode c.code g.pc = .ok (.invokevirtual index, 3))
    (hpre : ∀ vm₁, s.WarmedH vm₁ → Pre ⟨T.setVm vm₁, locs, cells, slots⟩ (Value.ref b :: argsL).toArray) :
    ∃ (v : Option Value) (vm₁ : Vm) (B : Pt), s.WarmedH vm₁ ∧ Stand p l e R s m args below meth c B.U B.locs B.cells B.slots ∧ Post ⟨T.setVm vm₁, locs, cells, slots⟩ (Value.ref b :: argsL).toArray v B ∧
      ∀ target, Steps p.tables e below (B.U.setTop { g with pc := g.pc + 3, stack := v.toList ++ rest }) target → Steps p.tables e below (T.setTop g) target := by
  obtain ⟨mk, methM, hnamed, hmethM, hstM, habM⟩ := Cond.instanceMethod_spec hinst
  obtain ⟨m8, methM', cM, hn8, hmethM', -, -, -, -, -, -, hsigM⟩ := Cond.codeWith_spec hcode
  cases Option.some.inj (hn8.symm.trans hnamed)
  cases hmethM.symm.trans hmethM'
  obtain ⟨c2, r2, m2, q1, q2, q3, q4, kP, hkP, hkPi⟩ := Cond.selects_spec hsel
  cases hcls.symm.trans q1
  cases (State.methodFound?_of_named hnamed hy).symm.trans q2
  cases hnamed.symm.trans q3
  have hselP : selectMethod e.platform s.vm cellB.cls mk = .method mk := by rw [Launch.admits_selectMethod X.admits]; exact q4
  obtain ⟨vm₁, X₁, hstep₁⟩ := X.invokevirtual hexec hown hlink hnamed hmethM hstM hkP hkPi hy (a := b) (cell := cellB) hcell
    (fun z h => by rw [h] at hobj; cases hobj) hselP hmethM habM hkP hkPi (g := g) hg (argsL := argsL) (rest := rest) (hlen _ hsigM) hstack hdg
  obtain ⟨v, B, X', hpost, hsteps⟩ := hK m meth c ⟨T.setVm vm₁, locs, cells, slots⟩ { g with stack := rest } (.invokevirtual index) mk (Value.ref b :: argsL).toArray X₁ hg hsize hdg hW (X₁.named hnamed) (hpre vm₁ X₁.warmed)
  exact ⟨v, vm₁, B, X₁.warmed, X', hpost, fun target h => hstep₁ _ fun acts => by rw [doInvoke_state]; exact hsteps.trans h⟩
abbrev vx_CVW (R : Room) (s : State) (args : Array Value) (own C : String) (index : Nat) (y : MethodName) (bytes : ByteArray) (maxL : Nat) (ret : Option FieldType) (hh : List (Nat × Nat × Nat × Nat)) (ws : List Cond) (rm : Room) (mc ms n : Nat) : Prop :=
  (rm.cells = mc ∧ rm.slots = ms ∧ rm.frames + 1 ≤ R.frames ∧ 8 + (maxL + 11) + rm.locals ≤ R.locals ∧ (∀ w ∈ ws, ∀ (a' : Array Value) (U : State), s.WarmedH U.vm → w.before a' U = true) ∧ Cond.codeWith y bytes maxL ret hh ∈ ws) ∧
  (Cond.codeWith y bytes maxL ret hh).before args s = true ∧ (Cond.initialized y.cls).before args s = true ∧ (y.cls ≠ "java/lang/invoke/MethodHandle" ∧ y.cls ≠ "java/lang/invoke/VarHandle") ∧
  (∀ sig, parseMethodDescriptor y.desc = some sig → n = sig.parameters.length) ∧ (Cond.methodLink own index y).before args s = true ∧ (Cond.instanceMethod y).before args s = true ∧ (Cond.selects C y y).before args s = true
theorem vx_cwVW {own C : String} {index maxL mc ms : Nat} {y : MethodName} {bytes : ByteArray} {ret : Option FieldType} {hh : List (Nat × Nat × Nat × Nat)} {Ts ws ws' : List Cond} {rm : Room} (n : Nat) (ht : ∀ w ∈ Ts, w.before args s = true) (hT : GoodIn Ts (wsV own index C y ws)) (hw : ws = Cond.codeWith y bytes maxL ret hh :: ws') (hrc : rm.cells = mc) (hrs : rm.slots = ms)
    (hd : y.cls = C ∧ y.cls ≠ "java/lang/invoke/MethodHandle" ∧ y.cls ≠ "java/lang/invoke/VarHandle" ∧ (parseMethodDescriptor y.desc).map (fun d => d.parameters.length) = some n) (hR : rm.frames + 1 ≤ R.frames ∧ 8 + (maxL + 11) + rm.locals ≤ R.locals) :
    vx_CVW R s args own C index y bytes maxL ret hh ws rm mc ms n := by
  obtain ⟨hC, hd⟩ := hd
  subst hC
  have ok : ∀ w ∈ wsV own index y.cls y ws, w.before args s = true := fun w h => ht w (hT w h).1
  have hG : GoodIn Ts ws := fun w h => hT w (by unfold wsV; exact List.mem_append_right _ h)
  have hc : Cond.codeWith y bytes maxL ret hh ∈ ws := by rw [hw]; exact List.mem_cons_self
  refine ⟨⟨hrc, hrs, hR.1, hR.2, pay_in ht hG, hc⟩, ht _ (hG _ hc).1, ok _ (by simp [wsV]), ⟨hd.1, hd.2.1⟩, fun sig h => ?_, ok _ (by simp [wsV]), ok _ (by simp [wsV]), ok _ (by simp [wsV])⟩
  have h2 := hd.2.2
  rw [h] at h2
  exact (Option.some.inj h2).symm
theorem vx_runVW {y : MethodName} {bytes cc : ByteArray} {maxL nL mc ms n index : Nat} {ret : Option FieldType} {hh : List (Nat × Nat × Nat × Nat)} {ws : List Cond} {rm : Room} {Pc : Array Value → State → Prop} {Qc : Array Value → State → Outcome → State → Prop} {free : Addr → Prop} {Ts : List Cond} {own C : String} {b : Addr} {As rest : List Value} {g : JFrame}
    (S : CallFix p m c cc nL s args Ts own) (hM : Met l y ws rm Pc Qc mc ms free) (cw : vx_CVW R s args own C index y bytes maxL ret hh ws rm mc ms n) (hp : PreV s H C b Pc As)
    (hg : g.method = m) (hn : As.length = n) (hsize : g.locals.size = nL) (hstack : g.stack = As.reverse ++ .ref b :: rest) (hW : 2 * g.monitorRoom + (rest.map fun v => v.category).sum ≤ 8) (hdg : decode cc g.pc = .ok (.invokevirtual index, 3)) (hf : cells + mc ≤ R.cells ∧ slots + ms ≤ R.slots) :
    va_Run p l e R s m args below meth c H locs cells slots mc ms g rest (Qc (Value.ref b :: As).toArray) free := by
  obtain ⟨⟨hrc, hrs, hfr, hlo, hws, hcw⟩, hcode, hini, hy, hlen, hl, hin, hse⟩ := cw
  have hK : Back l R p e below s args y 3 8 (PreOf R mc ms Pc) (PostOf Qc mc ms free) := va_backW (hh := hh) (bytes := bytes) (maxL := maxL) (ret := ret) hM hp.1 hrc hrs hfr hlo hws hcw (fun a' U hW => word_at hW (Or.inl (by first | rfl | simp [Cond.onTables, Cond.keeps, Cond.steady])) hini)
  obtain ⟨hx, hb, hml, ho, -⟩ := S
  obtain ⟨-, ⟨cellB, hcB, hoB, hclB⟩, hPc⟩ := hp
  intro T hT X
  obtain ⟨v, vm₁, ⟨U', l2, c2, s2⟩, hW₁, X', ⟨g', mk, t, L, e1, e2, hq, h1, hL, h2, h3⟩, st⟩ := vx_callVW X hx (C := C) (hh := hh) (bytes := bytes) (maxL := maxL) (ret := ret) ho hl hin hse hcode hy hK (by rw [hT]; exact hcB) hoB hclB hg (hsize.trans hml.symm) (argsL := As) (rest := rest) (fun sig h => hn.trans (hlen sig h)) hstack hW (by rw [hb]; exact hdg)
    (fun vm₁ hW₁ => ⟨hf.1, hf.2, hPc (T.setVm vm₁) hT hW₁⟩)
  dsimp only [Pt.U, Pt.locs, Pt.cells, Pt.slots] at X' e1 e2 h1 h2 h3 st
  subst h1; subst h2; subst h3
  exact ⟨v, (T.setVm vm₁).calling g' mk (Value.ref b :: As).toArray, t, U', L, hT, X', hL, e1, e2, hq, st⟩
section
variable {y : MethodName} {bytes cc : ByteArray} {maxL nL mc ms n index : Nat} {ret : Option FieldType} {ws : List Cond} {rm : Room} {Pc : Array Value → State → Prop} {Qc : Array Value → State → Outcome → State → Prop} {XC : String → State → State → Prop} {free : Addr → Prop} {Ts : List Cond} {own C : String} {b : Addr} {As rest : List Value} {g : JFrame}
theorem vx_runVX {hh : List (Nat × Nat × Nat × Nat)} (S : CallFix p m c cc nL s args Ts own) (hM : vx_Met l y ws rm Pc Qc XC mc ms free) (cw : vx_CVW R s args own C index y bytes maxL ret hh ws rm mc ms n) (hp : PreV s H C b Pc As)
    (hg : g.method = m) (hn : As.length = n) (hsize : g.locals.size = nL) (hstack : g.stack = As.reverse ++ .ref b :: rest) (hW : 2 * g.monitorRoom + (rest.map fun v => v.category).sum ≤ 8) (hdg : decode cc g.pc = .ok (.invokevirtual index, 3)) (hf : cells + mc ≤ R.cells ∧ slots + ms ≤ R.slots) :
    vx_Run p l e R s m args below meth c H locs cells slots mc ms g rest (Qc (Value.ref b :: As).toArray) XC free := by
  obtain ⟨⟨hrc, hrs, hfr, hlo, hws, hcw⟩, hcode, hini, hy, hlen, hl, hin, hse⟩ := cw
  have hK : vx_Back l R p e below s args y 3 8 (PreOf R mc ms Pc) (PostOf Qc mc ms free) (vx_Post XC mc ms free) := vx_backW (hh := hh) (bytes := bytes) (maxL := maxL) (ret := ret) hM hp.1 hrc hrs hfr hlo hws hcw (fun a' U hW => word_at hW (Or.inl (by first | rfl | simp [Cond.onTables, Cond.keeps, Cond.steady])) hini)
  obtain ⟨hx, hb, hml, ho, -⟩ := S
  obtain ⟨-, ⟨cellB, hcB, hoB, hclB⟩, hPc⟩ := hp
  intro T hT X
  rcases vx_callVX X hx (C := C) (hh := hh) (bytes := bytes) (maxL := maxL) (ret := ret) ho hl hin hse hcode hy hK (by rw [hT]; exact hcB) hoB hclB hg (hsize.trans hml.symm) (argsL := As) (rest := rest) (fun sig h => hn.trans (hlen sig h)) hstack hW (by rw [hb]; exact hdg)
    (fun vm₁ hW₁ => ⟨hf.1, hf.2, hPc (T.setVm vm₁) hT hW₁⟩) with ⟨v, vm₁, ⟨U', l2, c2, s2⟩, hW₁, X', ⟨g', mk, t, L, e1, e2, hq, h1, hL, h2, h3⟩, st⟩ | ⟨q, vm₁, ⟨U', l2, c2, s2⟩, hW₁, X', ⟨g', mk, t, L, E, ce, e1, e2, hq, hce, hcv, hcl, h1, hL, h2, h3⟩, st⟩
  · dsimp only [Pt.U, Pt.locs, Pt.cells, Pt.slots] at X' e1 e2 h1 h2 h3 st
    subst h1; subst h2; subst h3
    exact Or.inl ⟨v, (T.setVm vm₁).calling g' mk (Value.ref b :: As).toArray, t, U', L, hT, X', hL, e1, e2, hq, st⟩
  · dsimp only [Pt.U, Pt.locs, Pt.cells, Pt.slots] at X' e1 e2 h1 h2 h3 st hcl
    subst h1; subst h2; subst h3
    exact Or.inr ⟨q, (T.setVm vm₁).calling g' mk (Value.ref b :: As).toArray, t, U', L, E, ce, hT, X', hL, e1, e2, hq, hce, hcv, vx_cls hW₁ hcl, st⟩
theorem vx_runSX {hh : List (Nat × Nat × Nat × Nat)} (S : CallFix p m c cc nL s args Ts own) (hM : vx_Met l y ws rm Pc Qc XC mc ms free) (cw : vx_CSW R s args own index y bytes maxL ret hh ws rm mc ms n) (hp : PreS s H Pc As)
    (hg : g.method = m) (hn : As.length = n) (hsize : g.locals.size = nL) (hstack : g.stack = As.reverse ++ rest) (hW : 2 * g.monitorRoom + (rest.map fun v => v.category).sum ≤ 8) (hdg : decode cc g.pc = .ok (.invokestatic index, 3)) (hf : cells + mc ≤ R.cells ∧ slots + ms ≤ R.slots) :
    vx_Run p l e R s m args below meth c H locs cells slots mc ms g rest (Qc As.toArray) XC free := by
  obtain ⟨⟨hrc, hrs, hfr, hlo, hws, hcw⟩, hcode, hini, hy, hlen, hl, hstt⟩ := cw
  have hK : vx_Back l R p e below s args y 3 8 (PreOf R mc ms Pc) (PostOf Qc mc ms free) (vx_Post XC mc ms free) := vx_backW (hh := hh) (bytes := bytes) (maxL := maxL) (ret := ret) hM hp.1 hrc hrs hfr hlo hws hcw (fun a' U hW => word_at hW (Or.inl (by first | rfl | simp [Cond.onTables, Cond.keeps, Cond.steady])) hini)
  obtain ⟨hx, hb, hml, ho, -⟩ := S
  intro T hT X
  rcases vx_callSX X hx (hh := hh) (bytes := bytes) (maxL := maxL) (ret := ret) ho hl hstt hini hcode hy hK hg (hsize.trans hml.symm) (argsL := As) (rest := rest) (fun sig h => hn.trans (hlen sig h)) hstack hW (by rw [hb]; exact hdg)
    (fun vm₁ hW₁ => ⟨hf.1, hf.2, hp.2 (T.setVm vm₁) hT hW₁⟩) with ⟨v, vm₁, ⟨U', l2, c2, s2⟩, hW₁, X', ⟨g', mk, t, L, e1, e2, hq, h1, hL, h2, h3⟩, st⟩ | ⟨q, vm₁, ⟨U', l2, c2, s2⟩, hW₁, X', ⟨g', mk, t, L, E, ce, e1, e2, hq, hce, hcv, hcl, h1, hL, h2, h3⟩, st⟩
  · dsimp only [Pt.U, Pt.locs, Pt.cells, Pt.slots] at X' e1 e2 h1 h2 h3 st
    subst h1; subst h2; subst h3
    exact Or.inl ⟨v, (T.setVm vm₁).calling g' mk As.toArray, t, U', L, hT, X', hL, e1, e2, hq, st⟩
  · dsimp only [Pt.U, Pt.locs, Pt.cells, Pt.slots] at X' e1 e2 h1 h2 h3 st hcl
    subst h1; subst h2; subst h3
    exact Or.inr ⟨q, (T.setVm vm₁).calling g' mk As.toArray, t, U', L, E, ce, hT, X', hL, e1, e2, hq, hce, hcv, vx_cls hW₁ hcl, st⟩
end
end VXH
theorem vx_ofWH {l : Launch} {y : MethodName} {ws ws' : List Cond} {rm : Room} {Pc : Array Value → State → Prop} {Qc : Array Value → State → Outcome → State → Prop} {XC : String → State → State → Prop} {mc ms : Nat} {free : Addr → Prop} {cc : ByteArray} {maxL : Nat} {ret : Option FieldType} {hh : List (Nat × Nat × Nat × Nat)}
    (hy : plainName y.cls = true) (hw : ws = Cond.codeWith y cc maxL ret hh :: ws')
    (body : ∀ p e s m args below meth c s₁, BodyLoose p l y (headSpec ws rm) cc maxL ret e s m args below meth c s₁ → c.maxLocals = maxL → Pc args s →
      W p l e (headSpec ws rm).room s m args below meth c s.heap [] 0 0 (vx_MQ below Qc XC args s mc ms free) (entryFrame m args maxL)) : vx_Met l y ws rm Pc Qc XC mc ms free := by
  refine MetFree.of_bodyS (code := cc) (maxLocals := maxL) (ret := ret) hy ?_ ?_
  · intro args s m h hn
    obtain ⟨m9, meth, c, hn9, h1, h2, h3, h4, -, h5, h6, -⟩ := Cond.codeWith_spec (atoms_spec (ws := ws) h _ (by rw [hw]; exact List.mem_cons_self))
    cases hn.symm.trans hn9
    exact ⟨meth, c, h1, h2, h3, h4, h5, h6⟩
  · intro p e s m args below meth c s₁ B hml hP _
    have hh0 : s₁.heap = s.heap := by rw [B.state]; rfl
    obtain ⟨t, a1, o, b1, b2, b3⟩ := body p e s m args below meth c s₁ B hml hP s₁ hh0 (Stand.of_body B)
    exact ⟨t, o, a1, b1, b2, b3⟩
/-! ===== END ===== -/
end
section
abbrev RX0 : String := "GuaranteeBook"
def TX0 : u_T := fun k => match k with
  | 0 => ("GuaranteeBook", "guarantees", "[LGuaranteeBook$Guarantee;", true)
  | 1 => ("GuaranteeBook", "firsts", "[LGuaranteeBook$Guarantee;", true)
  | 2 => ("GuaranteeBook", "reservations", "[LGuaranteeBook$Reservation;", true)
  | 3 => ("GuaranteeBook", "failing", "[Z", true)
  | 4 => ("GuaranteeBook", "failures", "[I", true)
  | 5 => ("GuaranteeBook", "draft", "LGuaranteeBook$Reservation;", false)
  | 6 => ("GuaranteeBook", "guaranteeCount", "I", false)
  | 7 => ("GuaranteeBook", "reservationCount", "I", false)
  | 8 => ("GuaranteeBook", "liveCount", "I", false)
  | _ => ("GuaranteeBook", "today", "I", false)
def tyX0 : Nat → FieldType := fun k => match k with
  | 0 => .array (.object "GuaranteeBook$Guarantee")
  | 1 => .array (.object "GuaranteeBook$Guarantee")
  | 2 => .array (.object "GuaranteeBook$Reservation")
  | 3 => .array (.boolean)
  | 4 => .array (.int)
  | 5 => .object "GuaranteeBook$Reservation"
  | 6 => .int
  | 7 => .int
  | 8 => .int
  | _ => .int
theorem nmX0 : ∀ a, a < 10 → ∀ b, b < 10 → a ≠ b → (TX0 a).2.1 ≠ (TX0 b).2.1 := by decide +kernel
theorem okX0 : ∀ k, k < 10 → parseFieldDescriptor (TX0 k).2.2.1 = some (tyX0 k) := by decide +kernel
abbrev RX1 : String := "GuaranteeBook$Guarantee"
def TX1 : u_T := fun k => match k with
  | 0 => ("GuaranteeBook$Guarantee", "number", "I", true)
  | 1 => ("GuaranteeBook$Guarantee", "holder", "I", true)
  | 2 => ("GuaranteeBook$Guarantee", "share", "LGuaranteeBook$Share;", true)
  | 3 => ("GuaranteeBook$Guarantee", "single", "Z", true)
  | 4 => ("GuaranteeBook$Guarantee", "interest", "LGuaranteeBook$Interest;", true)
  | 5 => ("GuaranteeBook$Guarantee", "amount", "J", false)
  | 6 => ("GuaranteeBook$Guarantee", "needed", "J", false)
  | 7 => ("GuaranteeBook$Guarantee", "claimed", "J", false)
  | 8 => ("GuaranteeBook$Guarantee", "uses", "I", false)
  | 9 => ("GuaranteeBook$Guarantee", "closed", "Z", false)
  | _ => ("GuaranteeBook$Guarantee", "next", "LGuaranteeBook$Guarantee;", false)
def tyX1 : Nat → FieldType := fun k => match k with
  | 0 => .int
  | 1 => .int
  | 2 => .object "GuaranteeBook$Share"
  | 3 => .boolean
  | 4 => .object "GuaranteeBook$Interest"
  | 5 => .long
  | 6 => .long
  | 7 => .long
  | 8 => .int
  | 9 => .boolean
  | _ => .object "GuaranteeBook$Guarantee"
theorem nmX1 : ∀ a, a < 11 → ∀ b, b < 11 → a ≠ b → (TX1 a).2.1 ≠ (TX1 b).2.1 := by decide +kernel
theorem okX1 : ∀ k, k < 11 → parseFieldDescriptor (TX1 k).2.2.1 = some (tyX1 k) := by decide +kernel
abbrev RX2 : String := "GuaranteeBook$Share"
def TX2 : u_T := fun k => match k with
  | 0 => ("GuaranteeBook$Share", "up", "I", true)
  | _ => ("GuaranteeBook$Share", "down", "I", true)
def tyX2 : Nat → FieldType := fun k => match k with
  | 0 => .int
  | _ => .int
theorem nmX2 : ∀ a, a < 2 → ∀ b, b < 2 → a ≠ b → (TX2 a).2.1 ≠ (TX2 b).2.1 := by decide +kernel
theorem okX2 : ∀ k, k < 2 → parseFieldDescriptor (TX2 k).2.2.1 = some (tyX2 k) := by decide +kernel
abbrev RX3 : String := "GuaranteeBook$Interest"
def TX3 : u_T := fun k => match k with
  | 0 => ("GuaranteeBook$Interest", "rate", "I", true)
  | 1 => ("GuaranteeBook$Interest", "ofEndedRows", "J", false)
  | 2 => ("GuaranteeBook$Interest", "rowBegin", "I", false)
  | _ => ("GuaranteeBook$Interest", "stopped", "Z", false)
def tyX3 : Nat → FieldType := fun k => match k with
  | 0 => .int
  | 1 => .long
  | 2 => .int
  | _ => .boolean
theorem nmX3 : ∀ a, a < 4 → ∀ b, b < 4 → a ≠ b → (TX3 a).2.1 ≠ (TX3 b).2.1 := by decide +kernel
theorem okX3 : ∀ k, k < 4 → parseFieldDescriptor (TX3 k).2.2.1 = some (tyX3 k) := by decide +kernel
abbrev RX4 : String := "GuaranteeBook$Reservation"
def TX4 : u_T := fun k => match k with
  | 0 => ("GuaranteeBook$Reservation", "from", "[LGuaranteeBook$Guarantee;", true)
  | 1 => ("GuaranteeBook$Reservation", "covers", "[J", true)
  | 2 => ("GuaranteeBook$Reservation", "parts", "I", false)
  | 3 => ("GuaranteeBook$Reservation", "holder", "I", false)
  | 4 => ("GuaranteeBook$Reservation", "debt", "J", false)
  | _ => ("GuaranteeBook$Reservation", "state", "I", false)
def tyX4 : Nat → FieldType := fun k => match k with
  | 0 => .array (.object "GuaranteeBook$Guarantee")
  | 1 => .array (.long)
  | 2 => .int
  | 3 => .int
  | 4 => .long
  | _ => .int
theorem nmX4 : ∀ a, a < 6 → ∀ b, b < 6 → a ≠ b → (TX4 a).2.1 ≠ (TX4 b).2.1 := by decide +kernel
theorem okX4 : ∀ k, k < 6 → parseFieldDescriptor (TX4 k).2.2.1 = some (tyX4 k) := by decide +kernel
abbrev RX5 : String := "GuaranteeBookModel"
def TX5 : u_T := fun k => match k with
  | 0 => ("GuaranteeBookModel", "thrown", "I", false)
  | 1 => ("GuaranteeBookModel", "guarantees", "I", false)
  | 2 => ("GuaranteeBookModel", "today", "I", false)
  | 3 => ("GuaranteeBookModel", "holder", "[I", true)
  | 4 => ("GuaranteeBookModel", "amount", "[J", true)
  | 5 => ("GuaranteeBookModel", "up", "[I", true)
  | 6 => ("GuaranteeBookModel", "down", "[I", true)
  | 7 => ("GuaranteeBookModel", "single", "[Z", true)
  | 8 => ("GuaranteeBookModel", "rate", "[I", true)
  | 9 => ("GuaranteeBookModel", "closed", "[Z", true)
  | 10 => ("GuaranteeBookModel", "closedOn", "[I", true)
  | 11 => ("GuaranteeBookModel", "claimed", "[J", true)
  | 12 => ("GuaranteeBookModel", "interest", "[J", true)
  | 13 => ("GuaranteeBookModel", "since", "[I", true)
  | 14 => ("GuaranteeBookModel", "order", "[I", true)
  | 15 => ("GuaranteeBookModel", "reservations", "I", false)
  | 16 => ("GuaranteeBookModel", "of", "[I", true)
  | 17 => ("GuaranteeBookModel", "made", "[J", true)
  | 18 => ("GuaranteeBookModel", "how", "[I", true)
  | 19 => ("GuaranteeBookModel", "parts", "[I", true)
  | 20 => ("GuaranteeBookModel", "part", "[I", true)
  | 21 => ("GuaranteeBookModel", "covers", "[J", true)
  | 22 => ("GuaranteeBookModel", "desk", "[Z", true)
  | _ => ("GuaranteeBookModel", "failures", "[I", true)
def tyX5 : Nat → FieldType := fun k => match k with
  | 0 => .int
  | 1 => .int
  | 2 => .int
  | 3 => .array (.int)
  | 4 => .array (.long)
  | 5 => .array (.int)
  | 6 => .array (.int)
  | 7 => .array (.boolean)
  | 8 => .array (.int)
  | 9 => .array (.boolean)
  | 10 => .array (.int)
  | 11 => .array (.long)
  | 12 => .array (.long)
  | 13 => .array (.int)
  | 14 => .array (.int)
  | 15 => .int
  | 16 => .array (.int)
  | 17 => .array (.long)
  | 18 => .array (.int)
  | 19 => .array (.int)
  | 20 => .array (.int)
  | 21 => .array (.long)
  | 22 => .array (.boolean)
  | _ => .array (.int)
theorem nmX5 : ∀ a, a < 24 → ∀ b, b < 24 → a ≠ b → (TX5 a).2.1 ≠ (TX5 b).2.1 := by decide +kernel
theorem okX5 : ∀ k, k < 24 → parseFieldDescriptor (TX5 k).2.2.1 = some (tyX5 k) := by decide +kernel
abbrev RL : String := "GuaranteeBookLaw"
abbrev vwCl : List vw_C := [(RX0, TX0, 10), (RX1, TX1, 11), (RX2, TX2, 2), (RX3, TX3, 4), (RX4, TX4, 6), (RX5, TX5, 24)]
abbrev cX0_init : ByteArray := prog_1_method_1_code
abbrev yX0_init : MethodName := ⟨"GuaranteeBook", "<init>", "()V"⟩
abbrev cX4_init : ByteArray := prog_4_method_1_code
abbrev yX4_init : MethodName := ⟨"GuaranteeBook$Reservation", "<init>", "()V"⟩
abbrev cX0_first : ByteArray := prog_1_method_3_code
abbrev yX0_first : MethodName := ⟨"GuaranteeBook", "first", "(I)Z"⟩
abbrev cX0_guaranteeNumbered : ByteArray := prog_1_method_21_code
abbrev yX0_guaranteeNumbered : MethodName := ⟨"GuaranteeBook", "guaranteeNumbered", "(I)LGuaranteeBook$Guarantee;"⟩
abbrev cX0_putFirst : ByteArray := prog_1_method_24_code
abbrev yX0_putFirst : MethodName := ⟨"GuaranteeBook", "putFirst", "(LGuaranteeBook$Guarantee;)V"⟩
abbrev cX0_close : ByteArray := prog_1_method_8_code
abbrev yX0_close : MethodName := ⟨"GuaranteeBook", "close", "(I)Z"⟩
abbrev cX1_shut : ByteArray := prog_2_method_7_code
abbrev yX1_shut : MethodName := ⟨"GuaranteeBook$Guarantee", "shut", "(I)V"⟩
abbrev cX3_stop : ByteArray := prog_3_method_4_code
abbrev yX3_stop : MethodName := ⟨"GuaranteeBook$Interest", "stop", "(IJ)V"⟩
abbrev cX3_endRow : ByteArray := prog_3_method_3_code
abbrev yX3_endRow : MethodName := ⟨"GuaranteeBook$Interest", "endRow", "(IJ)V"⟩
abbrev cX3_upTo : ByteArray := prog_3_method_2_code
abbrev yX3_upTo : MethodName := ⟨"GuaranteeBook$Interest", "upTo", "(IJ)J"⟩
abbrev cX0_fails : ByteArray := prog_1_method_9_code
abbrev yX0_fails : MethodName := ⟨"GuaranteeBook", "fails", "(IZ)Z"⟩
abbrev cX0_isDesk : ByteArray := prog_1_method_18_code
abbrev yX0_isDesk : MethodName := ⟨"GuaranteeBook", "isDesk", "(I)Z"⟩
abbrev cX0_tick : ByteArray := prog_1_method_10_code
abbrev yX0_tick : MethodName := ⟨"GuaranteeBook", "tick", "(I)Z"⟩
abbrev cX0_free : ByteArray := prog_1_method_12_code
abbrev yX0_free : MethodName := ⟨"GuaranteeBook", "free", "(I)J"⟩
abbrev cX0_isHolder : ByteArray := prog_1_method_17_code
abbrev yX0_isHolder : MethodName := ⟨"GuaranteeBook", "isHolder", "(I)Z"⟩
abbrev cX0_mayCoverTogether : ByteArray := prog_1_method_25_code
abbrev yX0_mayCoverTogether : MethodName := ⟨"GuaranteeBook", "mayCoverTogether", "(I)J"⟩
abbrev cX1_mayCover : ByteArray := prog_2_method_4_code
abbrev yX1_mayCover : MethodName := ⟨"GuaranteeBook$Guarantee", "mayCover", "()J"⟩
abbrev cX1_unneeded : ByteArray := prog_2_method_2_code
abbrev yX1_unneeded : MethodName := ⟨"GuaranteeBook$Guarantee", "unneeded", "()J"⟩
abbrev cX2_mostFor : ByteArray := prog_5_method_3_code
abbrev yX2_mostFor : MethodName := ⟨"GuaranteeBook$Share", "mostFor", "(J)J"⟩
abbrev cX0_list : ByteArray := prog_1_method_13_code
abbrev yX0_list : MethodName := ⟨"GuaranteeBook", "list", "(II)I"⟩
abbrev cX0_count : ByteArray := prog_1_method_16_code
abbrev yX0_count : MethodName := ⟨"GuaranteeBook", "count", "(I)I"⟩
abbrev cL_guarantee : ByteArray := method_3_code
abbrev yL_guarantee : MethodName := ⟨"GuaranteeBookLaw", "guarantee", "(LGuaranteeBook;IJIIZI[J)I"⟩
abbrev cX0_guarantee : ByteArray := prog_1_method_2_code
abbrev yX0_guarantee : MethodName := ⟨"GuaranteeBook", "guarantee", "(IJIIZI)I"⟩
abbrev cX0_isCents : ByteArray := prog_1_method_19_code
abbrev yX0_isCents : MethodName := ⟨"GuaranteeBook", "isCents", "(J)Z"⟩
abbrev cX0_isShare : ByteArray := prog_1_method_20_code
abbrev yX0_isShare : MethodName := ⟨"GuaranteeBook", "isShare", "(II)Z"⟩
abbrev cX2_init : ByteArray := prog_5_method_1_code
abbrev yX2_init : MethodName := ⟨"GuaranteeBook$Share", "<init>", "(II)V"⟩
abbrev cX3_init : ByteArray := prog_3_method_1_code
abbrev yX3_init : MethodName := ⟨"GuaranteeBook$Interest", "<init>", "(II)V"⟩
abbrev cX1_init : ByteArray := prog_2_method_1_code
abbrev yX1_init : MethodName := ⟨"GuaranteeBook$Guarantee", "<init>", "(IIJLGuaranteeBook$Share;ZLGuaranteeBook$Interest;)V"⟩
abbrev cX0_putLast : ByteArray := prog_1_method_23_code
abbrev yX0_putLast : MethodName := ⟨"GuaranteeBook", "putLast", "(LGuaranteeBook$Guarantee;)V"⟩
abbrev cL_reserve : ByteArray := method_4_code
abbrev yL_reserve : MethodName := ⟨"GuaranteeBookLaw", "reserve", "(LGuaranteeBook;IIJ[J)I"⟩
abbrev cX0_reserve : ByteArray := prog_1_method_4_code
abbrev yX0_reserve : MethodName := ⟨"GuaranteeBook", "reserve", "(IIJ)I"⟩
abbrev cX0_draftCovers : ByteArray := prog_1_method_26_code
abbrev yX0_draftCovers : MethodName := ⟨"GuaranteeBook", "draftCovers", "(IJ)Z"⟩
abbrev cX4_beginFor : ByteArray := prog_4_method_2_code
abbrev yX4_beginFor : MethodName := ⟨"GuaranteeBook$Reservation", "beginFor", "(IJ)V"⟩
abbrev cX4_addPart : ByteArray := prog_4_method_3_code
abbrev yX4_addPart : MethodName := ⟨"GuaranteeBook$Reservation", "addPart", "(LGuaranteeBook$Guarantee;J)Z"⟩
abbrev cX0_keepDraft : ByteArray := prog_1_method_27_code
abbrev yX0_keepDraft : MethodName := ⟨"GuaranteeBook", "keepDraft", "()I"⟩
abbrev cX4_bindParts : ByteArray := prog_4_method_7_code
abbrev yX4_bindParts : MethodName := ⟨"GuaranteeBook$Reservation", "bindParts", "()V"⟩
abbrev cX4_tellGuarantee : ByteArray := prog_4_method_11_code
abbrev yX4_tellGuarantee : MethodName := ⟨"GuaranteeBook$Reservation", "tellGuarantee", "(IJJ)V"⟩
abbrev cX1_changePart : ByteArray := prog_2_method_5_code
abbrev yX1_changePart : MethodName := ⟨"GuaranteeBook$Guarantee", "changePart", "(JJ)V"⟩
abbrev cX2_neededFor : ByteArray := prog_5_method_2_code
abbrev yX2_neededFor : MethodName := ⟨"GuaranteeBook$Share", "neededFor", "(J)J"⟩
abbrev cL_end : ByteArray := method_5_code
abbrev yL_end : MethodName := ⟨"GuaranteeBookLaw", "end", "(LGuaranteeBook;II[J)I"⟩
abbrev cX0_end : ByteArray := prog_1_method_5_code
abbrev yX0_end : MethodName := ⟨"GuaranteeBook", "end", "(II)I"⟩
abbrev cX0_reservationNumbered : ByteArray := prog_1_method_22_code
abbrev yX0_reservationNumbered : MethodName := ⟨"GuaranteeBook", "reservationNumbered", "(I)LGuaranteeBook$Reservation;"⟩
abbrev cX4_dropParts : ByteArray := prog_4_method_8_code
abbrev yX4_dropParts : MethodName := ⟨"GuaranteeBook$Reservation", "dropParts", "()V"⟩
abbrev cX0_finish : ByteArray := prog_1_method_28_code
abbrev yX0_finish : MethodName := ⟨"GuaranteeBook", "finish", "(LGuaranteeBook$Reservation;I)V"⟩
abbrev cL_reduce : ByteArray := method_6_code
abbrev yL_reduce : MethodName := ⟨"GuaranteeBookLaw", "reduce", "(LGuaranteeBook;IJ[J)I"⟩
abbrev cX0_reduce : ByteArray := prog_1_method_6_code
abbrev yX0_reduce : MethodName := ⟨"GuaranteeBook", "reduce", "(IJ)J"⟩
abbrev cX4_covered : ByteArray := prog_4_method_6_code
abbrev yX4_covered : MethodName := ⟨"GuaranteeBook$Reservation", "covered", "()J"⟩
abbrev cX4_shrinkBy : ByteArray := prog_4_method_9_code
abbrev yX4_shrinkBy : MethodName := ⟨"GuaranteeBook$Reservation", "shrinkBy", "(J)V"⟩
abbrev cL_claim : ByteArray := method_7_code
abbrev yL_claim : MethodName := ⟨"GuaranteeBookLaw", "claim", "(LGuaranteeBook;IJ[J)I"⟩
abbrev cX0_claim : ByteArray := prog_1_method_7_code
abbrev yX0_claim : MethodName := ⟨"GuaranteeBook", "claim", "(IJ)J"⟩
abbrev cX4_takeFromAmounts : ByteArray := prog_4_method_10_code
abbrev yX4_takeFromAmounts : MethodName := ⟨"GuaranteeBook$Reservation", "takeFromAmounts", "(JI)J"⟩
abbrev cX1_loseUpTo : ByteArray := prog_2_method_6_code
abbrev yX1_loseUpTo : MethodName := ⟨"GuaranteeBook$Guarantee", "loseUpTo", "(JI)J"⟩
abbrev cL_interest : ByteArray := method_8_code
abbrev yL_interest : MethodName := ⟨"GuaranteeBookLaw", "interest", "(LGuaranteeBook;I[J)I"⟩
abbrev cX0_interest : ByteArray := prog_1_method_11_code
abbrev yX0_interest : MethodName := ⟨"GuaranteeBook", "interest", "(I)J"⟩
abbrev cL_look : ByteArray := method_9_code
abbrev yL_look : MethodName := ⟨"GuaranteeBookLaw", "look", "(LGuaranteeBook;II[J)I"⟩
abbrev cX0_look : ByteArray := prog_1_method_14_code
abbrev yX0_look : MethodName := ⟨"GuaranteeBook", "look", "(II)J"⟩
abbrev cX1_risk : ByteArray := prog_2_method_3_code
abbrev yX1_risk : MethodName := ⟨"GuaranteeBook$Guarantee", "risk", "()J"⟩
abbrev cL_of : ByteArray := method_10_code
abbrev yL_of : MethodName := ⟨"GuaranteeBookLaw", "of", "(LGuaranteeBook;II[J)I"⟩
abbrev cX0_of : ByteArray := prog_1_method_15_code
abbrev yX0_of : MethodName := ⟨"GuaranteeBook", "of", "(II)J"⟩
abbrev cX4_hasPart : ByteArray := prog_4_method_4_code
abbrev yX4_hasPart : MethodName := ⟨"GuaranteeBook$Reservation", "hasPart", "(I)Z"⟩
abbrev cX4_numberOfPart : ByteArray := prog_4_method_5_code
abbrev yX4_numberOfPart : MethodName := ⟨"GuaranteeBook$Reservation", "numberOfPart", "(I)I"⟩
abbrev cX5_init : ByteArray := prog_7_method_1_code
abbrev yX5_init : MethodName := ⟨"GuaranteeBookModel", "<init>", "()V"⟩
abbrev cX5_thrown : ByteArray := prog_7_method_2_code
abbrev yX5_thrown : MethodName := ⟨"GuaranteeBookModel", "thrown", "()I"⟩
abbrev cX5_guarantee : ByteArray := prog_7_method_8_code
abbrev yX5_guarantee : MethodName := ⟨"GuaranteeBookModel", "guarantee", "(IJIIZI)I"⟩
abbrev cX5_in : ByteArray := prog_7_method_4_code
abbrev yX5_in : MethodName := ⟨"GuaranteeBookModel", "in", "(JJJ)Z"⟩
abbrev cX5_isHolder : ByteArray := prog_7_method_7_code
abbrev yX5_isHolder : MethodName := ⟨"GuaranteeBookModel", "isHolder", "(I)Z"⟩
abbrev cX5_refuse : ByteArray := prog_7_method_3_code
abbrev yX5_refuse : MethodName := ⟨"GuaranteeBookModel", "refuse", "(I)I"⟩
abbrev cX5_list : ByteArray := prog_7_method_9_code
abbrev yX5_list : MethodName := ⟨"GuaranteeBookModel", "list", "(II)I"⟩
abbrev cX5_first : ByteArray := prog_7_method_10_code
abbrev yX5_first : MethodName := ⟨"GuaranteeBookModel", "first", "(I)Z"⟩
abbrev cX5_isGuarantee : ByteArray := prog_7_method_5_code
abbrev yX5_isGuarantee : MethodName := ⟨"GuaranteeBookModel", "isGuarantee", "(I)Z"⟩
abbrev cX5_free : ByteArray := prog_7_method_17_code
abbrev yX5_free : MethodName := ⟨"GuaranteeBookModel", "free", "(I)J"⟩
abbrev cX5_together : ByteArray := prog_7_method_16_code
abbrev yX5_together : MethodName := ⟨"GuaranteeBookModel", "together", "(I)J"⟩
abbrev cX5_may : ByteArray := prog_7_method_15_code
abbrev yX5_may : MethodName := ⟨"GuaranteeBookModel", "may", "(I)J"⟩
abbrev cX5_used : ByteArray := prog_7_method_13_code
abbrev yX5_used : MethodName := ⟨"GuaranteeBookModel", "used", "(I)I"⟩
abbrev cX5_freeOf : ByteArray := prog_7_method_14_code
abbrev yX5_freeOf : MethodName := ⟨"GuaranteeBookModel", "freeOf", "(I)J"⟩
abbrev cX5_needed : ByteArray := prog_7_method_12_code
abbrev yX5_needed : MethodName := ⟨"GuaranteeBookModel", "needed", "(I)J"⟩
abbrev cX5_needs : ByteArray := prog_7_method_11_code
abbrev yX5_needs : MethodName := ⟨"GuaranteeBookModel", "needs", "(IJ)J"⟩
abbrev cX5_reserve : ByteArray := prog_7_method_19_code
abbrev yX5_reserve : MethodName := ⟨"GuaranteeBookModel", "reserve", "(IIJ)I"⟩
abbrev cX5_lays : ByteArray := prog_7_method_18_code
abbrev yX5_lays : MethodName := ⟨"GuaranteeBookModel", "lays", "(IJ)Z"⟩
abbrev cX5_end : ByteArray := prog_7_method_21_code
abbrev yX5_end : MethodName := ⟨"GuaranteeBookModel", "end", "(II)I"⟩
abbrev cX5_isReservation : ByteArray := prog_7_method_6_code
abbrev yX5_isReservation : MethodName := ⟨"GuaranteeBookModel", "isReservation", "(I)Z"⟩
abbrev cX5_reduce : ByteArray := prog_7_method_22_code
abbrev yX5_reduce : MethodName := ⟨"GuaranteeBookModel", "reduce", "(IJ)J"⟩
abbrev cX5_covered : ByteArray := prog_7_method_20_code
abbrev yX5_covered : MethodName := ⟨"GuaranteeBookModel", "covered", "(I)J"⟩
abbrev cX5_claim : ByteArray := prog_7_method_25_code
abbrev yX5_claim : MethodName := ⟨"GuaranteeBookModel", "claim", "(IJ)J"⟩
abbrev cX5_endRow : ByteArray := prog_7_method_23_code
abbrev yX5_endRow : MethodName := ⟨"GuaranteeBookModel", "endRow", "(I)V"⟩
abbrev cX5_running : ByteArray := prog_7_method_24_code
abbrev yX5_running : MethodName := ⟨"GuaranteeBookModel", "running", "(I)J"⟩
abbrev cX5_close : ByteArray := prog_7_method_26_code
abbrev yX5_close : MethodName := ⟨"GuaranteeBookModel", "close", "(I)Z"⟩
abbrev cX5_fails : ByteArray := prog_7_method_27_code
abbrev yX5_fails : MethodName := ⟨"GuaranteeBookModel", "fails", "(IZ)Z"⟩
abbrev cX5_tick : ByteArray := prog_7_method_28_code
abbrev yX5_tick : MethodName := ⟨"GuaranteeBookModel", "tick", "(I)Z"⟩
abbrev cX5_interest : ByteArray := prog_7_method_29_code
abbrev yX5_interest : MethodName := ⟨"GuaranteeBookModel", "interest", "(I)J"⟩
abbrev cX5_look : ByteArray := prog_7_method_30_code
abbrev yX5_look : MethodName := ⟨"GuaranteeBookModel", "look", "(II)J"⟩
abbrev cX5_of : ByteArray := prog_7_method_31_code
abbrev yX5_of : MethodName := ⟨"GuaranteeBookModel", "of", "(II)J"⟩
abbrev cX5_count : ByteArray := prog_7_method_32_code
abbrev yX5_count : MethodName := ⟨"GuaranteeBookModel", "count", "(I)I"⟩
def WSall : List Cond := lw_tbl.filter goodWord
theorem ws_good : WSall.all goodWord = true := by simp [WSall, List.all_filter]
theorem ws_in {w : Cond} (h : w ∈ lw_tbl) (g : goodWord w = true) : w ∈ WSall := List.mem_filter.mpr ⟨h, g⟩
theorem tb1 {w : Cond} (h : w ∈ tables_1_1) : w ∈ lw_tbl := List.mem_append_right _ (List.mem_append_left _ h)
theorem tb2 {w : Cond} (h : w ∈ tables_1_2) : w ∈ lw_tbl := List.mem_append_right _ (List.mem_append_right _ (List.mem_append_left _ h))
theorem tb3 {w : Cond} (h : w ∈ tables_1_3) : w ∈ lw_tbl := List.mem_append_right _ (List.mem_append_right _ (List.mem_append_right _ (List.mem_append_left _ h)))
theorem tb4 {w : Cond} (h : w ∈ tables_1_4) : w ∈ lw_tbl := List.mem_append_right _ (List.mem_append_right _ (List.mem_append_right _ (List.mem_append_right _ h)))
abbrev wsX0_init : List Cond := .code yX0_init cX0_init 1 none :: WSall
abbrev wsX4_init : List Cond := .code yX4_init cX4_init 1 none :: WSall
abbrev wsX0_first : List Cond := .code yX0_first cX0_first 3 (some .boolean) :: WSall
abbrev wsX0_guaranteeNumbered : List Cond := .code yX0_guaranteeNumbered cX0_guaranteeNumbered 2 (some (.object "GuaranteeBook$Guarantee")) :: WSall
abbrev wsX0_putFirst : List Cond := .code yX0_putFirst cX0_putFirst 3 none :: WSall
abbrev wsX0_close : List Cond := .code yX0_close cX0_close 3 (some .boolean) :: WSall
abbrev wsX1_shut : List Cond := .code yX1_shut cX1_shut 2 none :: WSall
abbrev wsX3_stop : List Cond := .code yX3_stop cX3_stop 4 none :: WSall
abbrev wsX3_endRow : List Cond := .code yX3_endRow cX3_endRow 4 none :: WSall
abbrev wsX3_upTo : List Cond := .code yX3_upTo cX3_upTo 4 (some .long) :: WSall
abbrev wsX0_fails : List Cond := .code yX0_fails cX0_fails 3 (some .boolean) :: WSall
abbrev wsX0_isDesk : List Cond := .code yX0_isDesk cX0_isDesk 1 (some .boolean) :: WSall
abbrev wsX0_tick : List Cond := .code yX0_tick cX0_tick 2 (some .boolean) :: WSall
abbrev wsX0_free : List Cond := .code yX0_free cX0_free 2 (some .long) :: WSall
abbrev wsX0_isHolder : List Cond := .code yX0_isHolder cX0_isHolder 1 (some .boolean) :: WSall
abbrev wsX0_mayCoverTogether : List Cond := .code yX0_mayCoverTogether cX0_mayCoverTogether 5 (some .long) :: WSall
abbrev wsX1_mayCover : List Cond := .code yX1_mayCover cX1_mayCover 1 (some .long) :: WSall
abbrev wsX1_unneeded : List Cond := .code yX1_unneeded cX1_unneeded 1 (some .long) :: WSall
abbrev wsX2_mostFor : List Cond := .code yX2_mostFor cX2_mostFor 3 (some .long) :: WSall
abbrev wsX0_list : List Cond := .code yX0_list cX0_list 5 (some .int) :: WSall
abbrev wsX0_count : List Cond := .code yX0_count cX0_count 2 (some .int) :: WSall
abbrev wsL_guarantee : List Cond := .codeWith yL_guarantee cL_guarantee 10 (some .int) [(0, 19, 22, 13), (0, 19, 26, 15)] :: WSall
abbrev wsX0_guarantee : List Cond := .code yX0_guarantee cX0_guarantee 10 (some .int) :: WSall
abbrev wsX0_isCents : List Cond := .code yX0_isCents cX0_isCents 2 (some .boolean) :: WSall
abbrev wsX0_isShare : List Cond := .code yX0_isShare cX0_isShare 2 (some .boolean) :: WSall
abbrev wsX2_init : List Cond := .code yX2_init cX2_init 3 none :: WSall
abbrev wsX3_init : List Cond := .code yX3_init cX3_init 3 none :: WSall
abbrev wsX1_init : List Cond := .code yX1_init cX1_init 8 none :: WSall
abbrev wsX0_putLast : List Cond := .code yX0_putLast cX0_putLast 3 none :: WSall
abbrev wsL_reserve : List Cond := .codeWith yL_reserve cL_reserve 7 (some .int) [(0, 12, 15, 13), (0, 12, 19, 15)] :: WSall
abbrev wsX0_reserve : List Cond := .code yX0_reserve cX0_reserve 5 (some .int) :: WSall
abbrev wsX0_draftCovers : List Cond := .code yX0_draftCovers cX0_draftCovers 9 (some .boolean) :: WSall
abbrev wsX4_beginFor : List Cond := .code yX4_beginFor cX4_beginFor 4 none :: WSall
abbrev wsX4_addPart : List Cond := .code yX4_addPart cX4_addPart 4 (some .boolean) :: WSall
abbrev wsX0_keepDraft : List Cond := .code yX0_keepDraft cX0_keepDraft 1 (some .int) :: WSall
abbrev wsX4_bindParts : List Cond := .code yX4_bindParts cX4_bindParts 2 none :: WSall
abbrev wsX4_tellGuarantee : List Cond := .code yX4_tellGuarantee cX4_tellGuarantee 7 none :: WSall
abbrev wsX1_changePart : List Cond := .code yX1_changePart cX1_changePart 5 none :: WSall
abbrev wsX2_neededFor : List Cond := .code yX2_neededFor cX2_neededFor 3 (some .long) :: WSall
abbrev wsL_end : List Cond := .codeWith yL_end cL_end 5 (some .int) [(0, 10, 13, 13)] :: WSall
abbrev wsX0_end : List Cond := .code yX0_end cX0_end 4 (some .int) :: WSall
abbrev wsX0_reservationNumbered : List Cond := .code yX0_reservationNumbered cX0_reservationNumbered 2 (some (.object "GuaranteeBook$Reservation")) :: WSall
abbrev wsX4_dropParts : List Cond := .code yX4_dropParts cX4_dropParts 2 none :: WSall
abbrev wsX0_finish : List Cond := .code yX0_finish cX0_finish 3 none :: WSall
abbrev wsL_reduce : List Cond := .codeWith yL_reduce cL_reduce 6 (some .int) [(0, 10, 13, 13)] :: WSall
abbrev wsX0_reduce : List Cond := .code yX0_reduce cX0_reduce 5 (some .long) :: WSall
abbrev wsX4_covered : List Cond := .code yX4_covered cX4_covered 4 (some .long) :: WSall
abbrev wsX4_shrinkBy : List Cond := .code yX4_shrinkBy cX4_shrinkBy 8 none :: WSall
abbrev wsL_claim : List Cond := .codeWith yL_claim cL_claim 6 (some .int) [(0, 10, 13, 13)] :: WSall
abbrev wsX0_claim : List Cond := .code yX0_claim cX0_claim 7 (some .long) :: WSall
abbrev wsX4_takeFromAmounts : List Cond := .code yX4_takeFromAmounts cX4_takeFromAmounts 12 (some .long) :: WSall
abbrev wsX1_loseUpTo : List Cond := .code yX1_loseUpTo cX1_loseUpTo 6 (some .long) :: WSall
abbrev wsL_interest : List Cond := .codeWith yL_interest cL_interest 4 (some .int) [(0, 8, 11, 13)] :: WSall
abbrev wsX0_interest : List Cond := .code yX0_interest cX0_interest 3 (some .long) :: WSall
abbrev wsL_look : List Cond := .codeWith yL_look cL_look 5 (some .int) [(0, 9, 12, 40)] :: WSall
abbrev wsX0_look : List Cond := .code yX0_look cX0_look 4 (some .long) :: WSall
abbrev wsX1_risk : List Cond := .code yX1_risk cX1_risk 1 (some .long) :: WSall
abbrev wsL_of : List Cond := .codeWith yL_of cL_of 5 (some .int) [(0, 9, 12, 40)] :: WSall
abbrev wsX0_of : List Cond := .code yX0_of cX0_of 4 (some .long) :: WSall
abbrev wsX4_hasPart : List Cond := .code yX4_hasPart cX4_hasPart 2 (some .boolean) :: WSall
abbrev wsX4_numberOfPart : List Cond := .code yX4_numberOfPart cX4_numberOfPart 3 (some .int) :: WSall
abbrev wsX5_init : List Cond := .code yX5_init cX5_init 1 none :: WSall
abbrev wsX5_thrown : List Cond := .code yX5_thrown cX5_thrown 1 (some .int) :: WSall
abbrev wsX5_guarantee : List Cond := .code yX5_guarantee cX5_guarantee 9 (some .int) :: WSall
abbrev wsX5_in : List Cond := .code yX5_in cX5_in 6 (some .boolean) :: WSall
abbrev wsX5_isHolder : List Cond := .code yX5_isHolder cX5_isHolder 1 (some .boolean) :: WSall
abbrev wsX5_refuse : List Cond := .code yX5_refuse cX5_refuse 2 (some .int) :: WSall
abbrev wsX5_list : List Cond := .code yX5_list cX5_list 5 (some .int) :: WSall
abbrev wsX5_first : List Cond := .code yX5_first cX5_first 5 (some .boolean) :: WSall
abbrev wsX5_isGuarantee : List Cond := .code yX5_isGuarantee cX5_isGuarantee 2 (some .boolean) :: WSall
abbrev wsX5_free : List Cond := .code yX5_free cX5_free 2 (some .long) :: WSall
abbrev wsX5_together : List Cond := .code yX5_together cX5_together 5 (some .long) :: WSall
abbrev wsX5_may : List Cond := .code yX5_may cX5_may 2 (some .long) :: WSall
abbrev wsX5_used : List Cond := .code yX5_used cX5_used 5 (some .int) :: WSall
abbrev wsX5_freeOf : List Cond := .code yX5_freeOf cX5_freeOf 4 (some .long) :: WSall
abbrev wsX5_needed : List Cond := .code yX5_needed cX5_needed 6 (some .long) :: WSall
abbrev wsX5_needs : List Cond := .code yX5_needs cX5_needs 6 (some .long) :: WSall
abbrev wsX5_reserve : List Cond := .code yX5_reserve cX5_reserve 5 (some .int) :: WSall
abbrev wsX5_lays : List Cond := .code yX5_lays cX5_lays 12 (some .boolean) :: WSall
abbrev wsX5_end : List Cond := .code yX5_end cX5_end 3 (some .int) :: WSall
abbrev wsX5_isReservation : List Cond := .code yX5_isReservation cX5_isReservation 2 (some .boolean) :: WSall
abbrev wsX5_reduce : List Cond := .code yX5_reduce cX5_reduce 9 (some .long) :: WSall
abbrev wsX5_covered : List Cond := .code yX5_covered cX5_covered 5 (some .long) :: WSall
abbrev wsX5_claim : List Cond := .code yX5_claim cX5_claim 12 (some .long) :: WSall
abbrev wsX5_endRow : List Cond := .code yX5_endRow cX5_endRow 2 none :: WSall
abbrev wsX5_running : List Cond := .code yX5_running cX5_running 3 (some .long) :: WSall
abbrev wsX5_close : List Cond := .code yX5_close cX5_close 2 (some .boolean) :: WSall
abbrev wsX5_fails : List Cond := .code yX5_fails cX5_fails 3 (some .boolean) :: WSall
abbrev wsX5_tick : List Cond := .code yX5_tick cX5_tick 2 (some .boolean) :: WSall
abbrev wsX5_interest : List Cond := .code yX5_interest cX5_interest 2 (some .long) :: WSall
abbrev wsX5_look : List Cond := .code yX5_look cX5_look 5 (some .long) :: WSall
abbrev wsX5_of : List Cond := .code yX5_of cX5_of 5 (some .long) :: WSall
abbrev wsX5_count : List Cond := .code yX5_count cX5_count 4 (some .int) :: WSall
theorem gw {w : Cond} (h : w ∈ WSall) : (w.onTables && w.keeps) = true ∨ ∃ ty, w = .arrayClass ty := good_of_word (List.mem_filter.mp h).2
theorem gdS {y : MethodName} {own : String} {ix : Nat} {c : Cond} (h1 : .methodLink own ix y ∈ WSall) (h2 : .static y ∈ WSall) (h3 : .initialized own ∈ WSall) (h5 : c ∈ WSall) : GoodIn WSall (wsS own ix y (c :: WSall)) := by
  intro w hw
  have hm : w ∈ WSall := by
    simp only [wsS, List.cons_append, List.nil_append, List.mem_cons] at hw
    rcases hw with rfl | rfl | rfl | rfl | h
    · exact h1
    · exact h2
    · exact h3
    · exact h5
    · exact h
  exact ⟨hm, gw hm⟩
theorem gdV {y : MethodName} {own C : String} {ix : Nat} {c : Cond} (h1 : .methodLink own ix y ∈ WSall) (h2 : .instanceMethod y ∈ WSall) (h3 : .selects C y y ∈ WSall) (h4 : .initialized C ∈ WSall) (h5 : c ∈ WSall) : GoodIn WSall (wsV own ix C y (c :: WSall)) := by
  intro w hw
  have hm : w ∈ WSall := by
    simp only [wsV, List.cons_append, List.nil_append, List.mem_cons] at hw
    rcases hw with rfl | rfl | rfl | rfl | rfl | h
    · exact h1
    · exact h2
    · exact h3
    · exact h4
    · exact h5
    · exact h
  exact ⟨hm, gw hm⟩
theorem gdI {c : Cond} (h5 : c ∈ WSall) : GoodIn WSall (c :: WSall) := by
  intro w hw
  have hm : w ∈ WSall := by
    rcases List.mem_cons.mp hw with rfl | h
    · exact h5
    · exact h
  exact ⟨hm, gw hm⟩
end
section
theorem w_1_43 : (Jvm.Cond.laysFinal "GuaranteeBook$Reservation" "GuaranteeBook$Reservation" "from" "[LGuaranteeBook$Guarantee;") ∈ WSall := ws_in (tb1 (List.mem_of_getElem? (i := 43) rfl)) (by decide +kernel)
theorem w_1_45 : (Jvm.Cond.laysFinal "GuaranteeBook$Reservation" "GuaranteeBook$Reservation" "covers" "[J") ∈ WSall := ws_in (tb1 (List.mem_of_getElem? (i := 45) rfl)) (by decide +kernel)
theorem w_1_47 : (Jvm.Cond.lays "GuaranteeBook$Reservation" "GuaranteeBook$Reservation" "parts" "I") ∈ WSall := ws_in (tb1 (List.mem_of_getElem? (i := 47) rfl)) (by decide +kernel)
theorem w_1_49 : (Jvm.Cond.lays "GuaranteeBook$Reservation" "GuaranteeBook$Reservation" "holder" "I") ∈ WSall := ws_in (tb1 (List.mem_of_getElem? (i := 49) rfl)) (by decide +kernel)
theorem w_1_51 : (Jvm.Cond.lays "GuaranteeBook$Reservation" "GuaranteeBook$Reservation" "debt" "J") ∈ WSall := ws_in (tb1 (List.mem_of_getElem? (i := 51) rfl)) (by decide +kernel)
theorem w_1_53 : (Jvm.Cond.lays "GuaranteeBook$Reservation" "GuaranteeBook$Reservation" "state" "I") ∈ WSall := ws_in (tb1 (List.mem_of_getElem? (i := 53) rfl)) (by decide +kernel)
theorem w_1_69 : (Jvm.Cond.laysFinal "GuaranteeBook" "GuaranteeBook" "guarantees" "[LGuaranteeBook$Guarantee;") ∈ WSall := ws_in (tb1 (List.mem_of_getElem? (i := 69) rfl)) (by decide +kernel)
theorem w_1_71 : (Jvm.Cond.laysFinal "GuaranteeBook" "GuaranteeBook" "firsts" "[LGuaranteeBook$Guarantee;") ∈ WSall := ws_in (tb1 (List.mem_of_getElem? (i := 71) rfl)) (by decide +kernel)
theorem w_1_73 : (Jvm.Cond.laysFinal "GuaranteeBook" "GuaranteeBook" "reservations" "[LGuaranteeBook$Reservation;") ∈ WSall := ws_in (tb1 (List.mem_of_getElem? (i := 73) rfl)) (by decide +kernel)
theorem w_1_75 : (Jvm.Cond.laysFinal "GuaranteeBook" "GuaranteeBook" "failing" "[Z") ∈ WSall := ws_in (tb1 (List.mem_of_getElem? (i := 75) rfl)) (by decide +kernel)
theorem w_1_77 : (Jvm.Cond.laysFinal "GuaranteeBook" "GuaranteeBook" "failures" "[I") ∈ WSall := ws_in (tb1 (List.mem_of_getElem? (i := 77) rfl)) (by decide +kernel)
theorem w_1_79 : (Jvm.Cond.lays "GuaranteeBook" "GuaranteeBook" "draft" "LGuaranteeBook$Reservation;") ∈ WSall := ws_in (tb1 (List.mem_of_getElem? (i := 79) rfl)) (by decide +kernel)
theorem w_1_81 : (Jvm.Cond.lays "GuaranteeBook" "GuaranteeBook" "guaranteeCount" "I") ∈ WSall := ws_in (tb1 (List.mem_of_getElem? (i := 81) rfl)) (by decide +kernel)
theorem w_1_83 : (Jvm.Cond.lays "GuaranteeBook" "GuaranteeBook" "reservationCount" "I") ∈ WSall := ws_in (tb1 (List.mem_of_getElem? (i := 83) rfl)) (by decide +kernel)
theorem w_1_85 : (Jvm.Cond.lays "GuaranteeBook" "GuaranteeBook" "liveCount" "I") ∈ WSall := ws_in (tb1 (List.mem_of_getElem? (i := 85) rfl)) (by decide +kernel)
theorem w_1_87 : (Jvm.Cond.lays "GuaranteeBook" "GuaranteeBook" "today" "I") ∈ WSall := ws_in (tb1 (List.mem_of_getElem? (i := 87) rfl)) (by decide +kernel)
theorem w_2_44 : (Jvm.Cond.laysFinal "GuaranteeBook$Share" "GuaranteeBook$Share" "up" "I") ∈ WSall := ws_in (tb2 (List.mem_of_getElem? (i := 44) rfl)) (by decide +kernel)
theorem w_2_46 : (Jvm.Cond.laysFinal "GuaranteeBook$Share" "GuaranteeBook$Share" "down" "I") ∈ WSall := ws_in (tb2 (List.mem_of_getElem? (i := 46) rfl)) (by decide +kernel)
theorem w_2_59 : (Jvm.Cond.laysFinal "GuaranteeBook$Interest" "GuaranteeBook$Interest" "rate" "I") ∈ WSall := ws_in (tb2 (List.mem_of_getElem? (i := 59) rfl)) (by decide +kernel)
theorem w_2_61 : (Jvm.Cond.lays "GuaranteeBook$Interest" "GuaranteeBook$Interest" "ofEndedRows" "J") ∈ WSall := ws_in (tb2 (List.mem_of_getElem? (i := 61) rfl)) (by decide +kernel)
theorem w_2_63 : (Jvm.Cond.lays "GuaranteeBook$Interest" "GuaranteeBook$Interest" "rowBegin" "I") ∈ WSall := ws_in (tb2 (List.mem_of_getElem? (i := 63) rfl)) (by decide +kernel)
theorem w_2_65 : (Jvm.Cond.lays "GuaranteeBook$Interest" "GuaranteeBook$Interest" "stopped" "Z") ∈ WSall := ws_in (tb2 (List.mem_of_getElem? (i := 65) rfl)) (by decide +kernel)
theorem w_2_92 : (Jvm.Cond.laysFinal "GuaranteeBook$Guarantee" "GuaranteeBook$Guarantee" "number" "I") ∈ WSall := ws_in (tb2 (List.mem_of_getElem? (i := 92) rfl)) (by decide +kernel)
theorem w_2_94 : (Jvm.Cond.laysFinal "GuaranteeBook$Guarantee" "GuaranteeBook$Guarantee" "holder" "I") ∈ WSall := ws_in (tb2 (List.mem_of_getElem? (i := 94) rfl)) (by decide +kernel)
theorem w_2_96 : (Jvm.Cond.laysFinal "GuaranteeBook$Guarantee" "GuaranteeBook$Guarantee" "share" "LGuaranteeBook$Share;") ∈ WSall := ws_in (tb2 (List.mem_of_getElem? (i := 96) rfl)) (by decide +kernel)
theorem w_2_98 : (Jvm.Cond.laysFinal "GuaranteeBook$Guarantee" "GuaranteeBook$Guarantee" "single" "Z") ∈ WSall := ws_in (tb2 (List.mem_of_getElem? (i := 98) rfl)) (by decide +kernel)
theorem w_2_100 : (Jvm.Cond.laysFinal "GuaranteeBook$Guarantee" "GuaranteeBook$Guarantee" "interest" "LGuaranteeBook$Interest;") ∈ WSall := ws_in (tb2 (List.mem_of_getElem? (i := 100) rfl)) (by decide +kernel)
theorem w_2_102 : (Jvm.Cond.lays "GuaranteeBook$Guarantee" "GuaranteeBook$Guarantee" "amount" "J") ∈ WSall := ws_in (tb2 (List.mem_of_getElem? (i := 102) rfl)) (by decide +kernel)
theorem w_2_104 : (Jvm.Cond.lays "GuaranteeBook$Guarantee" "GuaranteeBook$Guarantee" "needed" "J") ∈ WSall := ws_in (tb2 (List.mem_of_getElem? (i := 104) rfl)) (by decide +kernel)
theorem w_2_106 : (Jvm.Cond.lays "GuaranteeBook$Guarantee" "GuaranteeBook$Guarantee" "claimed" "J") ∈ WSall := ws_in (tb2 (List.mem_of_getElem? (i := 106) rfl)) (by decide +kernel)
theorem w_2_108 : (Jvm.Cond.lays "GuaranteeBook$Guarantee" "GuaranteeBook$Guarantee" "uses" "I") ∈ WSall := ws_in (tb2 (List.mem_of_getElem? (i := 108) rfl)) (by decide +kernel)
theorem w_2_110 : (Jvm.Cond.lays "GuaranteeBook$Guarantee" "GuaranteeBook$Guarantee" "closed" "Z") ∈ WSall := ws_in (tb2 (List.mem_of_getElem? (i := 110) rfl)) (by decide +kernel)
theorem w_2_112 : (Jvm.Cond.lays "GuaranteeBook$Guarantee" "GuaranteeBook$Guarantee" "next" "LGuaranteeBook$Guarantee;") ∈ WSall := ws_in (tb2 (List.mem_of_getElem? (i := 112) rfl)) (by decide +kernel)
theorem w_3_60 : (Jvm.Cond.lays "GuaranteeBookModel" "GuaranteeBookModel" "thrown" "I") ∈ WSall := ws_in (tb3 (List.mem_of_getElem? (i := 60) rfl)) (by decide +kernel)
theorem w_3_62 : (Jvm.Cond.lays "GuaranteeBookModel" "GuaranteeBookModel" "guarantees" "I") ∈ WSall := ws_in (tb3 (List.mem_of_getElem? (i := 62) rfl)) (by decide +kernel)
theorem w_3_64 : (Jvm.Cond.lays "GuaranteeBookModel" "GuaranteeBookModel" "today" "I") ∈ WSall := ws_in (tb3 (List.mem_of_getElem? (i := 64) rfl)) (by decide +kernel)
theorem w_3_66 : (Jvm.Cond.laysFinal "GuaranteeBookModel" "GuaranteeBookModel" "holder" "[I") ∈ WSall := ws_in (tb3 (List.mem_of_getElem? (i := 66) rfl)) (by decide +kernel)
theorem w_3_68 : (Jvm.Cond.laysFinal "GuaranteeBookModel" "GuaranteeBookModel" "amount" "[J") ∈ WSall := ws_in (tb3 (List.mem_of_getElem? (i := 68) rfl)) (by decide +kernel)
theorem w_3_70 : (Jvm.Cond.laysFinal "GuaranteeBookModel" "GuaranteeBookModel" "up" "[I") ∈ WSall := ws_in (tb3 (List.mem_of_getElem? (i := 70) rfl)) (by decide +kernel)
theorem w_3_72 : (Jvm.Cond.laysFinal "GuaranteeBookModel" "GuaranteeBookModel" "down" "[I") ∈ WSall := ws_in (tb3 (List.mem_of_getElem? (i := 72) rfl)) (by decide +kernel)
theorem w_3_74 : (Jvm.Cond.laysFinal "GuaranteeBookModel" "GuaranteeBookModel" "single" "[Z") ∈ WSall := ws_in (tb3 (List.mem_of_getElem? (i := 74) rfl)) (by decide +kernel)
theorem w_3_76 : (Jvm.Cond.laysFinal "GuaranteeBookModel" "GuaranteeBookModel" "rate" "[I") ∈ WSall := ws_in (tb3 (List.mem_of_getElem? (i := 76) rfl)) (by decide +kernel)
theorem w_3_78 : (Jvm.Cond.laysFinal "GuaranteeBookModel" "GuaranteeBookModel" "closed" "[Z") ∈ WSall := ws_in (tb3 (List.mem_of_getElem? (i := 78) rfl)) (by decide +kernel)
theorem w_3_80 : (Jvm.Cond.laysFinal "GuaranteeBookModel" "GuaranteeBookModel" "closedOn" "[I") ∈ WSall := ws_in (tb3 (List.mem_of_getElem? (i := 80) rfl)) (by decide +kernel)
theorem w_3_82 : (Jvm.Cond.laysFinal "GuaranteeBookModel" "GuaranteeBookModel" "claimed" "[J") ∈ WSall := ws_in (tb3 (List.mem_of_getElem? (i := 82) rfl)) (by decide +kernel)
theorem w_3_84 : (Jvm.Cond.laysFinal "GuaranteeBookModel" "GuaranteeBookModel" "interest" "[J") ∈ WSall := ws_in (tb3 (List.mem_of_getElem? (i := 84) rfl)) (by decide +kernel)
theorem w_3_86 : (Jvm.Cond.laysFinal "GuaranteeBookModel" "GuaranteeBookModel" "since" "[I") ∈ WSall := ws_in (tb3 (List.mem_of_getElem? (i := 86) rfl)) (by decide +kernel)
theorem w_3_88 : (Jvm.Cond.laysFinal "GuaranteeBookModel" "GuaranteeBookModel" "order" "[I") ∈ WSall := ws_in (tb3 (List.mem_of_getElem? (i := 88) rfl)) (by decide +kernel)
theorem w_3_90 : (Jvm.Cond.lays "GuaranteeBookModel" "GuaranteeBookModel" "reservations" "I") ∈ WSall := ws_in (tb3 (List.mem_of_getElem? (i := 90) rfl)) (by decide +kernel)
theorem w_3_92 : (Jvm.Cond.laysFinal "GuaranteeBookModel" "GuaranteeBookModel" "of" "[I") ∈ WSall := ws_in (tb3 (List.mem_of_getElem? (i := 92) rfl)) (by decide +kernel)
theorem w_3_94 : (Jvm.Cond.laysFinal "GuaranteeBookModel" "GuaranteeBookModel" "made" "[J") ∈ WSall := ws_in (tb3 (List.mem_of_getElem? (i := 94) rfl)) (by decide +kernel)
theorem w_3_96 : (Jvm.Cond.laysFinal "GuaranteeBookModel" "GuaranteeBookModel" "how" "[I") ∈ WSall := ws_in (tb3 (List.mem_of_getElem? (i := 96) rfl)) (by decide +kernel)
theorem w_3_98 : (Jvm.Cond.laysFinal "GuaranteeBookModel" "GuaranteeBookModel" "parts" "[I") ∈ WSall := ws_in (tb3 (List.mem_of_getElem? (i := 98) rfl)) (by decide +kernel)
theorem w_3_100 : (Jvm.Cond.laysFinal "GuaranteeBookModel" "GuaranteeBookModel" "part" "[I") ∈ WSall := ws_in (tb3 (List.mem_of_getElem? (i := 100) rfl)) (by decide +kernel)
theorem w_3_102 : (Jvm.Cond.laysFinal "GuaranteeBookModel" "GuaranteeBookModel" "covers" "[J") ∈ WSall := ws_in (tb3 (List.mem_of_getElem? (i := 102) rfl)) (by decide +kernel)
theorem w_3_104 : (Jvm.Cond.laysFinal "GuaranteeBookModel" "GuaranteeBookModel" "desk" "[Z") ∈ WSall := ws_in (tb3 (List.mem_of_getElem? (i := 104) rfl)) (by decide +kernel)
theorem w_3_106 : (Jvm.Cond.laysFinal "GuaranteeBookModel" "GuaranteeBookModel" "failures" "[I") ∈ WSall := ws_in (tb3 (List.mem_of_getElem? (i := 106) rfl)) (by decide +kernel)
theorem w_1_1 : (Jvm.Cond.initialized "GuaranteeBook") ∈ WSall := ws_in (tb1 (List.mem_of_getElem? (i := 1) rfl)) (by decide +kernel)
theorem w_1_2 : (Jvm.Cond.initialized "GuaranteeBook$Reservation") ∈ WSall := ws_in (tb1 (List.mem_of_getElem? (i := 2) rfl)) (by decide +kernel)
theorem w_1_7 : (Jvm.Cond.initialized "java/lang/IllegalArgumentException") ∈ WSall := ws_in (tb1 (List.mem_of_getElem? (i := 7) rfl)) (by decide +kernel)
theorem w_1_9 : (Jvm.Cond.initialized "GuaranteeBook$Guarantee") ∈ WSall := ws_in (tb1 (List.mem_of_getElem? (i := 9) rfl)) (by decide +kernel)
theorem w_1_10 : (Jvm.Cond.initialized "GuaranteeBook$Share") ∈ WSall := ws_in (tb1 (List.mem_of_getElem? (i := 10) rfl)) (by decide +kernel)
theorem w_1_11 : (Jvm.Cond.initialized "GuaranteeBook$Interest") ∈ WSall := ws_in (tb1 (List.mem_of_getElem? (i := 11) rfl)) (by decide +kernel)
theorem w_1_12 : (Jvm.Cond.initialized "java/lang/Math") ∈ WSall := ws_in (tb1 (List.mem_of_getElem? (i := 12) rfl)) (by decide +kernel)
theorem w_1_13 : (Jvm.Cond.initialized "java/lang/IndexOutOfBoundsException") ∈ WSall := ws_in (tb1 (List.mem_of_getElem? (i := 13) rfl)) (by decide +kernel)
theorem w_1_32 : (Jvm.Cond.fieldLink "GuaranteeBook$Reservation" (11 : Nat) "GuaranteeBook$Reservation" "from" "[LGuaranteeBook$Guarantee;") ∈ WSall := ws_in (tb1 (List.mem_of_getElem? (i := 32) rfl)) (by decide +kernel)
theorem w_1_33 : (Jvm.Cond.fieldLink "GuaranteeBook$Reservation" (17 : Nat) "GuaranteeBook$Reservation" "covers" "[J") ∈ WSall := ws_in (tb1 (List.mem_of_getElem? (i := 33) rfl)) (by decide +kernel)
theorem w_1_35 : (Jvm.Cond.fieldLink "GuaranteeBook$Reservation" (32 : Nat) "GuaranteeBook$Reservation" "parts" "I") ∈ WSall := ws_in (tb1 (List.mem_of_getElem? (i := 35) rfl)) (by decide +kernel)
theorem w_1_37 : (Jvm.Cond.fieldLink "GuaranteeBook$Reservation" (25 : Nat) "GuaranteeBook$Reservation" "holder" "I") ∈ WSall := ws_in (tb1 (List.mem_of_getElem? (i := 37) rfl)) (by decide +kernel)
theorem w_1_39 : (Jvm.Cond.fieldLink "GuaranteeBook$Reservation" (28 : Nat) "GuaranteeBook$Reservation" "debt" "J") ∈ WSall := ws_in (tb1 (List.mem_of_getElem? (i := 39) rfl)) (by decide +kernel)
theorem w_1_59 : (Jvm.Cond.fieldLink "GuaranteeBook" (11 : Nat) "GuaranteeBook" "guarantees" "[LGuaranteeBook$Guarantee;") ∈ WSall := ws_in (tb1 (List.mem_of_getElem? (i := 59) rfl)) (by decide +kernel)
theorem w_1_60 : (Jvm.Cond.fieldLink "GuaranteeBook" (15 : Nat) "GuaranteeBook" "firsts" "[LGuaranteeBook$Guarantee;") ∈ WSall := ws_in (tb1 (List.mem_of_getElem? (i := 60) rfl)) (by decide +kernel)
theorem w_1_61 : (Jvm.Cond.fieldLink "GuaranteeBook" (20 : Nat) "GuaranteeBook" "reservations" "[LGuaranteeBook$Reservation;") ∈ WSall := ws_in (tb1 (List.mem_of_getElem? (i := 61) rfl)) (by decide +kernel)
theorem w_1_62 : (Jvm.Cond.fieldLink "GuaranteeBook" (24 : Nat) "GuaranteeBook" "failing" "[Z") ∈ WSall := ws_in (tb1 (List.mem_of_getElem? (i := 62) rfl)) (by decide +kernel)
theorem w_1_63 : (Jvm.Cond.fieldLink "GuaranteeBook" (28 : Nat) "GuaranteeBook" "failures" "[I") ∈ WSall := ws_in (tb1 (List.mem_of_getElem? (i := 63) rfl)) (by decide +kernel)
theorem w_1_64 : (Jvm.Cond.fieldLink "GuaranteeBook" (33 : Nat) "GuaranteeBook" "draft" "LGuaranteeBook$Reservation;") ∈ WSall := ws_in (tb1 (List.mem_of_getElem? (i := 64) rfl)) (by decide +kernel)
theorem w_1_65 : (Jvm.Cond.fieldLink "GuaranteeBook" (56 : Nat) "GuaranteeBook" "guaranteeCount" "I") ∈ WSall := ws_in (tb1 (List.mem_of_getElem? (i := 65) rfl)) (by decide +kernel)
theorem w_1_66 : (Jvm.Cond.fieldLink "GuaranteeBook" (98 : Nat) "GuaranteeBook" "reservationCount" "I") ∈ WSall := ws_in (tb1 (List.mem_of_getElem? (i := 66) rfl)) (by decide +kernel)
theorem w_1_67 : (Jvm.Cond.fieldLink "GuaranteeBook" (224 : Nat) "GuaranteeBook" "liveCount" "I") ∈ WSall := ws_in (tb1 (List.mem_of_getElem? (i := 67) rfl)) (by decide +kernel)
theorem w_1_68 : (Jvm.Cond.fieldLink "GuaranteeBook" (72 : Nat) "GuaranteeBook" "today" "I") ∈ WSall := ws_in (tb1 (List.mem_of_getElem? (i := 68) rfl)) (by decide +kernel)
theorem w_1_94 : (Jvm.Cond.methodLink "GuaranteeBook" (83 : Nat) ({ cls := "GuaranteeBook", name := "guaranteeNumbered", desc := "(I)LGuaranteeBook$Guarantee;" } : Jvm.MethodName)) ∈ WSall := ws_in (tb1 (List.mem_of_getElem? (i := 94) rfl)) (by decide +kernel)
theorem w_1_96 : (Jvm.Cond.instanceMethod ({ cls := "GuaranteeBook", name := "guaranteeNumbered", desc := "(I)LGuaranteeBook$Guarantee;" } : Jvm.MethodName)) ∈ WSall := ws_in (tb1 (List.mem_of_getElem? (i := 96) rfl)) (by decide +kernel)
theorem w_1_97 : (Jvm.Cond.code ({ cls := "GuaranteeBook", name := "guaranteeNumbered", desc := "(I)LGuaranteeBook$Guarantee;" } : Jvm.MethodName) prog_1_method_21_code (2 : Nat) (Option.some (Jvm.ClassFile.FieldType.object "GuaranteeBook$Guarantee"))) ∈ WSall := ws_in (tb1 (List.mem_of_getElem? (i := 97) rfl)) (by decide +kernel)
theorem w_1_106 : (Jvm.Cond.methodLink "GuaranteeBook" (153 : Nat) ({ cls := "GuaranteeBook$Guarantee", name := "shut", desc := "(I)V" } : Jvm.MethodName)) ∈ WSall := ws_in (tb1 (List.mem_of_getElem? (i := 106) rfl)) (by decide +kernel)
theorem w_1_107 : (Jvm.Cond.instanceMethod ({ cls := "GuaranteeBook$Guarantee", name := "shut", desc := "(I)V" } : Jvm.MethodName)) ∈ WSall := ws_in (tb1 (List.mem_of_getElem? (i := 107) rfl)) (by decide +kernel)
theorem w_1_108 : (Jvm.Cond.selects "GuaranteeBook$Guarantee" ({ cls := "GuaranteeBook$Guarantee", name := "shut", desc := "(I)V" } : Jvm.MethodName) ({ cls := "GuaranteeBook$Guarantee", name := "shut", desc := "(I)V" } : Jvm.MethodName)) ∈ WSall := ws_in (tb1 (List.mem_of_getElem? (i := 108) rfl)) (by decide +kernel)
theorem w_1_109 : (Jvm.Cond.code ({ cls := "GuaranteeBook$Guarantee", name := "shut", desc := "(I)V" } : Jvm.MethodName) prog_2_method_7_code (2 : Nat) (Option.none : Option Jvm.ClassFile.FieldType)) ∈ WSall := ws_in (tb1 (List.mem_of_getElem? (i := 109) rfl)) (by decide +kernel)
theorem w_1_110 : (Jvm.Cond.methodLink "GuaranteeBook$Guarantee" (72 : Nat) ({ cls := "GuaranteeBook$Interest", name := "stop", desc := "(IJ)V" } : Jvm.MethodName)) ∈ WSall := ws_in (tb1 (List.mem_of_getElem? (i := 110) rfl)) (by decide +kernel)
theorem w_1_111 : (Jvm.Cond.instanceMethod ({ cls := "GuaranteeBook$Interest", name := "stop", desc := "(IJ)V" } : Jvm.MethodName)) ∈ WSall := ws_in (tb1 (List.mem_of_getElem? (i := 111) rfl)) (by decide +kernel)
theorem w_1_112 : (Jvm.Cond.selects "GuaranteeBook$Interest" ({ cls := "GuaranteeBook$Interest", name := "stop", desc := "(IJ)V" } : Jvm.MethodName) ({ cls := "GuaranteeBook$Interest", name := "stop", desc := "(IJ)V" } : Jvm.MethodName)) ∈ WSall := ws_in (tb1 (List.mem_of_getElem? (i := 112) rfl)) (by decide +kernel)
theorem w_1_113 : (Jvm.Cond.code ({ cls := "GuaranteeBook$Interest", name := "stop", desc := "(IJ)V" } : Jvm.MethodName) prog_3_method_4_code (4 : Nat) (Option.none : Option Jvm.ClassFile.FieldType)) ∈ WSall := ws_in (tb1 (List.mem_of_getElem? (i := 113) rfl)) (by decide +kernel)
theorem w_1_114 : (Jvm.Cond.methodLink "GuaranteeBook$Interest" (32 : Nat) ({ cls := "GuaranteeBook$Interest", name := "endRow", desc := "(IJ)V" } : Jvm.MethodName)) ∈ WSall := ws_in (tb1 (List.mem_of_getElem? (i := 114) rfl)) (by decide +kernel)
theorem w_1_115 : (Jvm.Cond.instanceMethod ({ cls := "GuaranteeBook$Interest", name := "endRow", desc := "(IJ)V" } : Jvm.MethodName)) ∈ WSall := ws_in (tb1 (List.mem_of_getElem? (i := 115) rfl)) (by decide +kernel)
theorem w_1_116 : (Jvm.Cond.selects "GuaranteeBook$Interest" ({ cls := "GuaranteeBook$Interest", name := "endRow", desc := "(IJ)V" } : Jvm.MethodName) ({ cls := "GuaranteeBook$Interest", name := "endRow", desc := "(IJ)V" } : Jvm.MethodName)) ∈ WSall := ws_in (tb1 (List.mem_of_getElem? (i := 116) rfl)) (by decide +kernel)
theorem w_1_117 : (Jvm.Cond.code ({ cls := "GuaranteeBook$Interest", name := "endRow", desc := "(IJ)V" } : Jvm.MethodName) prog_3_method_3_code (4 : Nat) (Option.none : Option Jvm.ClassFile.FieldType)) ∈ WSall := ws_in (tb1 (List.mem_of_getElem? (i := 117) rfl)) (by decide +kernel)
theorem w_1_118 : (Jvm.Cond.methodLink "GuaranteeBook$Interest" (28 : Nat) ({ cls := "GuaranteeBook$Interest", name := "upTo", desc := "(IJ)J" } : Jvm.MethodName)) ∈ WSall := ws_in (tb1 (List.mem_of_getElem? (i := 118) rfl)) (by decide +kernel)
theorem w_1_119 : (Jvm.Cond.instanceMethod ({ cls := "GuaranteeBook$Interest", name := "upTo", desc := "(IJ)J" } : Jvm.MethodName)) ∈ WSall := ws_in (tb1 (List.mem_of_getElem? (i := 119) rfl)) (by decide +kernel)
theorem w_1_120 : (Jvm.Cond.selects "GuaranteeBook$Interest" ({ cls := "GuaranteeBook$Interest", name := "upTo", desc := "(IJ)J" } : Jvm.MethodName) ({ cls := "GuaranteeBook$Interest", name := "upTo", desc := "(IJ)J" } : Jvm.MethodName)) ∈ WSall := ws_in (tb1 (List.mem_of_getElem? (i := 120) rfl)) (by decide +kernel)
theorem w_1_121 : (Jvm.Cond.code ({ cls := "GuaranteeBook$Interest", name := "upTo", desc := "(IJ)J" } : Jvm.MethodName) prog_3_method_2_code (4 : Nat) (Option.some Jvm.ClassFile.FieldType.long)) ∈ WSall := ws_in (tb1 (List.mem_of_getElem? (i := 121) rfl)) (by decide +kernel)
theorem w_1_122 : (Jvm.Cond.constantLong "GuaranteeBook$Interest" (26 : Nat) (3650000 : Int64)) ∈ WSall := ws_in (tb1 (List.mem_of_getElem? (i := 122) rfl)) (by decide +kernel)
theorem w_1_127 : (Jvm.Cond.methodLink "GuaranteeBook" (93 : Nat) ({ cls := "GuaranteeBook", name := "isDesk", desc := "(I)Z" } : Jvm.MethodName)) ∈ WSall := ws_in (tb1 (List.mem_of_getElem? (i := 127) rfl)) (by decide +kernel)
theorem w_1_128 : (Jvm.Cond.static ({ cls := "GuaranteeBook", name := "isDesk", desc := "(I)Z" } : Jvm.MethodName)) ∈ WSall := ws_in (tb1 (List.mem_of_getElem? (i := 128) rfl)) (by decide +kernel)
theorem w_1_129 : (Jvm.Cond.code ({ cls := "GuaranteeBook", name := "isDesk", desc := "(I)Z" } : Jvm.MethodName) prog_1_method_18_code (1 : Nat) (Option.some Jvm.ClassFile.FieldType.boolean)) ∈ WSall := ws_in (tb1 (List.mem_of_getElem? (i := 129) rfl)) (by decide +kernel)
theorem w_1_134 : (Jvm.Cond.constant "GuaranteeBook" (157 : Nat) (100000 : Int32)) ∈ WSall := ws_in (tb1 (List.mem_of_getElem? (i := 134) rfl)) (by decide +kernel)
theorem w_1_139 : (Jvm.Cond.methodLink "GuaranteeBook" (37 : Nat) ({ cls := "GuaranteeBook", name := "isHolder", desc := "(I)Z" } : Jvm.MethodName)) ∈ WSall := ws_in (tb1 (List.mem_of_getElem? (i := 139) rfl)) (by decide +kernel)
theorem w_1_140 : (Jvm.Cond.static ({ cls := "GuaranteeBook", name := "isHolder", desc := "(I)Z" } : Jvm.MethodName)) ∈ WSall := ws_in (tb1 (List.mem_of_getElem? (i := 140) rfl)) (by decide +kernel)
theorem w_1_141 : (Jvm.Cond.code ({ cls := "GuaranteeBook", name := "isHolder", desc := "(I)Z" } : Jvm.MethodName) prog_1_method_17_code (1 : Nat) (Option.some Jvm.ClassFile.FieldType.boolean)) ∈ WSall := ws_in (tb1 (List.mem_of_getElem? (i := 141) rfl)) (by decide +kernel)
theorem w_1_142 : (Jvm.Cond.methodLink "GuaranteeBook" (109 : Nat) ({ cls := "GuaranteeBook", name := "mayCoverTogether", desc := "(I)J" } : Jvm.MethodName)) ∈ WSall := ws_in (tb1 (List.mem_of_getElem? (i := 142) rfl)) (by decide +kernel)
theorem w_1_144 : (Jvm.Cond.instanceMethod ({ cls := "GuaranteeBook", name := "mayCoverTogether", desc := "(I)J" } : Jvm.MethodName)) ∈ WSall := ws_in (tb1 (List.mem_of_getElem? (i := 144) rfl)) (by decide +kernel)
theorem w_1_145 : (Jvm.Cond.code ({ cls := "GuaranteeBook", name := "mayCoverTogether", desc := "(I)J" } : Jvm.MethodName) prog_1_method_25_code (5 : Nat) (Option.some Jvm.ClassFile.FieldType.long)) ∈ WSall := ws_in (tb1 (List.mem_of_getElem? (i := 145) rfl)) (by decide +kernel)
theorem w_1_146 : (Jvm.Cond.methodLink "GuaranteeBook" (188 : Nat) ({ cls := "GuaranteeBook$Guarantee", name := "mayCover", desc := "()J" } : Jvm.MethodName)) ∈ WSall := ws_in (tb1 (List.mem_of_getElem? (i := 146) rfl)) (by decide +kernel)
theorem w_1_147 : (Jvm.Cond.instanceMethod ({ cls := "GuaranteeBook$Guarantee", name := "mayCover", desc := "()J" } : Jvm.MethodName)) ∈ WSall := ws_in (tb1 (List.mem_of_getElem? (i := 147) rfl)) (by decide +kernel)
theorem w_1_148 : (Jvm.Cond.selects "GuaranteeBook$Guarantee" ({ cls := "GuaranteeBook$Guarantee", name := "mayCover", desc := "()J" } : Jvm.MethodName) ({ cls := "GuaranteeBook$Guarantee", name := "mayCover", desc := "()J" } : Jvm.MethodName)) ∈ WSall := ws_in (tb1 (List.mem_of_getElem? (i := 148) rfl)) (by decide +kernel)
theorem w_1_149 : (Jvm.Cond.code ({ cls := "GuaranteeBook$Guarantee", name := "mayCover", desc := "()J" } : Jvm.MethodName) prog_2_method_4_code (1 : Nat) (Option.some Jvm.ClassFile.FieldType.long)) ∈ WSall := ws_in (tb1 (List.mem_of_getElem? (i := 149) rfl)) (by decide +kernel)
theorem w_1_150 : (Jvm.Cond.methodLink "GuaranteeBook$Guarantee" (47 : Nat) ({ cls := "GuaranteeBook$Guarantee", name := "unneeded", desc := "()J" } : Jvm.MethodName)) ∈ WSall := ws_in (tb1 (List.mem_of_getElem? (i := 150) rfl)) (by decide +kernel)
theorem w_1_151 : (Jvm.Cond.instanceMethod ({ cls := "GuaranteeBook$Guarantee", name := "unneeded", desc := "()J" } : Jvm.MethodName)) ∈ WSall := ws_in (tb1 (List.mem_of_getElem? (i := 151) rfl)) (by decide +kernel)
theorem w_1_152 : (Jvm.Cond.selects "GuaranteeBook$Guarantee" ({ cls := "GuaranteeBook$Guarantee", name := "unneeded", desc := "()J" } : Jvm.MethodName) ({ cls := "GuaranteeBook$Guarantee", name := "unneeded", desc := "()J" } : Jvm.MethodName)) ∈ WSall := ws_in (tb1 (List.mem_of_getElem? (i := 152) rfl)) (by decide +kernel)
theorem w_1_153 : (Jvm.Cond.code ({ cls := "GuaranteeBook$Guarantee", name := "unneeded", desc := "()J" } : Jvm.MethodName) prog_2_method_2_code (1 : Nat) (Option.some Jvm.ClassFile.FieldType.long)) ∈ WSall := ws_in (tb1 (List.mem_of_getElem? (i := 153) rfl)) (by decide +kernel)
theorem w_1_154 : (Jvm.Cond.methodLink "GuaranteeBook$Guarantee" (35 : Nat) ({ cls := "java/lang/Math", name := "max", desc := "(JJ)J" } : Jvm.MethodName)) ∈ WSall := ws_in (tb1 (List.mem_of_getElem? (i := 154) rfl)) (by decide +kernel)
theorem w_1_155 : (Jvm.Cond.static ({ cls := "java/lang/Math", name := "max", desc := "(JJ)J" } : Jvm.MethodName)) ∈ WSall := ws_in (tb1 (List.mem_of_getElem? (i := 155) rfl)) (by decide +kernel)
theorem w_1_157 : (Jvm.Cond.methodLink "GuaranteeBook$Guarantee" (51 : Nat) ({ cls := "GuaranteeBook$Share", name := "mostFor", desc := "(J)J" } : Jvm.MethodName)) ∈ WSall := ws_in (tb1 (List.mem_of_getElem? (i := 157) rfl)) (by decide +kernel)
theorem w_1_158 : (Jvm.Cond.instanceMethod ({ cls := "GuaranteeBook$Share", name := "mostFor", desc := "(J)J" } : Jvm.MethodName)) ∈ WSall := ws_in (tb1 (List.mem_of_getElem? (i := 158) rfl)) (by decide +kernel)
theorem w_1_159 : (Jvm.Cond.selects "GuaranteeBook$Share" ({ cls := "GuaranteeBook$Share", name := "mostFor", desc := "(J)J" } : Jvm.MethodName) ({ cls := "GuaranteeBook$Share", name := "mostFor", desc := "(J)J" } : Jvm.MethodName)) ∈ WSall := ws_in (tb1 (List.mem_of_getElem? (i := 159) rfl)) (by decide +kernel)
theorem w_1_160 : (Jvm.Cond.code ({ cls := "GuaranteeBook$Share", name := "mostFor", desc := "(J)J" } : Jvm.MethodName) prog_5_method_3_code (3 : Nat) (Option.some Jvm.ClassFile.FieldType.long)) ∈ WSall := ws_in (tb1 (List.mem_of_getElem? (i := 160) rfl)) (by decide +kernel)
theorem w_1_161 : (Jvm.Cond.constantLong "GuaranteeBook$Share" (18 : Nat) (1000000000 : Int64)) ∈ WSall := ws_in (tb1 (List.mem_of_getElem? (i := 161) rfl)) (by decide +kernel)
theorem w_1_162 : (Jvm.Cond.constantLong "GuaranteeBook" (229 : Nat) (2000000000 : Int64)) ∈ WSall := ws_in (tb1 (List.mem_of_getElem? (i := 162) rfl)) (by decide +kernel)
theorem w_1_163 : (Jvm.Cond.methodLink "GuaranteeBook" (231 : Nat) ({ cls := "java/lang/Math", name := "min", desc := "(JJ)J" } : Jvm.MethodName)) ∈ WSall := ws_in (tb1 (List.mem_of_getElem? (i := 163) rfl)) (by decide +kernel)
theorem w_1_164 : (Jvm.Cond.static ({ cls := "java/lang/Math", name := "min", desc := "(JJ)J" } : Jvm.MethodName)) ∈ WSall := ws_in (tb1 (List.mem_of_getElem? (i := 164) rfl)) (by decide +kernel)
theorem w_1_166 : (Jvm.Cond.constantLong "GuaranteeBook" (139 : Nat) (-1 : Int64)) ∈ WSall := ws_in (tb1 (List.mem_of_getElem? (i := 166) rfl)) (by decide +kernel)
theorem w_1_187 : (Jvm.Cond.constantLong "GuaranteeBook" (227 : Nat) (1000000000 : Int64)) ∈ WSall := ws_in (tb1 (List.mem_of_getElem? (i := 187) rfl)) (by decide +kernel)
theorem w_1_191 : (Jvm.Cond.classLink "GuaranteeBook" (49 : Nat) "java/lang/IllegalArgumentException") ∈ WSall := ws_in (tb1 (List.mem_of_getElem? (i := 191) rfl)) (by decide +kernel)
theorem w_2_42 : (Jvm.Cond.fieldLink "GuaranteeBook$Share" (9 : Nat) "GuaranteeBook$Share" "up" "I") ∈ WSall := ws_in (tb2 (List.mem_of_getElem? (i := 42) rfl)) (by decide +kernel)
theorem w_2_43 : (Jvm.Cond.fieldLink "GuaranteeBook$Share" (15 : Nat) "GuaranteeBook$Share" "down" "I") ∈ WSall := ws_in (tb2 (List.mem_of_getElem? (i := 43) rfl)) (by decide +kernel)
theorem w_2_55 : (Jvm.Cond.fieldLink "GuaranteeBook$Interest" (9 : Nat) "GuaranteeBook$Interest" "rate" "I") ∈ WSall := ws_in (tb2 (List.mem_of_getElem? (i := 55) rfl)) (by decide +kernel)
theorem w_2_56 : (Jvm.Cond.fieldLink "GuaranteeBook$Interest" (22 : Nat) "GuaranteeBook$Interest" "ofEndedRows" "J") ∈ WSall := ws_in (tb2 (List.mem_of_getElem? (i := 56) rfl)) (by decide +kernel)
theorem w_2_57 : (Jvm.Cond.fieldLink "GuaranteeBook$Interest" (15 : Nat) "GuaranteeBook$Interest" "rowBegin" "I") ∈ WSall := ws_in (tb2 (List.mem_of_getElem? (i := 57) rfl)) (by decide +kernel)
theorem w_2_58 : (Jvm.Cond.fieldLink "GuaranteeBook$Interest" (18 : Nat) "GuaranteeBook$Interest" "stopped" "Z") ∈ WSall := ws_in (tb2 (List.mem_of_getElem? (i := 58) rfl)) (by decide +kernel)
theorem w_2_77 : (Jvm.Cond.fieldLink "GuaranteeBook$Guarantee" (20 : Nat) "GuaranteeBook$Guarantee" "share" "LGuaranteeBook$Share;") ∈ WSall := ws_in (tb2 (List.mem_of_getElem? (i := 77) rfl)) (by decide +kernel)
theorem w_2_78 : (Jvm.Cond.fieldLink "GuaranteeBook$Guarantee" (24 : Nat) "GuaranteeBook$Guarantee" "single" "Z") ∈ WSall := ws_in (tb2 (List.mem_of_getElem? (i := 78) rfl)) (by decide +kernel)
theorem w_2_79 : (Jvm.Cond.fieldLink "GuaranteeBook$Guarantee" (28 : Nat) "GuaranteeBook$Guarantee" "interest" "LGuaranteeBook$Interest;") ∈ WSall := ws_in (tb2 (List.mem_of_getElem? (i := 79) rfl)) (by decide +kernel)
theorem w_2_81 : (Jvm.Cond.fieldLink "GuaranteeBook$Guarantee" (16 : Nat) "GuaranteeBook$Guarantee" "amount" "J") ∈ WSall := ws_in (tb2 (List.mem_of_getElem? (i := 81) rfl)) (by decide +kernel)
theorem w_2_83 : (Jvm.Cond.fieldLink "GuaranteeBook$Guarantee" (32 : Nat) "GuaranteeBook$Guarantee" "needed" "J") ∈ WSall := ws_in (tb2 (List.mem_of_getElem? (i := 83) rfl)) (by decide +kernel)
theorem w_2_85 : (Jvm.Cond.fieldLink "GuaranteeBook$Guarantee" (69 : Nat) "GuaranteeBook$Guarantee" "claimed" "J") ∈ WSall := ws_in (tb2 (List.mem_of_getElem? (i := 85) rfl)) (by decide +kernel)
theorem w_2_87 : (Jvm.Cond.fieldLink "GuaranteeBook$Guarantee" (44 : Nat) "GuaranteeBook$Guarantee" "uses" "I") ∈ WSall := ws_in (tb2 (List.mem_of_getElem? (i := 87) rfl)) (by decide +kernel)
theorem w_2_89 : (Jvm.Cond.fieldLink "GuaranteeBook$Guarantee" (41 : Nat) "GuaranteeBook$Guarantee" "closed" "Z") ∈ WSall := ws_in (tb2 (List.mem_of_getElem? (i := 89) rfl)) (by decide +kernel)
theorem w_2_132 : (Jvm.Cond.methodLink "GuaranteeBook" (237 : Nat) ({ cls := "GuaranteeBook$Reservation", name := "beginFor", desc := "(IJ)V" } : Jvm.MethodName)) ∈ WSall := ws_in (tb2 (List.mem_of_getElem? (i := 132) rfl)) (by decide +kernel)
theorem w_2_133 : (Jvm.Cond.instanceMethod ({ cls := "GuaranteeBook$Reservation", name := "beginFor", desc := "(IJ)V" } : Jvm.MethodName)) ∈ WSall := ws_in (tb2 (List.mem_of_getElem? (i := 133) rfl)) (by decide +kernel)
theorem w_2_134 : (Jvm.Cond.selects "GuaranteeBook$Reservation" ({ cls := "GuaranteeBook$Reservation", name := "beginFor", desc := "(IJ)V" } : Jvm.MethodName) ({ cls := "GuaranteeBook$Reservation", name := "beginFor", desc := "(IJ)V" } : Jvm.MethodName)) ∈ WSall := ws_in (tb2 (List.mem_of_getElem? (i := 134) rfl)) (by decide +kernel)
theorem w_2_135 : (Jvm.Cond.code ({ cls := "GuaranteeBook$Reservation", name := "beginFor", desc := "(IJ)V" } : Jvm.MethodName) prog_4_method_2_code (4 : Nat) (Option.none : Option Jvm.ClassFile.FieldType)) ∈ WSall := ws_in (tb2 (List.mem_of_getElem? (i := 135) rfl)) (by decide +kernel)
theorem w_2_136 : (Jvm.Cond.methodLink "GuaranteeBook" (241 : Nat) ({ cls := "GuaranteeBook$Reservation", name := "addPart", desc := "(LGuaranteeBook$Guarantee;J)Z" } : Jvm.MethodName)) ∈ WSall := ws_in (tb2 (List.mem_of_getElem? (i := 136) rfl)) (by decide +kernel)
theorem w_2_137 : (Jvm.Cond.instanceMethod ({ cls := "GuaranteeBook$Reservation", name := "addPart", desc := "(LGuaranteeBook$Guarantee;J)Z" } : Jvm.MethodName)) ∈ WSall := ws_in (tb2 (List.mem_of_getElem? (i := 137) rfl)) (by decide +kernel)
theorem w_2_138 : (Jvm.Cond.selects "GuaranteeBook$Reservation" ({ cls := "GuaranteeBook$Reservation", name := "addPart", desc := "(LGuaranteeBook$Guarantee;J)Z" } : Jvm.MethodName) ({ cls := "GuaranteeBook$Reservation", name := "addPart", desc := "(LGuaranteeBook$Guarantee;J)Z" } : Jvm.MethodName)) ∈ WSall := ws_in (tb2 (List.mem_of_getElem? (i := 138) rfl)) (by decide +kernel)
theorem w_2_139 : (Jvm.Cond.code ({ cls := "GuaranteeBook$Reservation", name := "addPart", desc := "(LGuaranteeBook$Guarantee;J)Z" } : Jvm.MethodName) prog_4_method_3_code (4 : Nat) (Option.some Jvm.ClassFile.FieldType.boolean)) ∈ WSall := ws_in (tb2 (List.mem_of_getElem? (i := 139) rfl)) (by decide +kernel)
theorem w_2_149 : (Jvm.Cond.methodLink "GuaranteeBook$Reservation" (38 : Nat) ({ cls := "GuaranteeBook$Reservation", name := "tellGuarantee", desc := "(IJJ)V" } : Jvm.MethodName)) ∈ WSall := ws_in (tb2 (List.mem_of_getElem? (i := 149) rfl)) (by decide +kernel)
theorem w_2_151 : (Jvm.Cond.instanceMethod ({ cls := "GuaranteeBook$Reservation", name := "tellGuarantee", desc := "(IJJ)V" } : Jvm.MethodName)) ∈ WSall := ws_in (tb2 (List.mem_of_getElem? (i := 151) rfl)) (by decide +kernel)
theorem w_2_152 : (Jvm.Cond.code ({ cls := "GuaranteeBook$Reservation", name := "tellGuarantee", desc := "(IJJ)V" } : Jvm.MethodName) prog_4_method_11_code (7 : Nat) (Option.none : Option Jvm.ClassFile.FieldType)) ∈ WSall := ws_in (tb2 (List.mem_of_getElem? (i := 152) rfl)) (by decide +kernel)
theorem w_2_153 : (Jvm.Cond.methodLink "GuaranteeBook$Reservation" (52 : Nat) ({ cls := "GuaranteeBook$Guarantee", name := "changePart", desc := "(JJ)V" } : Jvm.MethodName)) ∈ WSall := ws_in (tb2 (List.mem_of_getElem? (i := 153) rfl)) (by decide +kernel)
theorem w_2_154 : (Jvm.Cond.instanceMethod ({ cls := "GuaranteeBook$Guarantee", name := "changePart", desc := "(JJ)V" } : Jvm.MethodName)) ∈ WSall := ws_in (tb2 (List.mem_of_getElem? (i := 154) rfl)) (by decide +kernel)
theorem w_2_155 : (Jvm.Cond.selects "GuaranteeBook$Guarantee" ({ cls := "GuaranteeBook$Guarantee", name := "changePart", desc := "(JJ)V" } : Jvm.MethodName) ({ cls := "GuaranteeBook$Guarantee", name := "changePart", desc := "(JJ)V" } : Jvm.MethodName)) ∈ WSall := ws_in (tb2 (List.mem_of_getElem? (i := 155) rfl)) (by decide +kernel)
theorem w_2_156 : (Jvm.Cond.code ({ cls := "GuaranteeBook$Guarantee", name := "changePart", desc := "(JJ)V" } : Jvm.MethodName) prog_2_method_5_code (5 : Nat) (Option.none : Option Jvm.ClassFile.FieldType)) ∈ WSall := ws_in (tb2 (List.mem_of_getElem? (i := 156) rfl)) (by decide +kernel)
theorem w_2_157 : (Jvm.Cond.methodLink "GuaranteeBook$Guarantee" (57 : Nat) ({ cls := "GuaranteeBook$Share", name := "neededFor", desc := "(J)J" } : Jvm.MethodName)) ∈ WSall := ws_in (tb2 (List.mem_of_getElem? (i := 157) rfl)) (by decide +kernel)
theorem w_2_158 : (Jvm.Cond.instanceMethod ({ cls := "GuaranteeBook$Share", name := "neededFor", desc := "(J)J" } : Jvm.MethodName)) ∈ WSall := ws_in (tb2 (List.mem_of_getElem? (i := 158) rfl)) (by decide +kernel)
theorem w_2_159 : (Jvm.Cond.selects "GuaranteeBook$Share" ({ cls := "GuaranteeBook$Share", name := "neededFor", desc := "(J)J" } : Jvm.MethodName) ({ cls := "GuaranteeBook$Share", name := "neededFor", desc := "(J)J" } : Jvm.MethodName)) ∈ WSall := ws_in (tb2 (List.mem_of_getElem? (i := 159) rfl)) (by decide +kernel)
theorem w_2_160 : (Jvm.Cond.code ({ cls := "GuaranteeBook$Share", name := "neededFor", desc := "(J)J" } : Jvm.MethodName) prog_5_method_2_code (3 : Nat) (Option.some Jvm.ClassFile.FieldType.long)) ∈ WSall := ws_in (tb2 (List.mem_of_getElem? (i := 160) rfl)) (by decide +kernel)
theorem w_2_168 : (Jvm.Cond.methodLink "GuaranteeBook" (117 : Nat) ({ cls := "GuaranteeBook", name := "reservationNumbered", desc := "(I)LGuaranteeBook$Reservation;" } : Jvm.MethodName)) ∈ WSall := ws_in (tb2 (List.mem_of_getElem? (i := 168) rfl)) (by decide +kernel)
theorem w_2_170 : (Jvm.Cond.instanceMethod ({ cls := "GuaranteeBook", name := "reservationNumbered", desc := "(I)LGuaranteeBook$Reservation;" } : Jvm.MethodName)) ∈ WSall := ws_in (tb2 (List.mem_of_getElem? (i := 170) rfl)) (by decide +kernel)
theorem w_2_171 : (Jvm.Cond.code ({ cls := "GuaranteeBook", name := "reservationNumbered", desc := "(I)LGuaranteeBook$Reservation;" } : Jvm.MethodName) prog_1_method_22_code (2 : Nat) (Option.some (Jvm.ClassFile.FieldType.object "GuaranteeBook$Reservation"))) ∈ WSall := ws_in (tb2 (List.mem_of_getElem? (i := 171) rfl)) (by decide +kernel)
theorem w_2_173 : (Jvm.Cond.methodLink "GuaranteeBook" (126 : Nat) ({ cls := "GuaranteeBook$Reservation", name := "dropParts", desc := "()V" } : Jvm.MethodName)) ∈ WSall := ws_in (tb2 (List.mem_of_getElem? (i := 173) rfl)) (by decide +kernel)
theorem w_2_174 : (Jvm.Cond.instanceMethod ({ cls := "GuaranteeBook$Reservation", name := "dropParts", desc := "()V" } : Jvm.MethodName)) ∈ WSall := ws_in (tb2 (List.mem_of_getElem? (i := 174) rfl)) (by decide +kernel)
theorem w_2_175 : (Jvm.Cond.selects "GuaranteeBook$Reservation" ({ cls := "GuaranteeBook$Reservation", name := "dropParts", desc := "()V" } : Jvm.MethodName) ({ cls := "GuaranteeBook$Reservation", name := "dropParts", desc := "()V" } : Jvm.MethodName)) ∈ WSall := ws_in (tb2 (List.mem_of_getElem? (i := 175) rfl)) (by decide +kernel)
theorem w_2_176 : (Jvm.Cond.code ({ cls := "GuaranteeBook$Reservation", name := "dropParts", desc := "()V" } : Jvm.MethodName) prog_4_method_8_code (2 : Nat) (Option.none : Option Jvm.ClassFile.FieldType)) ∈ WSall := ws_in (tb2 (List.mem_of_getElem? (i := 176) rfl)) (by decide +kernel)
theorem w_2_177 : (Jvm.Cond.methodLink "GuaranteeBook" (129 : Nat) ({ cls := "GuaranteeBook", name := "finish", desc := "(LGuaranteeBook$Reservation;I)V" } : Jvm.MethodName)) ∈ WSall := ws_in (tb2 (List.mem_of_getElem? (i := 177) rfl)) (by decide +kernel)
theorem w_2_179 : (Jvm.Cond.instanceMethod ({ cls := "GuaranteeBook", name := "finish", desc := "(LGuaranteeBook$Reservation;I)V" } : Jvm.MethodName)) ∈ WSall := ws_in (tb2 (List.mem_of_getElem? (i := 179) rfl)) (by decide +kernel)
theorem w_2_180 : (Jvm.Cond.code ({ cls := "GuaranteeBook", name := "finish", desc := "(LGuaranteeBook$Reservation;I)V" } : Jvm.MethodName) prog_1_method_28_code (3 : Nat) (Option.none : Option Jvm.ClassFile.FieldType)) ∈ WSall := ws_in (tb2 (List.mem_of_getElem? (i := 180) rfl)) (by decide +kernel)
theorem w_2_189 : (Jvm.Cond.methodLink "GuaranteeBook" (135 : Nat) ({ cls := "GuaranteeBook$Reservation", name := "covered", desc := "()J" } : Jvm.MethodName)) ∈ WSall := ws_in (tb2 (List.mem_of_getElem? (i := 189) rfl)) (by decide +kernel)
theorem w_2_190 : (Jvm.Cond.instanceMethod ({ cls := "GuaranteeBook$Reservation", name := "covered", desc := "()J" } : Jvm.MethodName)) ∈ WSall := ws_in (tb2 (List.mem_of_getElem? (i := 190) rfl)) (by decide +kernel)
theorem w_2_191 : (Jvm.Cond.selects "GuaranteeBook$Reservation" ({ cls := "GuaranteeBook$Reservation", name := "covered", desc := "()J" } : Jvm.MethodName) ({ cls := "GuaranteeBook$Reservation", name := "covered", desc := "()J" } : Jvm.MethodName)) ∈ WSall := ws_in (tb2 (List.mem_of_getElem? (i := 191) rfl)) (by decide +kernel)
theorem w_2_192 : (Jvm.Cond.code ({ cls := "GuaranteeBook$Reservation", name := "covered", desc := "()J" } : Jvm.MethodName) prog_4_method_6_code (4 : Nat) (Option.some Jvm.ClassFile.FieldType.long)) ∈ WSall := ws_in (tb2 (List.mem_of_getElem? (i := 192) rfl)) (by decide +kernel)
theorem w_2_193 : (Jvm.Cond.methodLink "GuaranteeBook" (141 : Nat) ({ cls := "GuaranteeBook$Reservation", name := "shrinkBy", desc := "(J)V" } : Jvm.MethodName)) ∈ WSall := ws_in (tb2 (List.mem_of_getElem? (i := 193) rfl)) (by decide +kernel)
theorem w_2_194 : (Jvm.Cond.instanceMethod ({ cls := "GuaranteeBook$Reservation", name := "shrinkBy", desc := "(J)V" } : Jvm.MethodName)) ∈ WSall := ws_in (tb2 (List.mem_of_getElem? (i := 194) rfl)) (by decide +kernel)
theorem w_2_195 : (Jvm.Cond.selects "GuaranteeBook$Reservation" ({ cls := "GuaranteeBook$Reservation", name := "shrinkBy", desc := "(J)V" } : Jvm.MethodName) ({ cls := "GuaranteeBook$Reservation", name := "shrinkBy", desc := "(J)V" } : Jvm.MethodName)) ∈ WSall := ws_in (tb2 (List.mem_of_getElem? (i := 195) rfl)) (by decide +kernel)
theorem w_2_196 : (Jvm.Cond.code ({ cls := "GuaranteeBook$Reservation", name := "shrinkBy", desc := "(J)V" } : Jvm.MethodName) prog_4_method_9_code (8 : Nat) (Option.none : Option Jvm.ClassFile.FieldType)) ∈ WSall := ws_in (tb2 (List.mem_of_getElem? (i := 196) rfl)) (by decide +kernel)
theorem w_2_197 : (Jvm.Cond.methodLink "GuaranteeBook$Reservation" (42 : Nat) ({ cls := "java/lang/Math", name := "min", desc := "(JJ)J" } : Jvm.MethodName)) ∈ WSall := ws_in (tb2 (List.mem_of_getElem? (i := 197) rfl)) (by decide +kernel)
theorem w_2_205 : (Jvm.Cond.methodLink "GuaranteeBook" (145 : Nat) ({ cls := "GuaranteeBook$Reservation", name := "takeFromAmounts", desc := "(JI)J" } : Jvm.MethodName)) ∈ WSall := ws_in (tb2 (List.mem_of_getElem? (i := 205) rfl)) (by decide +kernel)
theorem w_2_206 : (Jvm.Cond.instanceMethod ({ cls := "GuaranteeBook$Reservation", name := "takeFromAmounts", desc := "(JI)J" } : Jvm.MethodName)) ∈ WSall := ws_in (tb2 (List.mem_of_getElem? (i := 206) rfl)) (by decide +kernel)
theorem w_2_207 : (Jvm.Cond.selects "GuaranteeBook$Reservation" ({ cls := "GuaranteeBook$Reservation", name := "takeFromAmounts", desc := "(JI)J" } : Jvm.MethodName) ({ cls := "GuaranteeBook$Reservation", name := "takeFromAmounts", desc := "(JI)J" } : Jvm.MethodName)) ∈ WSall := ws_in (tb2 (List.mem_of_getElem? (i := 207) rfl)) (by decide +kernel)
theorem w_2_208 : (Jvm.Cond.code ({ cls := "GuaranteeBook$Reservation", name := "takeFromAmounts", desc := "(JI)J" } : Jvm.MethodName) prog_4_method_10_code (12 : Nat) (Option.some Jvm.ClassFile.FieldType.long)) ∈ WSall := ws_in (tb2 (List.mem_of_getElem? (i := 208) rfl)) (by decide +kernel)
theorem w_2_209 : (Jvm.Cond.methodLink "GuaranteeBook$Reservation" (48 : Nat) ({ cls := "GuaranteeBook$Guarantee", name := "loseUpTo", desc := "(JI)J" } : Jvm.MethodName)) ∈ WSall := ws_in (tb2 (List.mem_of_getElem? (i := 209) rfl)) (by decide +kernel)
theorem w_2_210 : (Jvm.Cond.instanceMethod ({ cls := "GuaranteeBook$Guarantee", name := "loseUpTo", desc := "(JI)J" } : Jvm.MethodName)) ∈ WSall := ws_in (tb2 (List.mem_of_getElem? (i := 210) rfl)) (by decide +kernel)
theorem w_2_211 : (Jvm.Cond.selects "GuaranteeBook$Guarantee" ({ cls := "GuaranteeBook$Guarantee", name := "loseUpTo", desc := "(JI)J" } : Jvm.MethodName) ({ cls := "GuaranteeBook$Guarantee", name := "loseUpTo", desc := "(JI)J" } : Jvm.MethodName)) ∈ WSall := ws_in (tb2 (List.mem_of_getElem? (i := 211) rfl)) (by decide +kernel)
theorem w_2_212 : (Jvm.Cond.code ({ cls := "GuaranteeBook$Guarantee", name := "loseUpTo", desc := "(JI)J" } : Jvm.MethodName) prog_2_method_6_code (6 : Nat) (Option.some Jvm.ClassFile.FieldType.long)) ∈ WSall := ws_in (tb2 (List.mem_of_getElem? (i := 212) rfl)) (by decide +kernel)
theorem w_2_213 : (Jvm.Cond.methodLink "GuaranteeBook$Guarantee" (60 : Nat) ({ cls := "java/lang/Math", name := "min", desc := "(JJ)J" } : Jvm.MethodName)) ∈ WSall := ws_in (tb2 (List.mem_of_getElem? (i := 213) rfl)) (by decide +kernel)
theorem w_2_214 : (Jvm.Cond.methodLink "GuaranteeBook$Guarantee" (63 : Nat) ({ cls := "GuaranteeBook$Interest", name := "endRow", desc := "(IJ)V" } : Jvm.MethodName)) ∈ WSall := ws_in (tb2 (List.mem_of_getElem? (i := 214) rfl)) (by decide +kernel)
theorem w_2_223 : (Jvm.Cond.methodLink "GuaranteeBook" (168 : Nat) ({ cls := "GuaranteeBook$Interest", name := "upTo", desc := "(IJ)J" } : Jvm.MethodName)) ∈ WSall := ws_in (tb2 (List.mem_of_getElem? (i := 223) rfl)) (by decide +kernel)
theorem w_2_232 : (Jvm.Cond.classLink "GuaranteeBook" (179 : Nat) "java/lang/IndexOutOfBoundsException") ∈ WSall := ws_in (tb2 (List.mem_of_getElem? (i := 232) rfl)) (by decide +kernel)
theorem w_3_7 : (Jvm.Cond.methodLink "GuaranteeBook" (185 : Nat) ({ cls := "GuaranteeBook$Guarantee", name := "unneeded", desc := "()J" } : Jvm.MethodName)) ∈ WSall := ws_in (tb3 (List.mem_of_getElem? (i := 7) rfl)) (by decide +kernel)
theorem w_3_8 : (Jvm.Cond.methodLink "GuaranteeBook" (194 : Nat) ({ cls := "GuaranteeBook$Guarantee", name := "risk", desc := "()J" } : Jvm.MethodName)) ∈ WSall := ws_in (tb3 (List.mem_of_getElem? (i := 8) rfl)) (by decide +kernel)
theorem w_3_9 : (Jvm.Cond.instanceMethod ({ cls := "GuaranteeBook$Guarantee", name := "risk", desc := "()J" } : Jvm.MethodName)) ∈ WSall := ws_in (tb3 (List.mem_of_getElem? (i := 9) rfl)) (by decide +kernel)
theorem w_3_10 : (Jvm.Cond.selects "GuaranteeBook$Guarantee" ({ cls := "GuaranteeBook$Guarantee", name := "risk", desc := "()J" } : Jvm.MethodName) ({ cls := "GuaranteeBook$Guarantee", name := "risk", desc := "()J" } : Jvm.MethodName)) ∈ WSall := ws_in (tb3 (List.mem_of_getElem? (i := 10) rfl)) (by decide +kernel)
theorem w_3_11 : (Jvm.Cond.code ({ cls := "GuaranteeBook$Guarantee", name := "risk", desc := "()J" } : Jvm.MethodName) prog_2_method_3_code (1 : Nat) (Option.some Jvm.ClassFile.FieldType.long)) ∈ WSall := ws_in (tb3 (List.mem_of_getElem? (i := 11) rfl)) (by decide +kernel)
theorem w_3_21 : (Jvm.Cond.methodLink "GuaranteeBook" (204 : Nat) ({ cls := "GuaranteeBook$Reservation", name := "hasPart", desc := "(I)Z" } : Jvm.MethodName)) ∈ WSall := ws_in (tb3 (List.mem_of_getElem? (i := 21) rfl)) (by decide +kernel)
theorem w_3_22 : (Jvm.Cond.instanceMethod ({ cls := "GuaranteeBook$Reservation", name := "hasPart", desc := "(I)Z" } : Jvm.MethodName)) ∈ WSall := ws_in (tb3 (List.mem_of_getElem? (i := 22) rfl)) (by decide +kernel)
theorem w_3_23 : (Jvm.Cond.selects "GuaranteeBook$Reservation" ({ cls := "GuaranteeBook$Reservation", name := "hasPart", desc := "(I)Z" } : Jvm.MethodName) ({ cls := "GuaranteeBook$Reservation", name := "hasPart", desc := "(I)Z" } : Jvm.MethodName)) ∈ WSall := ws_in (tb3 (List.mem_of_getElem? (i := 23) rfl)) (by decide +kernel)
theorem w_3_24 : (Jvm.Cond.code ({ cls := "GuaranteeBook$Reservation", name := "hasPart", desc := "(I)Z" } : Jvm.MethodName) prog_4_method_4_code (2 : Nat) (Option.some Jvm.ClassFile.FieldType.boolean)) ∈ WSall := ws_in (tb3 (List.mem_of_getElem? (i := 24) rfl)) (by decide +kernel)
theorem w_3_25 : (Jvm.Cond.methodLink "GuaranteeBook" (207 : Nat) ({ cls := "GuaranteeBook$Reservation", name := "numberOfPart", desc := "(I)I" } : Jvm.MethodName)) ∈ WSall := ws_in (tb3 (List.mem_of_getElem? (i := 25) rfl)) (by decide +kernel)
theorem w_3_26 : (Jvm.Cond.instanceMethod ({ cls := "GuaranteeBook$Reservation", name := "numberOfPart", desc := "(I)I" } : Jvm.MethodName)) ∈ WSall := ws_in (tb3 (List.mem_of_getElem? (i := 26) rfl)) (by decide +kernel)
theorem w_3_27 : (Jvm.Cond.selects "GuaranteeBook$Reservation" ({ cls := "GuaranteeBook$Reservation", name := "numberOfPart", desc := "(I)I" } : Jvm.MethodName) ({ cls := "GuaranteeBook$Reservation", name := "numberOfPart", desc := "(I)I" } : Jvm.MethodName)) ∈ WSall := ws_in (tb3 (List.mem_of_getElem? (i := 27) rfl)) (by decide +kernel)
theorem w_3_28 : (Jvm.Cond.code ({ cls := "GuaranteeBook$Reservation", name := "numberOfPart", desc := "(I)I" } : Jvm.MethodName) prog_4_method_5_code (3 : Nat) (Option.some Jvm.ClassFile.FieldType.int)) ∈ WSall := ws_in (tb3 (List.mem_of_getElem? (i := 28) rfl)) (by decide +kernel)
theorem wp_0 : Cond.selects "GuaranteeBook" ⟨"GuaranteeBook", "guaranteeNumbered", "(I)LGuaranteeBook$Guarantee;"⟩ ⟨"GuaranteeBook", "guaranteeNumbered", "(I)LGuaranteeBook$Guarantee;"⟩ ∈ WSall := ws_in (List.mem_append_left _ (by decide +kernel)) (by decide +kernel)
theorem wp_2 : Cond.selects "GuaranteeBook" ⟨"GuaranteeBook", "mayCoverTogether", "(I)J"⟩ ⟨"GuaranteeBook", "mayCoverTogether", "(I)J"⟩ ∈ WSall := ws_in (List.mem_append_left _ (by decide +kernel)) (by decide +kernel)
theorem wp_7 : Cond.selects "GuaranteeBook$Reservation" ⟨"GuaranteeBook$Reservation", "tellGuarantee", "(IJJ)V"⟩ ⟨"GuaranteeBook$Reservation", "tellGuarantee", "(IJJ)V"⟩ ∈ WSall := ws_in (List.mem_append_left _ (by decide +kernel)) (by decide +kernel)
theorem wp_8 : Cond.selects "GuaranteeBook" ⟨"GuaranteeBook", "reservationNumbered", "(I)LGuaranteeBook$Reservation;"⟩ ⟨"GuaranteeBook", "reservationNumbered", "(I)LGuaranteeBook$Reservation;"⟩ ∈ WSall := ws_in (List.mem_append_left _ (by decide +kernel)) (by decide +kernel)
theorem wp_9 : Cond.selects "GuaranteeBook" ⟨"GuaranteeBook", "finish", "(LGuaranteeBook$Reservation;I)V"⟩ ⟨"GuaranteeBook", "finish", "(LGuaranteeBook$Reservation;I)V"⟩ ∈ WSall := ws_in (List.mem_append_left _ (by decide +kernel)) (by decide +kernel)
theorem inX0 : ∀ w ∈ u_ws RX0 TX0 10, w ∈ WSall := (List.forall_mem_cons.mpr ⟨w_1_69, (List.forall_mem_cons.mpr ⟨w_1_71, (List.forall_mem_cons.mpr ⟨w_1_73, (List.forall_mem_cons.mpr ⟨w_1_75, (List.forall_mem_cons.mpr ⟨w_1_77, (List.forall_mem_cons.mpr ⟨w_1_79, (List.forall_mem_cons.mpr ⟨w_1_81, (List.forall_mem_cons.mpr ⟨w_1_83, (List.forall_mem_cons.mpr ⟨w_1_85, (List.forall_mem_cons.mpr ⟨w_1_87, (fun _ h => absurd h List.not_mem_nil)⟩)⟩)⟩)⟩)⟩)⟩)⟩)⟩)⟩)⟩)
theorem inX1 : ∀ w ∈ u_ws RX1 TX1 11, w ∈ WSall := (List.forall_mem_cons.mpr ⟨w_2_92, (List.forall_mem_cons.mpr ⟨w_2_94, (List.forall_mem_cons.mpr ⟨w_2_96, (List.forall_mem_cons.mpr ⟨w_2_98, (List.forall_mem_cons.mpr ⟨w_2_100, (List.forall_mem_cons.mpr ⟨w_2_102, (List.forall_mem_cons.mpr ⟨w_2_104, (List.forall_mem_cons.mpr ⟨w_2_106, (List.forall_mem_cons.mpr ⟨w_2_108, (List.forall_mem_cons.mpr ⟨w_2_110, (List.forall_mem_cons.mpr ⟨w_2_112, (fun _ h => absurd h List.not_mem_nil)⟩)⟩)⟩)⟩)⟩)⟩)⟩)⟩)⟩)⟩)⟩)
theorem inX2 : ∀ w ∈ u_ws RX2 TX2 2, w ∈ WSall := (List.forall_mem_cons.mpr ⟨w_2_44, (List.forall_mem_cons.mpr ⟨w_2_46, (fun _ h => absurd h List.not_mem_nil)⟩)⟩)
theorem inX3 : ∀ w ∈ u_ws RX3 TX3 4, w ∈ WSall := (List.forall_mem_cons.mpr ⟨w_2_59, (List.forall_mem_cons.mpr ⟨w_2_61, (List.forall_mem_cons.mpr ⟨w_2_63, (List.forall_mem_cons.mpr ⟨w_2_65, (fun _ h => absurd h List.not_mem_nil)⟩)⟩)⟩)⟩)
theorem inX4 : ∀ w ∈ u_ws RX4 TX4 6, w ∈ WSall := (List.forall_mem_cons.mpr ⟨w_1_43, (List.forall_mem_cons.mpr ⟨w_1_45, (List.forall_mem_cons.mpr ⟨w_1_47, (List.forall_mem_cons.mpr ⟨w_1_49, (List.forall_mem_cons.mpr ⟨w_1_51, (List.forall_mem_cons.mpr ⟨w_1_53, (fun _ h => absurd h List.not_mem_nil)⟩)⟩)⟩)⟩)⟩)⟩)
theorem inX5 : ∀ w ∈ u_ws RX5 TX5 24, w ∈ WSall := (List.forall_mem_cons.mpr ⟨w_3_60, (List.forall_mem_cons.mpr ⟨w_3_62, (List.forall_mem_cons.mpr ⟨w_3_64, (List.forall_mem_cons.mpr ⟨w_3_66, (List.forall_mem_cons.mpr ⟨w_3_68, (List.forall_mem_cons.mpr ⟨w_3_70, (List.forall_mem_cons.mpr ⟨w_3_72, (List.forall_mem_cons.mpr ⟨w_3_74, (List.forall_mem_cons.mpr ⟨w_3_76, (List.forall_mem_cons.mpr ⟨w_3_78, (List.forall_mem_cons.mpr ⟨w_3_80, (List.forall_mem_cons.mpr ⟨w_3_82, (List.forall_mem_cons.mpr ⟨w_3_84, (List.forall_mem_cons.mpr ⟨w_3_86, (List.forall_mem_cons.mpr ⟨w_3_88, (List.forall_mem_cons.mpr ⟨w_3_90, (List.forall_mem_cons.mpr ⟨w_3_92, (List.forall_mem_cons.mpr ⟨w_3_94, (List.forall_mem_cons.mpr ⟨w_3_96, (List.forall_mem_cons.mpr ⟨w_3_98, (List.forall_mem_cons.mpr ⟨w_3_100, (List.forall_mem_cons.mpr ⟨w_3_102, (List.forall_mem_cons.mpr ⟨w_3_104, (List.forall_mem_cons.mpr ⟨w_3_106, (fun _ h => absurd h List.not_mem_nil)⟩)⟩)⟩)⟩)⟩)⟩)⟩)⟩)⟩)⟩)⟩)⟩)⟩)⟩)⟩)⟩)⟩)⟩)⟩)⟩)⟩)⟩)⟩)⟩)
theorem wm_max_long : Cond.code Lib.MathLoose.max_long.x Lib.MathLoose.max_long.code 4 (some .long) ∈ WSall := ws_in (tb1 (List.mem_of_getElem? (i := 156) (by decide +kernel))) (by decide +kernel)
theorem wm_min_long : Cond.code Lib.MathLoose.min_long.x Lib.MathLoose.min_long.code 4 (some .long) ∈ WSall := ws_in (tb1 (List.mem_of_getElem? (i := 165) (by decide +kernel))) (by decide +kernel)
end
section
theorem dX1_init_0 : decode cX1_init 0 = .ok (.aload_n 0, 1) := by decide +kernel
theorem dX1_init_1 : decode cX1_init 1 = .ok (.invokespecial 1, 3) := by decide +kernel
theorem dX1_init_4 : decode cX1_init 4 = .ok (.aload_n 0, 1) := by decide +kernel
theorem dX1_init_5 : decode cX1_init 5 = .ok (.iload_n 1, 1) := by decide +kernel
theorem dX1_init_6 : decode cX1_init 6 = .ok (.putfield 7, 3) := by decide +kernel
theorem dX1_init_9 : decode cX1_init 9 = .ok (.aload_n 0, 1) := by decide +kernel
theorem dX1_init_10 : decode cX1_init 10 = .ok (.iload_n 2, 1) := by decide +kernel
theorem dX1_init_11 : decode cX1_init 11 = .ok (.putfield 13, 3) := by decide +kernel
theorem dX1_init_14 : decode cX1_init 14 = .ok (.aload_n 0, 1) := by decide +kernel
theorem dX1_init_15 : decode cX1_init 15 = .ok (.lload_n 3, 1) := by decide +kernel
theorem dX1_init_16 : decode cX1_init 16 = .ok (.putfield 16, 3) := by decide +kernel
theorem dX1_init_19 : decode cX1_init 19 = .ok (.aload_n 0, 1) := by decide +kernel
theorem dX1_init_20 : decode cX1_init 20 = .ok (.aload 5, 2) := by decide +kernel
theorem dX1_init_22 : decode cX1_init 22 = .ok (.putfield 20, 3) := by decide +kernel
theorem dX1_init_25 : decode cX1_init 25 = .ok (.aload_n 0, 1) := by decide +kernel
theorem dX1_init_26 : decode cX1_init 26 = .ok (.iload 6, 2) := by decide +kernel
theorem dX1_init_28 : decode cX1_init 28 = .ok (.putfield 24, 3) := by decide +kernel
theorem dX1_init_31 : decode cX1_init 31 = .ok (.aload_n 0, 1) := by decide +kernel
theorem dX1_init_32 : decode cX1_init 32 = .ok (.aload 7, 2) := by decide +kernel
theorem dX1_init_34 : decode cX1_init 34 = .ok (.putfield 28, 3) := by decide +kernel
theorem dX1_init_37 : decode cX1_init 37 = .ok (.return_, 1) := by decide +kernel
theorem dX1_unneeded_0 : decode cX1_unneeded 0 = .ok (.lconst 0, 1) := by decide +kernel
theorem dX1_unneeded_1 : decode cX1_unneeded 1 = .ok (.aload_n 0, 1) := by decide +kernel
theorem dX1_unneeded_2 : decode cX1_unneeded 2 = .ok (.getfield 16, 3) := by decide +kernel
theorem dX1_unneeded_5 : decode cX1_unneeded 5 = .ok (.aload_n 0, 1) := by decide +kernel
theorem dX1_unneeded_6 : decode cX1_unneeded 6 = .ok (.getfield 32, 3) := by decide +kernel
theorem dX1_unneeded_9 : decode cX1_unneeded 9 = .ok (.lsub, 1) := by decide +kernel
theorem dX1_unneeded_10 : decode cX1_unneeded 10 = .ok (.invokestatic 35, 3) := by decide +kernel
theorem dX1_unneeded_13 : decode cX1_unneeded 13 = .ok (.lreturn, 1) := by decide +kernel
theorem dX1_risk_0 : decode cX1_risk 0 = .ok (.lconst 0, 1) := by decide +kernel
theorem dX1_risk_1 : decode cX1_risk 1 = .ok (.aload_n 0, 1) := by decide +kernel
theorem dX1_risk_2 : decode cX1_risk 2 = .ok (.getfield 32, 3) := by decide +kernel
theorem dX1_risk_5 : decode cX1_risk 5 = .ok (.aload_n 0, 1) := by decide +kernel
theorem dX1_risk_6 : decode cX1_risk 6 = .ok (.getfield 16, 3) := by decide +kernel
theorem dX1_risk_9 : decode cX1_risk 9 = .ok (.lsub, 1) := by decide +kernel
theorem dX1_risk_10 : decode cX1_risk 10 = .ok (.invokestatic 35, 3) := by decide +kernel
theorem dX1_risk_13 : decode cX1_risk 13 = .ok (.lreturn, 1) := by decide +kernel
theorem dX1_mayCover_0 : decode cX1_mayCover 0 = .ok (.aload_n 0, 1) := by decide +kernel
theorem dX1_mayCover_1 : decode cX1_mayCover 1 = .ok (.getfield 41, 3) := by decide +kernel
theorem dX1_mayCover_4 : decode cX1_mayCover 4 = .ok (.ifCond .ne 17, 3) := by decide +kernel
theorem dX1_mayCover_7 : decode cX1_mayCover 7 = .ok (.aload_n 0, 1) := by decide +kernel
theorem dX1_mayCover_8 : decode cX1_mayCover 8 = .ok (.getfield 24, 3) := by decide +kernel
theorem dX1_mayCover_11 : decode cX1_mayCover 11 = .ok (.ifCond .eq 14, 3) := by decide +kernel
theorem dX1_mayCover_14 : decode cX1_mayCover 14 = .ok (.aload_n 0, 1) := by decide +kernel
theorem dX1_mayCover_15 : decode cX1_mayCover 15 = .ok (.getfield 44, 3) := by decide +kernel
theorem dX1_mayCover_18 : decode cX1_mayCover 18 = .ok (.ifCond .le 7, 3) := by decide +kernel
theorem dX1_mayCover_21 : decode cX1_mayCover 21 = .ok (.lconst 0, 1) := by decide +kernel
theorem dX1_mayCover_22 : decode cX1_mayCover 22 = .ok (.goto 14, 3) := by decide +kernel
theorem dX1_mayCover_25 : decode cX1_mayCover 25 = .ok (.aload_n 0, 1) := by decide +kernel
theorem dX1_mayCover_26 : decode cX1_mayCover 26 = .ok (.getfield 20, 3) := by decide +kernel
theorem dX1_mayCover_29 : decode cX1_mayCover 29 = .ok (.aload_n 0, 1) := by decide +kernel
theorem dX1_mayCover_30 : decode cX1_mayCover 30 = .ok (.invokevirtual 47, 3) := by decide +kernel
theorem dX1_mayCover_33 : decode cX1_mayCover 33 = .ok (.invokevirtual 51, 3) := by decide +kernel
theorem dX1_mayCover_36 : decode cX1_mayCover 36 = .ok (.lreturn, 1) := by decide +kernel
theorem dX1_changePart_0 : decode cX1_changePart 0 = .ok (.aload_n 0, 1) := by decide +kernel
theorem dX1_changePart_1 : decode cX1_changePart 1 = .ok (.dup, 1) := by decide +kernel
theorem dX1_changePart_2 : decode cX1_changePart 2 = .ok (.getfield 32, 3) := by decide +kernel
theorem dX1_changePart_5 : decode cX1_changePart 5 = .ok (.aload_n 0, 1) := by decide +kernel
theorem dX1_changePart_6 : decode cX1_changePart 6 = .ok (.getfield 20, 3) := by decide +kernel
theorem dX1_changePart_9 : decode cX1_changePart 9 = .ok (.lload_n 3, 1) := by decide +kernel
theorem dX1_changePart_10 : decode cX1_changePart 10 = .ok (.invokevirtual 57, 3) := by decide +kernel
theorem dX1_changePart_13 : decode cX1_changePart 13 = .ok (.aload_n 0, 1) := by decide +kernel
theorem dX1_changePart_14 : decode cX1_changePart 14 = .ok (.getfield 20, 3) := by decide +kernel
theorem dX1_changePart_17 : decode cX1_changePart 17 = .ok (.lload_n 1, 1) := by decide +kernel
theorem dX1_changePart_18 : decode cX1_changePart 18 = .ok (.invokevirtual 57, 3) := by decide +kernel
theorem dX1_changePart_21 : decode cX1_changePart 21 = .ok (.lsub, 1) := by decide +kernel
theorem dX1_changePart_22 : decode cX1_changePart 22 = .ok (.ladd, 1) := by decide +kernel
theorem dX1_changePart_23 : decode cX1_changePart 23 = .ok (.putfield 32, 3) := by decide +kernel
theorem dX1_changePart_26 : decode cX1_changePart 26 = .ok (.lload_n 1, 1) := by decide +kernel
theorem dX1_changePart_27 : decode cX1_changePart 27 = .ok (.lconst 0, 1) := by decide +kernel
theorem dX1_changePart_28 : decode cX1_changePart 28 = .ok (.lcmp, 1) := by decide +kernel
theorem dX1_changePart_29 : decode cX1_changePart 29 = .ok (.ifCond .ne 13, 3) := by decide +kernel
theorem dX1_changePart_32 : decode cX1_changePart 32 = .ok (.aload_n 0, 1) := by decide +kernel
theorem dX1_changePart_33 : decode cX1_changePart 33 = .ok (.dup, 1) := by decide +kernel
theorem dX1_changePart_34 : decode cX1_changePart 34 = .ok (.getfield 44, 3) := by decide +kernel
theorem dX1_changePart_37 : decode cX1_changePart 37 = .ok (.iconst 1, 1) := by decide +kernel
theorem dX1_changePart_38 : decode cX1_changePart 38 = .ok (.iadd, 1) := by decide +kernel
theorem dX1_changePart_39 : decode cX1_changePart 39 = .ok (.putfield 44, 3) := by decide +kernel
theorem dX1_changePart_42 : decode cX1_changePart 42 = .ok (.lload_n 3, 1) := by decide +kernel
theorem dX1_changePart_43 : decode cX1_changePart 43 = .ok (.lconst 0, 1) := by decide +kernel
theorem dX1_changePart_44 : decode cX1_changePart 44 = .ok (.lcmp, 1) := by decide +kernel
theorem dX1_changePart_45 : decode cX1_changePart 45 = .ok (.ifCond .ne 13, 3) := by decide +kernel
theorem dX1_changePart_48 : decode cX1_changePart 48 = .ok (.aload_n 0, 1) := by decide +kernel
theorem dX1_changePart_49 : decode cX1_changePart 49 = .ok (.dup, 1) := by decide +kernel
theorem dX1_changePart_50 : decode cX1_changePart 50 = .ok (.getfield 44, 3) := by decide +kernel
theorem dX1_changePart_53 : decode cX1_changePart 53 = .ok (.iconst 1, 1) := by decide +kernel
theorem dX1_changePart_54 : decode cX1_changePart 54 = .ok (.isub, 1) := by decide +kernel
theorem dX1_changePart_55 : decode cX1_changePart 55 = .ok (.putfield 44, 3) := by decide +kernel
theorem dX1_changePart_58 : decode cX1_changePart 58 = .ok (.return_, 1) := by decide +kernel
theorem dX1_loseUpTo_0 : decode cX1_loseUpTo 0 = .ok (.aload_n 0, 1) := by decide +kernel
theorem dX1_loseUpTo_1 : decode cX1_loseUpTo 1 = .ok (.getfield 16, 3) := by decide +kernel
theorem dX1_loseUpTo_4 : decode cX1_loseUpTo 4 = .ok (.lload_n 1, 1) := by decide +kernel
theorem dX1_loseUpTo_5 : decode cX1_loseUpTo 5 = .ok (.invokestatic 60, 3) := by decide +kernel
theorem dX1_loseUpTo_8 : decode cX1_loseUpTo 8 = .ok (.lstore 4, 2) := by decide +kernel
theorem dX1_loseUpTo_10 : decode cX1_loseUpTo 10 = .ok (.lload 4, 2) := by decide +kernel
theorem dX1_loseUpTo_12 : decode cX1_loseUpTo 12 = .ok (.lconst 0, 1) := by decide +kernel
theorem dX1_loseUpTo_13 : decode cX1_loseUpTo 13 = .ok (.lcmp, 1) := by decide +kernel
theorem dX1_loseUpTo_14 : decode cX1_loseUpTo 14 = .ok (.ifCond .le 37, 3) := by decide +kernel
theorem dX1_loseUpTo_17 : decode cX1_loseUpTo 17 = .ok (.aload_n 0, 1) := by decide +kernel
theorem dX1_loseUpTo_18 : decode cX1_loseUpTo 18 = .ok (.getfield 28, 3) := by decide +kernel
theorem dX1_loseUpTo_21 : decode cX1_loseUpTo 21 = .ok (.iload_n 3, 1) := by decide +kernel
theorem dX1_loseUpTo_22 : decode cX1_loseUpTo 22 = .ok (.aload_n 0, 1) := by decide +kernel
theorem dX1_loseUpTo_23 : decode cX1_loseUpTo 23 = .ok (.getfield 16, 3) := by decide +kernel
theorem dX1_loseUpTo_26 : decode cX1_loseUpTo 26 = .ok (.invokevirtual 63, 3) := by decide +kernel
theorem dX1_loseUpTo_29 : decode cX1_loseUpTo 29 = .ok (.aload_n 0, 1) := by decide +kernel
theorem dX1_loseUpTo_30 : decode cX1_loseUpTo 30 = .ok (.dup, 1) := by decide +kernel
theorem dX1_loseUpTo_31 : decode cX1_loseUpTo 31 = .ok (.getfield 16, 3) := by decide +kernel
theorem dX1_loseUpTo_34 : decode cX1_loseUpTo 34 = .ok (.lload 4, 2) := by decide +kernel
theorem dX1_loseUpTo_36 : decode cX1_loseUpTo 36 = .ok (.lsub, 1) := by decide +kernel
theorem dX1_loseUpTo_37 : decode cX1_loseUpTo 37 = .ok (.putfield 16, 3) := by decide +kernel
theorem dX1_loseUpTo_40 : decode cX1_loseUpTo 40 = .ok (.aload_n 0, 1) := by decide +kernel
theorem dX1_loseUpTo_41 : decode cX1_loseUpTo 41 = .ok (.dup, 1) := by decide +kernel
theorem dX1_loseUpTo_42 : decode cX1_loseUpTo 42 = .ok (.getfield 69, 3) := by decide +kernel
theorem dX1_loseUpTo_45 : decode cX1_loseUpTo 45 = .ok (.lload 4, 2) := by decide +kernel
theorem dX1_loseUpTo_47 : decode cX1_loseUpTo 47 = .ok (.ladd, 1) := by decide +kernel
theorem dX1_loseUpTo_48 : decode cX1_loseUpTo 48 = .ok (.putfield 69, 3) := by decide +kernel
theorem dX1_loseUpTo_51 : decode cX1_loseUpTo 51 = .ok (.lload 4, 2) := by decide +kernel
theorem dX1_loseUpTo_53 : decode cX1_loseUpTo 53 = .ok (.lreturn, 1) := by decide +kernel
theorem dX1_shut_0 : decode cX1_shut 0 = .ok (.aload_n 0, 1) := by decide +kernel
theorem dX1_shut_1 : decode cX1_shut 1 = .ok (.getfield 28, 3) := by decide +kernel
theorem dX1_shut_4 : decode cX1_shut 4 = .ok (.iload_n 1, 1) := by decide +kernel
theorem dX1_shut_5 : decode cX1_shut 5 = .ok (.aload_n 0, 1) := by decide +kernel
theorem dX1_shut_6 : decode cX1_shut 6 = .ok (.getfield 16, 3) := by decide +kernel
theorem dX1_shut_9 : decode cX1_shut 9 = .ok (.invokevirtual 72, 3) := by decide +kernel
theorem dX1_shut_12 : decode cX1_shut 12 = .ok (.aload_n 0, 1) := by decide +kernel
theorem dX1_shut_13 : decode cX1_shut 13 = .ok (.iconst 1, 1) := by decide +kernel
theorem dX1_shut_14 : decode cX1_shut 14 = .ok (.putfield 41, 3) := by decide +kernel
theorem dX1_shut_17 : decode cX1_shut 17 = .ok (.return_, 1) := by decide +kernel
theorem dX2_init_0 : decode cX2_init 0 = .ok (.aload_n 0, 1) := by decide +kernel
theorem dX2_init_1 : decode cX2_init 1 = .ok (.invokespecial 3, 3) := by decide +kernel
theorem dX2_init_4 : decode cX2_init 4 = .ok (.aload_n 0, 1) := by decide +kernel
theorem dX2_init_5 : decode cX2_init 5 = .ok (.iload_n 1, 1) := by decide +kernel
theorem dX2_init_6 : decode cX2_init 6 = .ok (.putfield 9, 3) := by decide +kernel
theorem dX2_init_9 : decode cX2_init 9 = .ok (.aload_n 0, 1) := by decide +kernel
theorem dX2_init_10 : decode cX2_init 10 = .ok (.iload_n 2, 1) := by decide +kernel
theorem dX2_init_11 : decode cX2_init 11 = .ok (.putfield 15, 3) := by decide +kernel
theorem dX2_init_14 : decode cX2_init 14 = .ok (.return_, 1) := by decide +kernel
theorem dX2_neededFor_0 : decode cX2_neededFor 0 = .ok (.aload_n 0, 1) := by decide +kernel
theorem dX2_neededFor_1 : decode cX2_neededFor 1 = .ok (.getfield 15, 3) := by decide +kernel
theorem dX2_neededFor_4 : decode cX2_neededFor 4 = .ok (.ifCond .ne 7, 3) := by decide +kernel
theorem dX2_neededFor_7 : decode cX2_neededFor 7 = .ok (.lconst 0, 1) := by decide +kernel
theorem dX2_neededFor_8 : decode cX2_neededFor 8 = .ok (.goto 24, 3) := by decide +kernel
theorem dX2_neededFor_11 : decode cX2_neededFor 11 = .ok (.lload_n 1, 1) := by decide +kernel
theorem dX2_neededFor_12 : decode cX2_neededFor 12 = .ok (.aload_n 0, 1) := by decide +kernel
theorem dX2_neededFor_13 : decode cX2_neededFor 13 = .ok (.getfield 9, 3) := by decide +kernel
theorem dX2_neededFor_16 : decode cX2_neededFor 16 = .ok (.i2l, 1) := by decide +kernel
theorem dX2_neededFor_17 : decode cX2_neededFor 17 = .ok (.lmul, 1) := by decide +kernel
theorem dX2_neededFor_18 : decode cX2_neededFor 18 = .ok (.aload_n 0, 1) := by decide +kernel
theorem dX2_neededFor_19 : decode cX2_neededFor 19 = .ok (.getfield 15, 3) := by decide +kernel
theorem dX2_neededFor_22 : decode cX2_neededFor 22 = .ok (.i2l, 1) := by decide +kernel
theorem dX2_neededFor_23 : decode cX2_neededFor 23 = .ok (.ladd, 1) := by decide +kernel
theorem dX2_neededFor_24 : decode cX2_neededFor 24 = .ok (.lconst 1, 1) := by decide +kernel
theorem dX2_neededFor_25 : decode cX2_neededFor 25 = .ok (.lsub, 1) := by decide +kernel
theorem dX2_neededFor_26 : decode cX2_neededFor 26 = .ok (.aload_n 0, 1) := by decide +kernel
theorem dX2_neededFor_27 : decode cX2_neededFor 27 = .ok (.getfield 15, 3) := by decide +kernel
theorem dX2_neededFor_30 : decode cX2_neededFor 30 = .ok (.i2l, 1) := by decide +kernel
theorem dX2_neededFor_31 : decode cX2_neededFor 31 = .ok (.ldiv, 1) := by decide +kernel
theorem dX2_neededFor_32 : decode cX2_neededFor 32 = .ok (.lreturn, 1) := by decide +kernel
theorem dX2_mostFor_0 : decode cX2_mostFor 0 = .ok (.aload_n 0, 1) := by decide +kernel
theorem dX2_mostFor_1 : decode cX2_mostFor 1 = .ok (.getfield 9, 3) := by decide +kernel
theorem dX2_mostFor_4 : decode cX2_mostFor 4 = .ok (.ifCond .ne 9, 3) := by decide +kernel
theorem dX2_mostFor_7 : decode cX2_mostFor 7 = .ok (.ldc2_w 18, 3) := by decide +kernel
theorem dX2_mostFor_10 : decode cX2_mostFor 10 = .ok (.goto 16, 3) := by decide +kernel
theorem dX2_mostFor_13 : decode cX2_mostFor 13 = .ok (.lload_n 1, 1) := by decide +kernel
theorem dX2_mostFor_14 : decode cX2_mostFor 14 = .ok (.aload_n 0, 1) := by decide +kernel
theorem dX2_mostFor_15 : decode cX2_mostFor 15 = .ok (.getfield 15, 3) := by decide +kernel
theorem dX2_mostFor_18 : decode cX2_mostFor 18 = .ok (.i2l, 1) := by decide +kernel
theorem dX2_mostFor_19 : decode cX2_mostFor 19 = .ok (.lmul, 1) := by decide +kernel
theorem dX2_mostFor_20 : decode cX2_mostFor 20 = .ok (.aload_n 0, 1) := by decide +kernel
theorem dX2_mostFor_21 : decode cX2_mostFor 21 = .ok (.getfield 9, 3) := by decide +kernel
theorem dX2_mostFor_24 : decode cX2_mostFor 24 = .ok (.i2l, 1) := by decide +kernel
theorem dX2_mostFor_25 : decode cX2_mostFor 25 = .ok (.ldiv, 1) := by decide +kernel
theorem dX2_mostFor_26 : decode cX2_mostFor 26 = .ok (.lreturn, 1) := by decide +kernel
theorem dX3_init_0 : decode cX3_init 0 = .ok (.aload_n 0, 1) := by decide +kernel
theorem dX3_init_1 : decode cX3_init 1 = .ok (.invokespecial 3, 3) := by decide +kernel
theorem dX3_init_4 : decode cX3_init 4 = .ok (.aload_n 0, 1) := by decide +kernel
theorem dX3_init_5 : decode cX3_init 5 = .ok (.iload_n 1, 1) := by decide +kernel
theorem dX3_init_6 : decode cX3_init 6 = .ok (.putfield 9, 3) := by decide +kernel
theorem dX3_init_9 : decode cX3_init 9 = .ok (.aload_n 0, 1) := by decide +kernel
theorem dX3_init_10 : decode cX3_init 10 = .ok (.iload_n 2, 1) := by decide +kernel
theorem dX3_init_11 : decode cX3_init 11 = .ok (.putfield 15, 3) := by decide +kernel
theorem dX3_init_14 : decode cX3_init 14 = .ok (.return_, 1) := by decide +kernel
theorem dX3_upTo_0 : decode cX3_upTo 0 = .ok (.aload_n 0, 1) := by decide +kernel
theorem dX3_upTo_1 : decode cX3_upTo 1 = .ok (.getfield 18, 3) := by decide +kernel
theorem dX3_upTo_4 : decode cX3_upTo 4 = .ok (.ifCond .eq 10, 3) := by decide +kernel
theorem dX3_upTo_7 : decode cX3_upTo 7 = .ok (.aload_n 0, 1) := by decide +kernel
theorem dX3_upTo_8 : decode cX3_upTo 8 = .ok (.getfield 22, 3) := by decide +kernel
theorem dX3_upTo_11 : decode cX3_upTo 11 = .ok (.goto 27, 3) := by decide +kernel
theorem dX3_upTo_14 : decode cX3_upTo 14 = .ok (.aload_n 0, 1) := by decide +kernel
theorem dX3_upTo_15 : decode cX3_upTo 15 = .ok (.getfield 22, 3) := by decide +kernel
theorem dX3_upTo_18 : decode cX3_upTo 18 = .ok (.lload_n 2, 1) := by decide +kernel
theorem dX3_upTo_19 : decode cX3_upTo 19 = .ok (.aload_n 0, 1) := by decide +kernel
theorem dX3_upTo_20 : decode cX3_upTo 20 = .ok (.getfield 9, 3) := by decide +kernel
theorem dX3_upTo_23 : decode cX3_upTo 23 = .ok (.i2l, 1) := by decide +kernel
theorem dX3_upTo_24 : decode cX3_upTo 24 = .ok (.lmul, 1) := by decide +kernel
theorem dX3_upTo_25 : decode cX3_upTo 25 = .ok (.iload_n 1, 1) := by decide +kernel
theorem dX3_upTo_26 : decode cX3_upTo 26 = .ok (.aload_n 0, 1) := by decide +kernel
theorem dX3_upTo_27 : decode cX3_upTo 27 = .ok (.getfield 15, 3) := by decide +kernel
theorem dX3_upTo_30 : decode cX3_upTo 30 = .ok (.isub, 1) := by decide +kernel
theorem dX3_upTo_31 : decode cX3_upTo 31 = .ok (.i2l, 1) := by decide +kernel
theorem dX3_upTo_32 : decode cX3_upTo 32 = .ok (.lmul, 1) := by decide +kernel
theorem dX3_upTo_33 : decode cX3_upTo 33 = .ok (.ldc2_w 26, 3) := by decide +kernel
theorem dX3_upTo_36 : decode cX3_upTo 36 = .ok (.ldiv, 1) := by decide +kernel
theorem dX3_upTo_37 : decode cX3_upTo 37 = .ok (.ladd, 1) := by decide +kernel
theorem dX3_upTo_38 : decode cX3_upTo 38 = .ok (.lreturn, 1) := by decide +kernel
theorem dX3_endRow_0 : decode cX3_endRow 0 = .ok (.aload_n 0, 1) := by decide +kernel
theorem dX3_endRow_1 : decode cX3_endRow 1 = .ok (.aload_n 0, 1) := by decide +kernel
theorem dX3_endRow_2 : decode cX3_endRow 2 = .ok (.iload_n 1, 1) := by decide +kernel
theorem dX3_endRow_3 : decode cX3_endRow 3 = .ok (.lload_n 2, 1) := by decide +kernel
theorem dX3_endRow_4 : decode cX3_endRow 4 = .ok (.invokevirtual 28, 3) := by decide +kernel
theorem dX3_endRow_7 : decode cX3_endRow 7 = .ok (.putfield 22, 3) := by decide +kernel
theorem dX3_endRow_10 : decode cX3_endRow 10 = .ok (.aload_n 0, 1) := by decide +kernel
theorem dX3_endRow_11 : decode cX3_endRow 11 = .ok (.iload_n 1, 1) := by decide +kernel
theorem dX3_endRow_12 : decode cX3_endRow 12 = .ok (.putfield 15, 3) := by decide +kernel
theorem dX3_endRow_15 : decode cX3_endRow 15 = .ok (.return_, 1) := by decide +kernel
theorem dX3_stop_0 : decode cX3_stop 0 = .ok (.aload_n 0, 1) := by decide +kernel
theorem dX3_stop_1 : decode cX3_stop 1 = .ok (.iload_n 1, 1) := by decide +kernel
theorem dX3_stop_2 : decode cX3_stop 2 = .ok (.lload_n 2, 1) := by decide +kernel
theorem dX3_stop_3 : decode cX3_stop 3 = .ok (.invokevirtual 32, 3) := by decide +kernel
theorem dX3_stop_6 : decode cX3_stop 6 = .ok (.aload_n 0, 1) := by decide +kernel
theorem dX3_stop_7 : decode cX3_stop 7 = .ok (.iconst 1, 1) := by decide +kernel
theorem dX3_stop_8 : decode cX3_stop 8 = .ok (.putfield 18, 3) := by decide +kernel
theorem dX3_stop_11 : decode cX3_stop 11 = .ok (.return_, 1) := by decide +kernel
theorem dX4_init_0 : decode cX4_init 0 = .ok (.aload_n 0, 1) := by decide +kernel
theorem dX4_init_1 : decode cX4_init 1 = .ok (.invokespecial 3, 3) := by decide +kernel
theorem dX4_init_4 : decode cX4_init 4 = .ok (.aload_n 0, 1) := by decide +kernel
theorem dX4_init_5 : decode cX4_init 5 = .ok (.iconst 4, 1) := by decide +kernel
theorem dX4_init_6 : decode cX4_init 6 = .ok (.anewarray 9, 3) := by decide +kernel
theorem dX4_init_9 : decode cX4_init 9 = .ok (.putfield 11, 3) := by decide +kernel
theorem dX4_init_12 : decode cX4_init 12 = .ok (.aload_n 0, 1) := by decide +kernel
theorem dX4_init_13 : decode cX4_init 13 = .ok (.iconst 4, 1) := by decide +kernel
theorem dX4_init_14 : decode cX4_init 14 = .ok (.newarray .long, 2) := by decide +kernel
theorem dX4_init_16 : decode cX4_init 16 = .ok (.putfield 17, 3) := by decide +kernel
theorem dX4_init_19 : decode cX4_init 19 = .ok (.aload_n 0, 1) := by decide +kernel
theorem dX4_init_20 : decode cX4_init 20 = .ok (.iconst 0, 1) := by decide +kernel
theorem dX4_init_21 : decode cX4_init 21 = .ok (.putfield 21, 3) := by decide +kernel
theorem dX4_init_24 : decode cX4_init 24 = .ok (.return_, 1) := by decide +kernel
theorem dX4_beginFor_0 : decode cX4_beginFor 0 = .ok (.aload_n 0, 1) := by decide +kernel
theorem dX4_beginFor_1 : decode cX4_beginFor 1 = .ok (.iload_n 1, 1) := by decide +kernel
theorem dX4_beginFor_2 : decode cX4_beginFor 2 = .ok (.putfield 25, 3) := by decide +kernel
theorem dX4_beginFor_5 : decode cX4_beginFor 5 = .ok (.aload_n 0, 1) := by decide +kernel
theorem dX4_beginFor_6 : decode cX4_beginFor 6 = .ok (.lload_n 2, 1) := by decide +kernel
theorem dX4_beginFor_7 : decode cX4_beginFor 7 = .ok (.putfield 28, 3) := by decide +kernel
theorem dX4_beginFor_10 : decode cX4_beginFor 10 = .ok (.aload_n 0, 1) := by decide +kernel
theorem dX4_beginFor_11 : decode cX4_beginFor 11 = .ok (.iconst 0, 1) := by decide +kernel
theorem dX4_beginFor_12 : decode cX4_beginFor 12 = .ok (.putfield 32, 3) := by decide +kernel
theorem dX4_beginFor_15 : decode cX4_beginFor 15 = .ok (.return_, 1) := by decide +kernel
theorem dX4_addPart_0 : decode cX4_addPart 0 = .ok (.aload_n 0, 1) := by decide +kernel
theorem dX4_addPart_1 : decode cX4_addPart 1 = .ok (.getfield 32, 3) := by decide +kernel
theorem dX4_addPart_4 : decode cX4_addPart 4 = .ok (.iconst 4, 1) := by decide +kernel
theorem dX4_addPart_5 : decode cX4_addPart 5 = .ok (.if_icmp .lt 5, 3) := by decide +kernel
theorem dX4_addPart_8 : decode cX4_addPart 8 = .ok (.iconst 0, 1) := by decide +kernel
theorem dX4_addPart_9 : decode cX4_addPart 9 = .ok (.ireturn, 1) := by decide +kernel
theorem dX4_addPart_10 : decode cX4_addPart 10 = .ok (.aload_n 0, 1) := by decide +kernel
theorem dX4_addPart_11 : decode cX4_addPart 11 = .ok (.getfield 11, 3) := by decide +kernel
theorem dX4_addPart_14 : decode cX4_addPart 14 = .ok (.aload_n 0, 1) := by decide +kernel
theorem dX4_addPart_15 : decode cX4_addPart 15 = .ok (.getfield 32, 3) := by decide +kernel
theorem dX4_addPart_18 : decode cX4_addPart 18 = .ok (.aload_n 1, 1) := by decide +kernel
theorem dX4_addPart_19 : decode cX4_addPart 19 = .ok (.aastore, 1) := by decide +kernel
theorem dX4_addPart_20 : decode cX4_addPart 20 = .ok (.aload_n 0, 1) := by decide +kernel
theorem dX4_addPart_21 : decode cX4_addPart 21 = .ok (.getfield 17, 3) := by decide +kernel
theorem dX4_addPart_24 : decode cX4_addPart 24 = .ok (.aload_n 0, 1) := by decide +kernel
theorem dX4_addPart_25 : decode cX4_addPart 25 = .ok (.getfield 32, 3) := by decide +kernel
theorem dX4_addPart_28 : decode cX4_addPart 28 = .ok (.lload_n 2, 1) := by decide +kernel
theorem dX4_addPart_29 : decode cX4_addPart 29 = .ok (.lastore, 1) := by decide +kernel
theorem dX4_addPart_30 : decode cX4_addPart 30 = .ok (.aload_n 0, 1) := by decide +kernel
theorem dX4_addPart_31 : decode cX4_addPart 31 = .ok (.dup, 1) := by decide +kernel
theorem dX4_addPart_32 : decode cX4_addPart 32 = .ok (.getfield 32, 3) := by decide +kernel
theorem dX4_addPart_35 : decode cX4_addPart 35 = .ok (.iconst 1, 1) := by decide +kernel
theorem dX4_addPart_36 : decode cX4_addPart 36 = .ok (.iadd, 1) := by decide +kernel
theorem dX4_addPart_37 : decode cX4_addPart 37 = .ok (.putfield 32, 3) := by decide +kernel
theorem dX4_addPart_40 : decode cX4_addPart 40 = .ok (.iconst 1, 1) := by decide +kernel
theorem dX4_addPart_41 : decode cX4_addPart 41 = .ok (.ireturn, 1) := by decide +kernel
theorem dX4_hasPart_0 : decode cX4_hasPart 0 = .ok (.iload_n 1, 1) := by decide +kernel
theorem dX4_hasPart_1 : decode cX4_hasPart 1 = .ok (.ifCond .lt 15, 3) := by decide +kernel
theorem dX4_hasPart_4 : decode cX4_hasPart 4 = .ok (.iload_n 1, 1) := by decide +kernel
theorem dX4_hasPart_5 : decode cX4_hasPart 5 = .ok (.aload_n 0, 1) := by decide +kernel
theorem dX4_hasPart_6 : decode cX4_hasPart 6 = .ok (.getfield 32, 3) := by decide +kernel
theorem dX4_hasPart_9 : decode cX4_hasPart 9 = .ok (.if_icmp .ge 7, 3) := by decide +kernel
theorem dX4_hasPart_12 : decode cX4_hasPart 12 = .ok (.iconst 1, 1) := by decide +kernel
theorem dX4_hasPart_13 : decode cX4_hasPart 13 = .ok (.goto 4, 3) := by decide +kernel
theorem dX4_hasPart_16 : decode cX4_hasPart 16 = .ok (.iconst 0, 1) := by decide +kernel
theorem dX4_hasPart_17 : decode cX4_hasPart 17 = .ok (.ireturn, 1) := by decide +kernel
theorem dX4_numberOfPart_0 : decode cX4_numberOfPart 0 = .ok (.aload_n 0, 1) := by decide +kernel
theorem dX4_numberOfPart_1 : decode cX4_numberOfPart 1 = .ok (.getfield 11, 3) := by decide +kernel
theorem dX4_numberOfPart_4 : decode cX4_numberOfPart 4 = .ok (.iload_n 1, 1) := by decide +kernel
theorem dX4_numberOfPart_5 : decode cX4_numberOfPart 5 = .ok (.aaload, 1) := by decide +kernel
theorem dX4_numberOfPart_6 : decode cX4_numberOfPart 6 = .ok (.astore_n 2, 1) := by decide +kernel
theorem dX4_numberOfPart_7 : decode cX4_numberOfPart 7 = .ok (.aload_n 2, 1) := by decide +kernel
theorem dX4_numberOfPart_8 : decode cX4_numberOfPart 8 = .ok (.ifnonnull 7, 3) := by decide +kernel
theorem dX4_numberOfPart_11 : decode cX4_numberOfPart 11 = .ok (.iconst (-1), 1) := by decide +kernel
theorem dX4_numberOfPart_12 : decode cX4_numberOfPart 12 = .ok (.goto 7, 3) := by decide +kernel
theorem dX4_numberOfPart_15 : decode cX4_numberOfPart 15 = .ok (.aload_n 2, 1) := by decide +kernel
theorem dX4_numberOfPart_16 : decode cX4_numberOfPart 16 = .ok (.getfield 35, 3) := by decide +kernel
theorem dX4_numberOfPart_19 : decode cX4_numberOfPart 19 = .ok (.ireturn, 1) := by decide +kernel
theorem dX4_covered_0 : decode cX4_covered 0 = .ok (.lconst 0, 1) := by decide +kernel
theorem dX4_covered_1 : decode cX4_covered 1 = .ok (.lstore_n 1, 1) := by decide +kernel
theorem dX4_covered_2 : decode cX4_covered 2 = .ok (.iconst 0, 1) := by decide +kernel
theorem dX4_covered_3 : decode cX4_covered 3 = .ok (.istore_n 3, 1) := by decide +kernel
theorem dX4_covered_4 : decode cX4_covered 4 = .ok (.iload_n 3, 1) := by decide +kernel
theorem dX4_covered_5 : decode cX4_covered 5 = .ok (.aload_n 0, 1) := by decide +kernel
theorem dX4_covered_6 : decode cX4_covered 6 = .ok (.getfield 32, 3) := by decide +kernel
theorem dX4_covered_9 : decode cX4_covered 9 = .ok (.if_icmp .ge 18, 3) := by decide +kernel
theorem dX4_covered_12 : decode cX4_covered 12 = .ok (.lload_n 1, 1) := by decide +kernel
theorem dX4_covered_13 : decode cX4_covered 13 = .ok (.aload_n 0, 1) := by decide +kernel
theorem dX4_covered_14 : decode cX4_covered 14 = .ok (.getfield 17, 3) := by decide +kernel
theorem dX4_covered_17 : decode cX4_covered 17 = .ok (.iload_n 3, 1) := by decide +kernel
theorem dX4_covered_18 : decode cX4_covered 18 = .ok (.laload, 1) := by decide +kernel
theorem dX4_covered_19 : decode cX4_covered 19 = .ok (.ladd, 1) := by decide +kernel
theorem dX4_covered_20 : decode cX4_covered 20 = .ok (.lstore_n 1, 1) := by decide +kernel
theorem dX4_covered_21 : decode cX4_covered 21 = .ok (.iinc 3 1, 3) := by decide +kernel
theorem dX4_covered_24 : decode cX4_covered 24 = .ok (.goto (-20), 3) := by decide +kernel
theorem dX4_covered_27 : decode cX4_covered 27 = .ok (.lload_n 1, 1) := by decide +kernel
theorem dX4_covered_28 : decode cX4_covered 28 = .ok (.lreturn, 1) := by decide +kernel
theorem dX4_bindParts_0 : decode cX4_bindParts 0 = .ok (.iconst 0, 1) := by decide +kernel
theorem dX4_bindParts_1 : decode cX4_bindParts 1 = .ok (.istore_n 1, 1) := by decide +kernel
theorem dX4_bindParts_2 : decode cX4_bindParts 2 = .ok (.iload_n 1, 1) := by decide +kernel
theorem dX4_bindParts_3 : decode cX4_bindParts 3 = .ok (.aload_n 0, 1) := by decide +kernel
theorem dX4_bindParts_4 : decode cX4_bindParts 4 = .ok (.getfield 32, 3) := by decide +kernel
theorem dX4_bindParts_7 : decode cX4_bindParts 7 = .ok (.if_icmp .ge 21, 3) := by decide +kernel
theorem dX4_bindParts_10 : decode cX4_bindParts 10 = .ok (.aload_n 0, 1) := by decide +kernel
theorem dX4_bindParts_11 : decode cX4_bindParts 11 = .ok (.iload_n 1, 1) := by decide +kernel
theorem dX4_bindParts_12 : decode cX4_bindParts 12 = .ok (.lconst 0, 1) := by decide +kernel
theorem dX4_bindParts_13 : decode cX4_bindParts 13 = .ok (.aload_n 0, 1) := by decide +kernel
theorem dX4_bindParts_14 : decode cX4_bindParts 14 = .ok (.getfield 17, 3) := by decide +kernel
theorem dX4_bindParts_17 : decode cX4_bindParts 17 = .ok (.iload_n 1, 1) := by decide +kernel
theorem dX4_bindParts_18 : decode cX4_bindParts 18 = .ok (.laload, 1) := by decide +kernel
theorem dX4_bindParts_19 : decode cX4_bindParts 19 = .ok (.invokevirtual 38, 3) := by decide +kernel
theorem dX4_bindParts_22 : decode cX4_bindParts 22 = .ok (.iinc 1 1, 3) := by decide +kernel
theorem dX4_bindParts_25 : decode cX4_bindParts 25 = .ok (.goto (-23), 3) := by decide +kernel
theorem dX4_bindParts_28 : decode cX4_bindParts 28 = .ok (.return_, 1) := by decide +kernel
theorem dX4_dropParts_0 : decode cX4_dropParts 0 = .ok (.iconst 0, 1) := by decide +kernel
theorem dX4_dropParts_1 : decode cX4_dropParts 1 = .ok (.istore_n 1, 1) := by decide +kernel
theorem dX4_dropParts_2 : decode cX4_dropParts 2 = .ok (.iload_n 1, 1) := by decide +kernel
theorem dX4_dropParts_3 : decode cX4_dropParts 3 = .ok (.aload_n 0, 1) := by decide +kernel
theorem dX4_dropParts_4 : decode cX4_dropParts 4 = .ok (.getfield 32, 3) := by decide +kernel
theorem dX4_dropParts_7 : decode cX4_dropParts 7 = .ok (.if_icmp .ge 21, 3) := by decide +kernel
theorem dX4_dropParts_10 : decode cX4_dropParts 10 = .ok (.aload_n 0, 1) := by decide +kernel
theorem dX4_dropParts_11 : decode cX4_dropParts 11 = .ok (.iload_n 1, 1) := by decide +kernel
theorem dX4_dropParts_12 : decode cX4_dropParts 12 = .ok (.aload_n 0, 1) := by decide +kernel
theorem dX4_dropParts_13 : decode cX4_dropParts 13 = .ok (.getfield 17, 3) := by decide +kernel
theorem dX4_dropParts_16 : decode cX4_dropParts 16 = .ok (.iload_n 1, 1) := by decide +kernel
theorem dX4_dropParts_17 : decode cX4_dropParts 17 = .ok (.laload, 1) := by decide +kernel
theorem dX4_dropParts_18 : decode cX4_dropParts 18 = .ok (.lconst 0, 1) := by decide +kernel
theorem dX4_dropParts_19 : decode cX4_dropParts 19 = .ok (.invokevirtual 38, 3) := by decide +kernel
theorem dX4_dropParts_22 : decode cX4_dropParts 22 = .ok (.iinc 1 1, 3) := by decide +kernel
theorem dX4_dropParts_25 : decode cX4_dropParts 25 = .ok (.goto (-23), 3) := by decide +kernel
theorem dX4_dropParts_28 : decode cX4_dropParts 28 = .ok (.aload_n 0, 1) := by decide +kernel
theorem dX4_dropParts_29 : decode cX4_dropParts 29 = .ok (.iconst 0, 1) := by decide +kernel
theorem dX4_dropParts_30 : decode cX4_dropParts 30 = .ok (.putfield 32, 3) := by decide +kernel
theorem dX4_dropParts_33 : decode cX4_dropParts 33 = .ok (.return_, 1) := by decide +kernel
theorem dX4_shrinkBy_0 : decode cX4_shrinkBy 0 = .ok (.lload_n 1, 1) := by decide +kernel
theorem dX4_shrinkBy_1 : decode cX4_shrinkBy 1 = .ok (.lstore_n 3, 1) := by decide +kernel
theorem dX4_shrinkBy_2 : decode cX4_shrinkBy 2 = .ok (.aload_n 0, 1) := by decide +kernel
theorem dX4_shrinkBy_3 : decode cX4_shrinkBy 3 = .ok (.getfield 32, 3) := by decide +kernel
theorem dX4_shrinkBy_6 : decode cX4_shrinkBy 6 = .ok (.iconst 1, 1) := by decide +kernel
theorem dX4_shrinkBy_7 : decode cX4_shrinkBy 7 = .ok (.isub, 1) := by decide +kernel
theorem dX4_shrinkBy_8 : decode cX4_shrinkBy 8 = .ok (.istore 5, 2) := by decide +kernel
theorem dX4_shrinkBy_10 : decode cX4_shrinkBy 10 = .ok (.iload 5, 2) := by decide +kernel
theorem dX4_shrinkBy_12 : decode cX4_shrinkBy 12 = .ok (.ifCond .lt 86, 3) := by decide +kernel
theorem dX4_shrinkBy_15 : decode cX4_shrinkBy 15 = .ok (.lload_n 3, 1) := by decide +kernel
theorem dX4_shrinkBy_16 : decode cX4_shrinkBy 16 = .ok (.lconst 0, 1) := by decide +kernel
theorem dX4_shrinkBy_17 : decode cX4_shrinkBy 17 = .ok (.lcmp, 1) := by decide +kernel
theorem dX4_shrinkBy_18 : decode cX4_shrinkBy 18 = .ok (.ifCond .le 80, 3) := by decide +kernel
theorem dX4_shrinkBy_21 : decode cX4_shrinkBy 21 = .ok (.lload_n 3, 1) := by decide +kernel
theorem dX4_shrinkBy_22 : decode cX4_shrinkBy 22 = .ok (.aload_n 0, 1) := by decide +kernel
theorem dX4_shrinkBy_23 : decode cX4_shrinkBy 23 = .ok (.getfield 17, 3) := by decide +kernel
theorem dX4_shrinkBy_26 : decode cX4_shrinkBy 26 = .ok (.iload 5, 2) := by decide +kernel
theorem dX4_shrinkBy_28 : decode cX4_shrinkBy 28 = .ok (.laload, 1) := by decide +kernel
theorem dX4_shrinkBy_29 : decode cX4_shrinkBy 29 = .ok (.invokestatic 42, 3) := by decide +kernel
theorem dX4_shrinkBy_32 : decode cX4_shrinkBy 32 = .ok (.lstore 6, 2) := by decide +kernel
theorem dX4_shrinkBy_34 : decode cX4_shrinkBy 34 = .ok (.aload_n 0, 1) := by decide +kernel
theorem dX4_shrinkBy_35 : decode cX4_shrinkBy 35 = .ok (.iload 5, 2) := by decide +kernel
theorem dX4_shrinkBy_37 : decode cX4_shrinkBy 37 = .ok (.aload_n 0, 1) := by decide +kernel
theorem dX4_shrinkBy_38 : decode cX4_shrinkBy 38 = .ok (.getfield 17, 3) := by decide +kernel
theorem dX4_shrinkBy_41 : decode cX4_shrinkBy 41 = .ok (.iload 5, 2) := by decide +kernel
theorem dX4_shrinkBy_43 : decode cX4_shrinkBy 43 = .ok (.laload, 1) := by decide +kernel
theorem dX4_shrinkBy_44 : decode cX4_shrinkBy 44 = .ok (.aload_n 0, 1) := by decide +kernel
theorem dX4_shrinkBy_45 : decode cX4_shrinkBy 45 = .ok (.getfield 17, 3) := by decide +kernel
theorem dX4_shrinkBy_48 : decode cX4_shrinkBy 48 = .ok (.iload 5, 2) := by decide +kernel
theorem dX4_shrinkBy_50 : decode cX4_shrinkBy 50 = .ok (.laload, 1) := by decide +kernel
theorem dX4_shrinkBy_51 : decode cX4_shrinkBy 51 = .ok (.lload 6, 2) := by decide +kernel
theorem dX4_shrinkBy_53 : decode cX4_shrinkBy 53 = .ok (.lsub, 1) := by decide +kernel
theorem dX4_shrinkBy_54 : decode cX4_shrinkBy 54 = .ok (.invokevirtual 38, 3) := by decide +kernel
theorem dX4_shrinkBy_57 : decode cX4_shrinkBy 57 = .ok (.aload_n 0, 1) := by decide +kernel
theorem dX4_shrinkBy_58 : decode cX4_shrinkBy 58 = .ok (.getfield 17, 3) := by decide +kernel
theorem dX4_shrinkBy_61 : decode cX4_shrinkBy 61 = .ok (.iload 5, 2) := by decide +kernel
theorem dX4_shrinkBy_63 : decode cX4_shrinkBy 63 = .ok (.dup2, 1) := by decide +kernel
theorem dX4_shrinkBy_64 : decode cX4_shrinkBy 64 = .ok (.laload, 1) := by decide +kernel
theorem dX4_shrinkBy_65 : decode cX4_shrinkBy 65 = .ok (.lload 6, 2) := by decide +kernel
theorem dX4_shrinkBy_67 : decode cX4_shrinkBy 67 = .ok (.lsub, 1) := by decide +kernel
theorem dX4_shrinkBy_68 : decode cX4_shrinkBy 68 = .ok (.lastore, 1) := by decide +kernel
theorem dX4_shrinkBy_69 : decode cX4_shrinkBy 69 = .ok (.lload_n 3, 1) := by decide +kernel
theorem dX4_shrinkBy_70 : decode cX4_shrinkBy 70 = .ok (.lload 6, 2) := by decide +kernel
theorem dX4_shrinkBy_72 : decode cX4_shrinkBy 72 = .ok (.lsub, 1) := by decide +kernel
theorem dX4_shrinkBy_73 : decode cX4_shrinkBy 73 = .ok (.lstore_n 3, 1) := by decide +kernel
theorem dX4_shrinkBy_74 : decode cX4_shrinkBy 74 = .ok (.aload_n 0, 1) := by decide +kernel
theorem dX4_shrinkBy_75 : decode cX4_shrinkBy 75 = .ok (.getfield 17, 3) := by decide +kernel
theorem dX4_shrinkBy_78 : decode cX4_shrinkBy 78 = .ok (.iload 5, 2) := by decide +kernel
theorem dX4_shrinkBy_80 : decode cX4_shrinkBy 80 = .ok (.laload, 1) := by decide +kernel
theorem dX4_shrinkBy_81 : decode cX4_shrinkBy 81 = .ok (.lconst 0, 1) := by decide +kernel
theorem dX4_shrinkBy_82 : decode cX4_shrinkBy 82 = .ok (.lcmp, 1) := by decide +kernel
theorem dX4_shrinkBy_83 : decode cX4_shrinkBy 83 = .ok (.ifCond .ne 9, 3) := by decide +kernel
theorem dX4_shrinkBy_86 : decode cX4_shrinkBy 86 = .ok (.aload_n 0, 1) := by decide +kernel
theorem dX4_shrinkBy_87 : decode cX4_shrinkBy 87 = .ok (.iload 5, 2) := by decide +kernel
theorem dX4_shrinkBy_89 : decode cX4_shrinkBy 89 = .ok (.putfield 32, 3) := by decide +kernel
theorem dX4_shrinkBy_92 : decode cX4_shrinkBy 92 = .ok (.iinc 5 (-1), 3) := by decide +kernel
theorem dX4_shrinkBy_95 : decode cX4_shrinkBy 95 = .ok (.goto (-85), 3) := by decide +kernel
theorem dX4_shrinkBy_98 : decode cX4_shrinkBy 98 = .ok (.return_, 1) := by decide +kernel
theorem dX4_takeFromAmounts_0 : decode cX4_takeFromAmounts 0 = .ok (.lload_n 1, 1) := by decide +kernel
theorem dX4_takeFromAmounts_1 : decode cX4_takeFromAmounts 1 = .ok (.lstore 4, 2) := by decide +kernel
theorem dX4_takeFromAmounts_3 : decode cX4_takeFromAmounts 3 = .ok (.lconst 0, 1) := by decide +kernel
theorem dX4_takeFromAmounts_4 : decode cX4_takeFromAmounts 4 = .ok (.lstore 6, 2) := by decide +kernel
theorem dX4_takeFromAmounts_6 : decode cX4_takeFromAmounts 6 = .ok (.iconst 0, 1) := by decide +kernel
theorem dX4_takeFromAmounts_7 : decode cX4_takeFromAmounts 7 = .ok (.istore 8, 2) := by decide +kernel
theorem dX4_takeFromAmounts_9 : decode cX4_takeFromAmounts 9 = .ok (.iload 8, 2) := by decide +kernel
theorem dX4_takeFromAmounts_11 : decode cX4_takeFromAmounts 11 = .ok (.aload_n 0, 1) := by decide +kernel
theorem dX4_takeFromAmounts_12 : decode cX4_takeFromAmounts 12 = .ok (.getfield 32, 3) := by decide +kernel
theorem dX4_takeFromAmounts_15 : decode cX4_takeFromAmounts 15 = .ok (.if_icmp .ge 57, 3) := by decide +kernel
theorem dX4_takeFromAmounts_18 : decode cX4_takeFromAmounts 18 = .ok (.aload_n 0, 1) := by decide +kernel
theorem dX4_takeFromAmounts_19 : decode cX4_takeFromAmounts 19 = .ok (.getfield 11, 3) := by decide +kernel
theorem dX4_takeFromAmounts_22 : decode cX4_takeFromAmounts 22 = .ok (.iload 8, 2) := by decide +kernel
theorem dX4_takeFromAmounts_24 : decode cX4_takeFromAmounts 24 = .ok (.aaload, 1) := by decide +kernel
theorem dX4_takeFromAmounts_25 : decode cX4_takeFromAmounts 25 = .ok (.astore 9, 2) := by decide +kernel
theorem dX4_takeFromAmounts_27 : decode cX4_takeFromAmounts 27 = .ok (.lload 4, 2) := by decide +kernel
theorem dX4_takeFromAmounts_29 : decode cX4_takeFromAmounts 29 = .ok (.aload_n 0, 1) := by decide +kernel
theorem dX4_takeFromAmounts_30 : decode cX4_takeFromAmounts 30 = .ok (.getfield 17, 3) := by decide +kernel
theorem dX4_takeFromAmounts_33 : decode cX4_takeFromAmounts 33 = .ok (.iload 8, 2) := by decide +kernel
theorem dX4_takeFromAmounts_35 : decode cX4_takeFromAmounts 35 = .ok (.laload, 1) := by decide +kernel
theorem dX4_takeFromAmounts_36 : decode cX4_takeFromAmounts 36 = .ok (.invokestatic 42, 3) := by decide +kernel
theorem dX4_takeFromAmounts_39 : decode cX4_takeFromAmounts 39 = .ok (.lstore 10, 2) := by decide +kernel
theorem dX4_takeFromAmounts_41 : decode cX4_takeFromAmounts 41 = .ok (.lload 4, 2) := by decide +kernel
theorem dX4_takeFromAmounts_43 : decode cX4_takeFromAmounts 43 = .ok (.lload 10, 2) := by decide +kernel
theorem dX4_takeFromAmounts_45 : decode cX4_takeFromAmounts 45 = .ok (.lsub, 1) := by decide +kernel
theorem dX4_takeFromAmounts_46 : decode cX4_takeFromAmounts 46 = .ok (.lstore 4, 2) := by decide +kernel
theorem dX4_takeFromAmounts_48 : decode cX4_takeFromAmounts 48 = .ok (.aload 9, 2) := by decide +kernel
theorem dX4_takeFromAmounts_50 : decode cX4_takeFromAmounts 50 = .ok (.ifnull 16, 3) := by decide +kernel
theorem dX4_takeFromAmounts_53 : decode cX4_takeFromAmounts 53 = .ok (.lload 6, 2) := by decide +kernel
theorem dX4_takeFromAmounts_55 : decode cX4_takeFromAmounts 55 = .ok (.aload 9, 2) := by decide +kernel
theorem dX4_takeFromAmounts_57 : decode cX4_takeFromAmounts 57 = .ok (.lload 10, 2) := by decide +kernel
theorem dX4_takeFromAmounts_59 : decode cX4_takeFromAmounts 59 = .ok (.iload_n 3, 1) := by decide +kernel
theorem dX4_takeFromAmounts_60 : decode cX4_takeFromAmounts 60 = .ok (.invokevirtual 48, 3) := by decide +kernel
theorem dX4_takeFromAmounts_63 : decode cX4_takeFromAmounts 63 = .ok (.ladd, 1) := by decide +kernel
theorem dX4_takeFromAmounts_64 : decode cX4_takeFromAmounts 64 = .ok (.lstore 6, 2) := by decide +kernel
theorem dX4_takeFromAmounts_66 : decode cX4_takeFromAmounts 66 = .ok (.iinc 8 1, 3) := by decide +kernel
theorem dX4_takeFromAmounts_69 : decode cX4_takeFromAmounts 69 = .ok (.goto (-60), 3) := by decide +kernel
theorem dX4_takeFromAmounts_72 : decode cX4_takeFromAmounts 72 = .ok (.lload 6, 2) := by decide +kernel
theorem dX4_takeFromAmounts_74 : decode cX4_takeFromAmounts 74 = .ok (.lreturn, 1) := by decide +kernel
theorem dX4_tellGuarantee_0 : decode cX4_tellGuarantee 0 = .ok (.aload_n 0, 1) := by decide +kernel
theorem dX4_tellGuarantee_1 : decode cX4_tellGuarantee 1 = .ok (.getfield 11, 3) := by decide +kernel
theorem dX4_tellGuarantee_4 : decode cX4_tellGuarantee 4 = .ok (.iload_n 1, 1) := by decide +kernel
theorem dX4_tellGuarantee_5 : decode cX4_tellGuarantee 5 = .ok (.aaload, 1) := by decide +kernel
theorem dX4_tellGuarantee_6 : decode cX4_tellGuarantee 6 = .ok (.astore 6, 2) := by decide +kernel
theorem dX4_tellGuarantee_8 : decode cX4_tellGuarantee 8 = .ok (.aload 6, 2) := by decide +kernel
theorem dX4_tellGuarantee_10 : decode cX4_tellGuarantee 10 = .ok (.ifnull 11, 3) := by decide +kernel
theorem dX4_tellGuarantee_13 : decode cX4_tellGuarantee 13 = .ok (.aload 6, 2) := by decide +kernel
theorem dX4_tellGuarantee_15 : decode cX4_tellGuarantee 15 = .ok (.lload_n 2, 1) := by decide +kernel
theorem dX4_tellGuarantee_16 : decode cX4_tellGuarantee 16 = .ok (.lload 4, 2) := by decide +kernel
theorem dX4_tellGuarantee_18 : decode cX4_tellGuarantee 18 = .ok (.invokevirtual 52, 3) := by decide +kernel
theorem dX4_tellGuarantee_21 : decode cX4_tellGuarantee 21 = .ok (.return_, 1) := by decide +kernel
end
section
theorem dX0_init_0 : decode cX0_init 0 = .ok (.aload_n 0, 1) := by decide +kernel
theorem dX0_init_1 : decode cX0_init 1 = .ok (.invokespecial 1, 3) := by decide +kernel
theorem dX0_init_4 : decode cX0_init 4 = .ok (.aload_n 0, 1) := by decide +kernel
theorem dX0_init_5 : decode cX0_init 5 = .ok (.bipush 20, 2) := by decide +kernel
theorem dX0_init_7 : decode cX0_init 7 = .ok (.anewarray 9, 3) := by decide +kernel
theorem dX0_init_10 : decode cX0_init 10 = .ok (.putfield 11, 3) := by decide +kernel
theorem dX0_init_13 : decode cX0_init 13 = .ok (.aload_n 0, 1) := by decide +kernel
theorem dX0_init_14 : decode cX0_init 14 = .ok (.bipush 8, 2) := by decide +kernel
theorem dX0_init_16 : decode cX0_init 16 = .ok (.anewarray 9, 3) := by decide +kernel
theorem dX0_init_19 : decode cX0_init 19 = .ok (.putfield 15, 3) := by decide +kernel
theorem dX0_init_22 : decode cX0_init 22 = .ok (.aload_n 0, 1) := by decide +kernel
theorem dX0_init_23 : decode cX0_init 23 = .ok (.bipush 60, 2) := by decide +kernel
theorem dX0_init_25 : decode cX0_init 25 = .ok (.anewarray 18, 3) := by decide +kernel
theorem dX0_init_28 : decode cX0_init 28 = .ok (.putfield 20, 3) := by decide +kernel
theorem dX0_init_31 : decode cX0_init 31 = .ok (.aload_n 0, 1) := by decide +kernel
theorem dX0_init_32 : decode cX0_init 32 = .ok (.iconst 4, 1) := by decide +kernel
theorem dX0_init_33 : decode cX0_init 33 = .ok (.newarray .boolean, 2) := by decide +kernel
theorem dX0_init_35 : decode cX0_init 35 = .ok (.putfield 24, 3) := by decide +kernel
theorem dX0_init_38 : decode cX0_init 38 = .ok (.aload_n 0, 1) := by decide +kernel
theorem dX0_init_39 : decode cX0_init 39 = .ok (.iconst 4, 1) := by decide +kernel
theorem dX0_init_40 : decode cX0_init 40 = .ok (.newarray .int, 2) := by decide +kernel
theorem dX0_init_42 : decode cX0_init 42 = .ok (.putfield 28, 3) := by decide +kernel
theorem dX0_init_45 : decode cX0_init 45 = .ok (.aload_n 0, 1) := by decide +kernel
theorem dX0_init_46 : decode cX0_init 46 = .ok (.new 18, 3) := by decide +kernel
theorem dX0_init_49 : decode cX0_init 49 = .ok (.dup, 1) := by decide +kernel
theorem dX0_init_50 : decode cX0_init 50 = .ok (.invokespecial 32, 3) := by decide +kernel
theorem dX0_init_53 : decode cX0_init 53 = .ok (.putfield 33, 3) := by decide +kernel
theorem dX0_init_56 : decode cX0_init 56 = .ok (.return_, 1) := by decide +kernel
theorem dX0_guarantee_0 : decode cX0_guarantee 0 = .ok (.iload_n 1, 1) := by decide +kernel
theorem dX0_guarantee_1 : decode cX0_guarantee 1 = .ok (.invokestatic 37, 3) := by decide +kernel
theorem dX0_guarantee_4 : decode cX0_guarantee 4 = .ok (.ifCond .eq 33, 3) := by decide +kernel
theorem dX0_guarantee_7 : decode cX0_guarantee 7 = .ok (.lload_n 2, 1) := by decide +kernel
theorem dX0_guarantee_8 : decode cX0_guarantee 8 = .ok (.invokestatic 41, 3) := by decide +kernel
theorem dX0_guarantee_11 : decode cX0_guarantee 11 = .ok (.ifCond .eq 26, 3) := by decide +kernel
theorem dX0_guarantee_14 : decode cX0_guarantee 14 = .ok (.iload 4, 2) := by decide +kernel
theorem dX0_guarantee_16 : decode cX0_guarantee 16 = .ok (.iload 5, 2) := by decide +kernel
theorem dX0_guarantee_18 : decode cX0_guarantee 18 = .ok (.invokestatic 45, 3) := by decide +kernel
theorem dX0_guarantee_21 : decode cX0_guarantee 21 = .ok (.ifCond .eq 16, 3) := by decide +kernel
theorem dX0_guarantee_24 : decode cX0_guarantee 24 = .ok (.iload 7, 2) := by decide +kernel
theorem dX0_guarantee_26 : decode cX0_guarantee 26 = .ok (.ifCond .lt 11, 3) := by decide +kernel
theorem dX0_guarantee_29 : decode cX0_guarantee 29 = .ok (.iload 7, 2) := by decide +kernel
theorem dX0_guarantee_31 : decode cX0_guarantee 31 = .ok (.sipush 1000, 3) := by decide +kernel
theorem dX0_guarantee_34 : decode cX0_guarantee 34 = .ok (.if_icmp .le 13, 3) := by decide +kernel
theorem dX0_guarantee_37 : decode cX0_guarantee 37 = .ok (.new 49, 3) := by decide +kernel
theorem dX0_guarantee_40 : decode cX0_guarantee 40 = .ok (.dup, 1) := by decide +kernel
theorem dX0_guarantee_41 : decode cX0_guarantee 41 = .ok (.ldc 51, 2) := by decide +kernel
theorem dX0_guarantee_43 : decode cX0_guarantee 43 = .ok (.invokespecial 53, 3) := by decide +kernel
theorem dX0_guarantee_46 : decode cX0_guarantee 46 = .ok (.athrow, 1) := by decide +kernel
theorem dX0_guarantee_47 : decode cX0_guarantee 47 = .ok (.aload_n 0, 1) := by decide +kernel
theorem dX0_guarantee_48 : decode cX0_guarantee 48 = .ok (.getfield 56, 3) := by decide +kernel
theorem dX0_guarantee_51 : decode cX0_guarantee 51 = .ok (.bipush 20, 2) := by decide +kernel
theorem dX0_guarantee_53 : decode cX0_guarantee 53 = .ok (.if_icmp .lt 13, 3) := by decide +kernel
theorem dX0_guarantee_56 : decode cX0_guarantee 56 = .ok (.new 60, 3) := by decide +kernel
theorem dX0_guarantee_59 : decode cX0_guarantee 59 = .ok (.dup, 1) := by decide +kernel
theorem dX0_guarantee_60 : decode cX0_guarantee 60 = .ok (.ldc 62, 2) := by decide +kernel
theorem dX0_guarantee_62 : decode cX0_guarantee 62 = .ok (.invokespecial 64, 3) := by decide +kernel
theorem dX0_guarantee_65 : decode cX0_guarantee 65 = .ok (.athrow, 1) := by decide +kernel
theorem dX0_guarantee_66 : decode cX0_guarantee 66 = .ok (.aload_n 0, 1) := by decide +kernel
theorem dX0_guarantee_67 : decode cX0_guarantee 67 = .ok (.getfield 56, 3) := by decide +kernel
theorem dX0_guarantee_70 : decode cX0_guarantee 70 = .ok (.iconst 1, 1) := by decide +kernel
theorem dX0_guarantee_71 : decode cX0_guarantee 71 = .ok (.iadd, 1) := by decide +kernel
theorem dX0_guarantee_72 : decode cX0_guarantee 72 = .ok (.istore 8, 2) := by decide +kernel
theorem dX0_guarantee_74 : decode cX0_guarantee 74 = .ok (.new 9, 3) := by decide +kernel
theorem dX0_guarantee_77 : decode cX0_guarantee 77 = .ok (.dup, 1) := by decide +kernel
theorem dX0_guarantee_78 : decode cX0_guarantee 78 = .ok (.iload 8, 2) := by decide +kernel
theorem dX0_guarantee_80 : decode cX0_guarantee 80 = .ok (.iload_n 1, 1) := by decide +kernel
theorem dX0_guarantee_81 : decode cX0_guarantee 81 = .ok (.lload_n 2, 1) := by decide +kernel
theorem dX0_guarantee_82 : decode cX0_guarantee 82 = .ok (.new 65, 3) := by decide +kernel
theorem dX0_guarantee_85 : decode cX0_guarantee 85 = .ok (.dup, 1) := by decide +kernel
theorem dX0_guarantee_86 : decode cX0_guarantee 86 = .ok (.iload 4, 2) := by decide +kernel
theorem dX0_guarantee_88 : decode cX0_guarantee 88 = .ok (.iload 5, 2) := by decide +kernel
theorem dX0_guarantee_90 : decode cX0_guarantee 90 = .ok (.invokespecial 67, 3) := by decide +kernel
theorem dX0_guarantee_93 : decode cX0_guarantee 93 = .ok (.iload 6, 2) := by decide +kernel
theorem dX0_guarantee_95 : decode cX0_guarantee 95 = .ok (.new 70, 3) := by decide +kernel
theorem dX0_guarantee_98 : decode cX0_guarantee 98 = .ok (.dup, 1) := by decide +kernel
theorem dX0_guarantee_99 : decode cX0_guarantee 99 = .ok (.iload 7, 2) := by decide +kernel
theorem dX0_guarantee_101 : decode cX0_guarantee 101 = .ok (.aload_n 0, 1) := by decide +kernel
theorem dX0_guarantee_102 : decode cX0_guarantee 102 = .ok (.getfield 72, 3) := by decide +kernel
theorem dX0_guarantee_105 : decode cX0_guarantee 105 = .ok (.invokespecial 75, 3) := by decide +kernel
theorem dX0_guarantee_108 : decode cX0_guarantee 108 = .ok (.invokespecial 76, 3) := by decide +kernel
theorem dX0_guarantee_111 : decode cX0_guarantee 111 = .ok (.astore 9, 2) := by decide +kernel
theorem dX0_guarantee_113 : decode cX0_guarantee 113 = .ok (.aload_n 0, 1) := by decide +kernel
theorem dX0_guarantee_114 : decode cX0_guarantee 114 = .ok (.getfield 11, 3) := by decide +kernel
theorem dX0_guarantee_117 : decode cX0_guarantee 117 = .ok (.aload_n 0, 1) := by decide +kernel
theorem dX0_guarantee_118 : decode cX0_guarantee 118 = .ok (.getfield 56, 3) := by decide +kernel
theorem dX0_guarantee_121 : decode cX0_guarantee 121 = .ok (.aload 9, 2) := by decide +kernel
theorem dX0_guarantee_123 : decode cX0_guarantee 123 = .ok (.aastore, 1) := by decide +kernel
theorem dX0_guarantee_124 : decode cX0_guarantee 124 = .ok (.aload_n 0, 1) := by decide +kernel
theorem dX0_guarantee_125 : decode cX0_guarantee 125 = .ok (.iload 8, 2) := by decide +kernel
theorem dX0_guarantee_127 : decode cX0_guarantee 127 = .ok (.putfield 56, 3) := by decide +kernel
theorem dX0_guarantee_130 : decode cX0_guarantee 130 = .ok (.aload_n 0, 1) := by decide +kernel
theorem dX0_guarantee_131 : decode cX0_guarantee 131 = .ok (.aload 9, 2) := by decide +kernel
theorem dX0_guarantee_133 : decode cX0_guarantee 133 = .ok (.invokevirtual 79, 3) := by decide +kernel
theorem dX0_guarantee_136 : decode cX0_guarantee 136 = .ok (.iload 8, 2) := by decide +kernel
theorem dX0_guarantee_138 : decode cX0_guarantee 138 = .ok (.ireturn, 1) := by decide +kernel
theorem dX0_first_0 : decode cX0_first 0 = .ok (.aload_n 0, 1) := by decide +kernel
theorem dX0_first_1 : decode cX0_first 1 = .ok (.iload_n 1, 1) := by decide +kernel
theorem dX0_first_2 : decode cX0_first 2 = .ok (.invokevirtual 83, 3) := by decide +kernel
theorem dX0_first_5 : decode cX0_first 5 = .ok (.astore_n 2, 1) := by decide +kernel
theorem dX0_first_6 : decode cX0_first 6 = .ok (.aload_n 2, 1) := by decide +kernel
theorem dX0_first_7 : decode cX0_first 7 = .ok (.ifnull 16, 3) := by decide +kernel
theorem dX0_first_10 : decode cX0_first 10 = .ok (.aload_n 0, 1) := by decide +kernel
theorem dX0_first_11 : decode cX0_first 11 = .ok (.getfield 15, 3) := by decide +kernel
theorem dX0_first_14 : decode cX0_first 14 = .ok (.aload_n 2, 1) := by decide +kernel
theorem dX0_first_15 : decode cX0_first 15 = .ok (.getfield 87, 3) := by decide +kernel
theorem dX0_first_18 : decode cX0_first 18 = .ok (.aaload, 1) := by decide +kernel
theorem dX0_first_19 : decode cX0_first 19 = .ok (.aload_n 2, 1) := by decide +kernel
theorem dX0_first_20 : decode cX0_first 20 = .ok (.if_acmp .ne 5, 3) := by decide +kernel
theorem dX0_first_23 : decode cX0_first 23 = .ok (.iconst 0, 1) := by decide +kernel
theorem dX0_first_24 : decode cX0_first 24 = .ok (.ireturn, 1) := by decide +kernel
theorem dX0_first_25 : decode cX0_first 25 = .ok (.aload_n 0, 1) := by decide +kernel
theorem dX0_first_26 : decode cX0_first 26 = .ok (.aload_n 2, 1) := by decide +kernel
theorem dX0_first_27 : decode cX0_first 27 = .ok (.invokevirtual 90, 3) := by decide +kernel
theorem dX0_first_30 : decode cX0_first 30 = .ok (.iconst 1, 1) := by decide +kernel
theorem dX0_first_31 : decode cX0_first 31 = .ok (.ireturn, 1) := by decide +kernel
theorem dX0_reserve_0 : decode cX0_reserve 0 = .ok (.iload_n 1, 1) := by decide +kernel
theorem dX0_reserve_1 : decode cX0_reserve 1 = .ok (.invokestatic 93, 3) := by decide +kernel
theorem dX0_reserve_4 : decode cX0_reserve 4 = .ok (.ifCond .eq 17, 3) := by decide +kernel
theorem dX0_reserve_7 : decode cX0_reserve 7 = .ok (.iload_n 2, 1) := by decide +kernel
theorem dX0_reserve_8 : decode cX0_reserve 8 = .ok (.invokestatic 37, 3) := by decide +kernel
theorem dX0_reserve_11 : decode cX0_reserve 11 = .ok (.ifCond .eq 10, 3) := by decide +kernel
theorem dX0_reserve_14 : decode cX0_reserve 14 = .ok (.lload_n 3, 1) := by decide +kernel
theorem dX0_reserve_15 : decode cX0_reserve 15 = .ok (.invokestatic 41, 3) := by decide +kernel
theorem dX0_reserve_18 : decode cX0_reserve 18 = .ok (.ifCond .ne 13, 3) := by decide +kernel
theorem dX0_reserve_21 : decode cX0_reserve 21 = .ok (.new 49, 3) := by decide +kernel
theorem dX0_reserve_24 : decode cX0_reserve 24 = .ok (.dup, 1) := by decide +kernel
theorem dX0_reserve_25 : decode cX0_reserve 25 = .ok (.ldc 96, 2) := by decide +kernel
theorem dX0_reserve_27 : decode cX0_reserve 27 = .ok (.invokespecial 53, 3) := by decide +kernel
theorem dX0_reserve_30 : decode cX0_reserve 30 = .ok (.athrow, 1) := by decide +kernel
theorem dX0_reserve_31 : decode cX0_reserve 31 = .ok (.aload_n 0, 1) := by decide +kernel
theorem dX0_reserve_32 : decode cX0_reserve 32 = .ok (.getfield 98, 3) := by decide +kernel
theorem dX0_reserve_35 : decode cX0_reserve 35 = .ok (.bipush 60, 2) := by decide +kernel
theorem dX0_reserve_37 : decode cX0_reserve 37 = .ok (.if_icmp .lt 13, 3) := by decide +kernel
theorem dX0_reserve_40 : decode cX0_reserve 40 = .ok (.new 60, 3) := by decide +kernel
theorem dX0_reserve_43 : decode cX0_reserve 43 = .ok (.dup, 1) := by decide +kernel
theorem dX0_reserve_44 : decode cX0_reserve 44 = .ok (.ldc 101, 2) := by decide +kernel
theorem dX0_reserve_46 : decode cX0_reserve 46 = .ok (.invokespecial 64, 3) := by decide +kernel
theorem dX0_reserve_49 : decode cX0_reserve 49 = .ok (.athrow, 1) := by decide +kernel
theorem dX0_reserve_50 : decode cX0_reserve 50 = .ok (.aload_n 0, 1) := by decide +kernel
theorem dX0_reserve_51 : decode cX0_reserve 51 = .ok (.iload_n 2, 1) := by decide +kernel
theorem dX0_reserve_52 : decode cX0_reserve 52 = .ok (.lload_n 3, 1) := by decide +kernel
theorem dX0_reserve_53 : decode cX0_reserve 53 = .ok (.invokevirtual 103, 3) := by decide +kernel
theorem dX0_reserve_56 : decode cX0_reserve 56 = .ok (.ifCond .ne 14, 3) := by decide +kernel
theorem dX0_reserve_59 : decode cX0_reserve 59 = .ok (.ldc2_w 107, 3) := by decide +kernel
theorem dX0_reserve_62 : decode cX0_reserve 62 = .ok (.aload_n 0, 1) := by decide +kernel
theorem dX0_reserve_63 : decode cX0_reserve 63 = .ok (.iload_n 2, 1) := by decide +kernel
theorem dX0_reserve_64 : decode cX0_reserve 64 = .ok (.invokevirtual 109, 3) := by decide +kernel
theorem dX0_reserve_67 : decode cX0_reserve 67 = .ok (.lsub, 1) := by decide +kernel
theorem dX0_reserve_68 : decode cX0_reserve 68 = .ok (.l2i, 1) := by decide +kernel
theorem dX0_reserve_69 : decode cX0_reserve 69 = .ok (.ireturn, 1) := by decide +kernel
theorem dX0_reserve_70 : decode cX0_reserve 70 = .ok (.aload_n 0, 1) := by decide +kernel
theorem dX0_reserve_71 : decode cX0_reserve 71 = .ok (.getfield 24, 3) := by decide +kernel
theorem dX0_reserve_74 : decode cX0_reserve 74 = .ok (.iload_n 1, 1) := by decide +kernel
theorem dX0_reserve_75 : decode cX0_reserve 75 = .ok (.baload, 1) := by decide +kernel
theorem dX0_reserve_76 : decode cX0_reserve 76 = .ok (.ifCond .eq 22, 3) := by decide +kernel
theorem dX0_reserve_79 : decode cX0_reserve 79 = .ok (.aload_n 0, 1) := by decide +kernel
theorem dX0_reserve_80 : decode cX0_reserve 80 = .ok (.getfield 24, 3) := by decide +kernel
theorem dX0_reserve_83 : decode cX0_reserve 83 = .ok (.iload_n 1, 1) := by decide +kernel
theorem dX0_reserve_84 : decode cX0_reserve 84 = .ok (.iconst 0, 1) := by decide +kernel
theorem dX0_reserve_85 : decode cX0_reserve 85 = .ok (.bastore, 1) := by decide +kernel
theorem dX0_reserve_86 : decode cX0_reserve 86 = .ok (.aload_n 0, 1) := by decide +kernel
theorem dX0_reserve_87 : decode cX0_reserve 87 = .ok (.getfield 28, 3) := by decide +kernel
theorem dX0_reserve_90 : decode cX0_reserve 90 = .ok (.iload_n 1, 1) := by decide +kernel
theorem dX0_reserve_91 : decode cX0_reserve 91 = .ok (.dup2, 1) := by decide +kernel
theorem dX0_reserve_92 : decode cX0_reserve 92 = .ok (.iaload, 1) := by decide +kernel
theorem dX0_reserve_93 : decode cX0_reserve 93 = .ok (.iconst 1, 1) := by decide +kernel
theorem dX0_reserve_94 : decode cX0_reserve 94 = .ok (.iadd, 1) := by decide +kernel
theorem dX0_reserve_95 : decode cX0_reserve 95 = .ok (.iastore, 1) := by decide +kernel
theorem dX0_reserve_96 : decode cX0_reserve 96 = .ok (.iconst (-1), 1) := by decide +kernel
theorem dX0_reserve_97 : decode cX0_reserve 97 = .ok (.ireturn, 1) := by decide +kernel
theorem dX0_reserve_98 : decode cX0_reserve 98 = .ok (.aload_n 0, 1) := by decide +kernel
theorem dX0_reserve_99 : decode cX0_reserve 99 = .ok (.invokevirtual 113, 3) := by decide +kernel
theorem dX0_reserve_102 : decode cX0_reserve 102 = .ok (.ireturn, 1) := by decide +kernel
theorem dX0_end_0 : decode cX0_end 0 = .ok (.aload_n 0, 1) := by decide +kernel
theorem dX0_end_1 : decode cX0_end 1 = .ok (.iload_n 1, 1) := by decide +kernel
theorem dX0_end_2 : decode cX0_end 2 = .ok (.invokevirtual 117, 3) := by decide +kernel
theorem dX0_end_5 : decode cX0_end 5 = .ok (.astore_n 3, 1) := by decide +kernel
theorem dX0_end_6 : decode cX0_end 6 = .ok (.aload_n 3, 1) := by decide +kernel
theorem dX0_end_7 : decode cX0_end 7 = .ok (.ifnull 13, 3) := by decide +kernel
theorem dX0_end_10 : decode cX0_end 10 = .ok (.iload_n 2, 1) := by decide +kernel
theorem dX0_end_11 : decode cX0_end 11 = .ok (.iconst 1, 1) := by decide +kernel
theorem dX0_end_12 : decode cX0_end 12 = .ok (.if_icmp .eq 18, 3) := by decide +kernel
theorem dX0_end_15 : decode cX0_end 15 = .ok (.iload_n 2, 1) := by decide +kernel
theorem dX0_end_16 : decode cX0_end 16 = .ok (.iconst 2, 1) := by decide +kernel
theorem dX0_end_17 : decode cX0_end 17 = .ok (.if_icmp .eq 13, 3) := by decide +kernel
theorem dX0_end_20 : decode cX0_end 20 = .ok (.new 49, 3) := by decide +kernel
theorem dX0_end_23 : decode cX0_end 23 = .ok (.dup, 1) := by decide +kernel
theorem dX0_end_24 : decode cX0_end 24 = .ok (.ldc 121, 2) := by decide +kernel
theorem dX0_end_26 : decode cX0_end 26 = .ok (.invokespecial 53, 3) := by decide +kernel
theorem dX0_end_29 : decode cX0_end 29 = .ok (.athrow, 1) := by decide +kernel
theorem dX0_end_30 : decode cX0_end 30 = .ok (.aload_n 3, 1) := by decide +kernel
theorem dX0_end_31 : decode cX0_end 31 = .ok (.getfield 123, 3) := by decide +kernel
theorem dX0_end_34 : decode cX0_end 34 = .ok (.ifCond .eq 5, 3) := by decide +kernel
theorem dX0_end_37 : decode cX0_end 37 = .ok (.iconst 0, 1) := by decide +kernel
theorem dX0_end_38 : decode cX0_end 38 = .ok (.ireturn, 1) := by decide +kernel
theorem dX0_end_39 : decode cX0_end 39 = .ok (.aload_n 3, 1) := by decide +kernel
theorem dX0_end_40 : decode cX0_end 40 = .ok (.invokevirtual 126, 3) := by decide +kernel
theorem dX0_end_43 : decode cX0_end 43 = .ok (.aload_n 0, 1) := by decide +kernel
theorem dX0_end_44 : decode cX0_end 44 = .ok (.aload_n 3, 1) := by decide +kernel
theorem dX0_end_45 : decode cX0_end 45 = .ok (.iload_n 2, 1) := by decide +kernel
theorem dX0_end_46 : decode cX0_end 46 = .ok (.invokevirtual 129, 3) := by decide +kernel
theorem dX0_end_49 : decode cX0_end 49 = .ok (.iconst 1, 1) := by decide +kernel
theorem dX0_end_50 : decode cX0_end 50 = .ok (.ireturn, 1) := by decide +kernel
theorem dX0_reduce_0 : decode cX0_reduce 0 = .ok (.aload_n 0, 1) := by decide +kernel
theorem dX0_reduce_1 : decode cX0_reduce 1 = .ok (.iload_n 1, 1) := by decide +kernel
theorem dX0_reduce_2 : decode cX0_reduce 2 = .ok (.invokevirtual 117, 3) := by decide +kernel
theorem dX0_reduce_5 : decode cX0_reduce 5 = .ok (.astore 4, 2) := by decide +kernel
theorem dX0_reduce_7 : decode cX0_reduce 7 = .ok (.aload 4, 2) := by decide +kernel
theorem dX0_reduce_9 : decode cX0_reduce 9 = .ok (.ifnull 9, 3) := by decide +kernel
theorem dX0_reduce_12 : decode cX0_reduce 12 = .ok (.lload_n 2, 1) := by decide +kernel
theorem dX0_reduce_13 : decode cX0_reduce 13 = .ok (.lconst 1, 1) := by decide +kernel
theorem dX0_reduce_14 : decode cX0_reduce 14 = .ok (.lcmp, 1) := by decide +kernel
theorem dX0_reduce_15 : decode cX0_reduce 15 = .ok (.ifCond .ge 13, 3) := by decide +kernel
theorem dX0_reduce_18 : decode cX0_reduce 18 = .ok (.new 49, 3) := by decide +kernel
theorem dX0_reduce_21 : decode cX0_reduce 21 = .ok (.dup, 1) := by decide +kernel
theorem dX0_reduce_22 : decode cX0_reduce 22 = .ok (.ldc 133, 2) := by decide +kernel
theorem dX0_reduce_24 : decode cX0_reduce 24 = .ok (.invokespecial 53, 3) := by decide +kernel
theorem dX0_reduce_27 : decode cX0_reduce 27 = .ok (.athrow, 1) := by decide +kernel
theorem dX0_reduce_28 : decode cX0_reduce 28 = .ok (.aload 4, 2) := by decide +kernel
theorem dX0_reduce_30 : decode cX0_reduce 30 = .ok (.getfield 123, 3) := by decide +kernel
theorem dX0_reduce_33 : decode cX0_reduce 33 = .ok (.ifCond .ne 13, 3) := by decide +kernel
theorem dX0_reduce_36 : decode cX0_reduce 36 = .ok (.aload 4, 2) := by decide +kernel
theorem dX0_reduce_38 : decode cX0_reduce 38 = .ok (.invokevirtual 135, 3) := by decide +kernel
theorem dX0_reduce_41 : decode cX0_reduce 41 = .ok (.lload_n 2, 1) := by decide +kernel
theorem dX0_reduce_42 : decode cX0_reduce 42 = .ok (.lcmp, 1) := by decide +kernel
theorem dX0_reduce_43 : decode cX0_reduce 43 = .ok (.ifCond .gt 7, 3) := by decide +kernel
theorem dX0_reduce_46 : decode cX0_reduce 46 = .ok (.ldc2_w 139, 3) := by decide +kernel
theorem dX0_reduce_49 : decode cX0_reduce 49 = .ok (.lreturn, 1) := by decide +kernel
theorem dX0_reduce_50 : decode cX0_reduce 50 = .ok (.aload 4, 2) := by decide +kernel
theorem dX0_reduce_52 : decode cX0_reduce 52 = .ok (.lload_n 2, 1) := by decide +kernel
theorem dX0_reduce_53 : decode cX0_reduce 53 = .ok (.invokevirtual 141, 3) := by decide +kernel
theorem dX0_reduce_56 : decode cX0_reduce 56 = .ok (.aload 4, 2) := by decide +kernel
theorem dX0_reduce_58 : decode cX0_reduce 58 = .ok (.invokevirtual 135, 3) := by decide +kernel
theorem dX0_reduce_61 : decode cX0_reduce 61 = .ok (.lreturn, 1) := by decide +kernel
theorem dX0_claim_0 : decode cX0_claim 0 = .ok (.aload_n 0, 1) := by decide +kernel
theorem dX0_claim_1 : decode cX0_claim 1 = .ok (.iload_n 1, 1) := by decide +kernel
theorem dX0_claim_2 : decode cX0_claim 2 = .ok (.invokevirtual 117, 3) := by decide +kernel
theorem dX0_claim_5 : decode cX0_claim 5 = .ok (.astore 4, 2) := by decide +kernel
theorem dX0_claim_7 : decode cX0_claim 7 = .ok (.aload 4, 2) := by decide +kernel
theorem dX0_claim_9 : decode cX0_claim 9 = .ok (.ifnull 9, 3) := by decide +kernel
theorem dX0_claim_12 : decode cX0_claim 12 = .ok (.lload_n 2, 1) := by decide +kernel
theorem dX0_claim_13 : decode cX0_claim 13 = .ok (.lconst 1, 1) := by decide +kernel
theorem dX0_claim_14 : decode cX0_claim 14 = .ok (.lcmp, 1) := by decide +kernel
theorem dX0_claim_15 : decode cX0_claim 15 = .ok (.ifCond .ge 13, 3) := by decide +kernel
theorem dX0_claim_18 : decode cX0_claim 18 = .ok (.new 49, 3) := by decide +kernel
theorem dX0_claim_21 : decode cX0_claim 21 = .ok (.dup, 1) := by decide +kernel
theorem dX0_claim_22 : decode cX0_claim 22 = .ok (.ldc 133, 2) := by decide +kernel
theorem dX0_claim_24 : decode cX0_claim 24 = .ok (.invokespecial 53, 3) := by decide +kernel
theorem dX0_claim_27 : decode cX0_claim 27 = .ok (.athrow, 1) := by decide +kernel
theorem dX0_claim_28 : decode cX0_claim 28 = .ok (.aload 4, 2) := by decide +kernel
theorem dX0_claim_30 : decode cX0_claim 30 = .ok (.getfield 123, 3) := by decide +kernel
theorem dX0_claim_33 : decode cX0_claim 33 = .ok (.ifCond .ne 13, 3) := by decide +kernel
theorem dX0_claim_36 : decode cX0_claim 36 = .ok (.aload 4, 2) := by decide +kernel
theorem dX0_claim_38 : decode cX0_claim 38 = .ok (.invokevirtual 135, 3) := by decide +kernel
theorem dX0_claim_41 : decode cX0_claim 41 = .ok (.lload_n 2, 1) := by decide +kernel
theorem dX0_claim_42 : decode cX0_claim 42 = .ok (.lcmp, 1) := by decide +kernel
theorem dX0_claim_43 : decode cX0_claim 43 = .ok (.ifCond .ge 7, 3) := by decide +kernel
theorem dX0_claim_46 : decode cX0_claim 46 = .ok (.ldc2_w 139, 3) := by decide +kernel
theorem dX0_claim_49 : decode cX0_claim 49 = .ok (.lreturn, 1) := by decide +kernel
theorem dX0_claim_50 : decode cX0_claim 50 = .ok (.aload 4, 2) := by decide +kernel
theorem dX0_claim_52 : decode cX0_claim 52 = .ok (.lload_n 2, 1) := by decide +kernel
theorem dX0_claim_53 : decode cX0_claim 53 = .ok (.aload_n 0, 1) := by decide +kernel
theorem dX0_claim_54 : decode cX0_claim 54 = .ok (.getfield 72, 3) := by decide +kernel
theorem dX0_claim_57 : decode cX0_claim 57 = .ok (.invokevirtual 145, 3) := by decide +kernel
theorem dX0_claim_60 : decode cX0_claim 60 = .ok (.lstore 5, 2) := by decide +kernel
theorem dX0_claim_62 : decode cX0_claim 62 = .ok (.aload 4, 2) := by decide +kernel
theorem dX0_claim_64 : decode cX0_claim 64 = .ok (.invokevirtual 126, 3) := by decide +kernel
theorem dX0_claim_67 : decode cX0_claim 67 = .ok (.aload_n 0, 1) := by decide +kernel
theorem dX0_claim_68 : decode cX0_claim 68 = .ok (.aload 4, 2) := by decide +kernel
theorem dX0_claim_70 : decode cX0_claim 70 = .ok (.iconst 3, 1) := by decide +kernel
theorem dX0_claim_71 : decode cX0_claim 71 = .ok (.invokevirtual 129, 3) := by decide +kernel
theorem dX0_claim_74 : decode cX0_claim 74 = .ok (.lload 5, 2) := by decide +kernel
theorem dX0_claim_76 : decode cX0_claim 76 = .ok (.lreturn, 1) := by decide +kernel
theorem dX0_close_0 : decode cX0_close 0 = .ok (.aload_n 0, 1) := by decide +kernel
theorem dX0_close_1 : decode cX0_close 1 = .ok (.iload_n 1, 1) := by decide +kernel
theorem dX0_close_2 : decode cX0_close 2 = .ok (.invokevirtual 83, 3) := by decide +kernel
theorem dX0_close_5 : decode cX0_close 5 = .ok (.astore_n 2, 1) := by decide +kernel
theorem dX0_close_6 : decode cX0_close 6 = .ok (.aload_n 2, 1) := by decide +kernel
theorem dX0_close_7 : decode cX0_close 7 = .ok (.ifnull 10, 3) := by decide +kernel
theorem dX0_close_10 : decode cX0_close 10 = .ok (.aload_n 2, 1) := by decide +kernel
theorem dX0_close_11 : decode cX0_close 11 = .ok (.getfield 149, 3) := by decide +kernel
theorem dX0_close_14 : decode cX0_close 14 = .ok (.ifCond .eq 5, 3) := by decide +kernel
theorem dX0_close_17 : decode cX0_close 17 = .ok (.iconst 0, 1) := by decide +kernel
theorem dX0_close_18 : decode cX0_close 18 = .ok (.ireturn, 1) := by decide +kernel
theorem dX0_close_19 : decode cX0_close 19 = .ok (.aload_n 2, 1) := by decide +kernel
theorem dX0_close_20 : decode cX0_close 20 = .ok (.aload_n 0, 1) := by decide +kernel
theorem dX0_close_21 : decode cX0_close 21 = .ok (.getfield 72, 3) := by decide +kernel
theorem dX0_close_24 : decode cX0_close 24 = .ok (.invokevirtual 153, 3) := by decide +kernel
theorem dX0_close_27 : decode cX0_close 27 = .ok (.iconst 1, 1) := by decide +kernel
theorem dX0_close_28 : decode cX0_close 28 = .ok (.ireturn, 1) := by decide +kernel
theorem dX0_fails_0 : decode cX0_fails 0 = .ok (.iload_n 1, 1) := by decide +kernel
theorem dX0_fails_1 : decode cX0_fails 1 = .ok (.invokestatic 93, 3) := by decide +kernel
theorem dX0_fails_4 : decode cX0_fails 4 = .ok (.ifCond .eq 13, 3) := by decide +kernel
theorem dX0_fails_7 : decode cX0_fails 7 = .ok (.aload_n 0, 1) := by decide +kernel
theorem dX0_fails_8 : decode cX0_fails 8 = .ok (.getfield 24, 3) := by decide +kernel
theorem dX0_fails_11 : decode cX0_fails 11 = .ok (.iload_n 1, 1) := by decide +kernel
theorem dX0_fails_12 : decode cX0_fails 12 = .ok (.baload, 1) := by decide +kernel
theorem dX0_fails_13 : decode cX0_fails 13 = .ok (.iload_n 2, 1) := by decide +kernel
theorem dX0_fails_14 : decode cX0_fails 14 = .ok (.if_icmp .ne 5, 3) := by decide +kernel
theorem dX0_fails_17 : decode cX0_fails 17 = .ok (.iconst 0, 1) := by decide +kernel
theorem dX0_fails_18 : decode cX0_fails 18 = .ok (.ireturn, 1) := by decide +kernel
theorem dX0_fails_19 : decode cX0_fails 19 = .ok (.aload_n 0, 1) := by decide +kernel
theorem dX0_fails_20 : decode cX0_fails 20 = .ok (.getfield 24, 3) := by decide +kernel
theorem dX0_fails_23 : decode cX0_fails 23 = .ok (.iload_n 1, 1) := by decide +kernel
theorem dX0_fails_24 : decode cX0_fails 24 = .ok (.iload_n 2, 1) := by decide +kernel
theorem dX0_fails_25 : decode cX0_fails 25 = .ok (.bastore, 1) := by decide +kernel
theorem dX0_fails_26 : decode cX0_fails 26 = .ok (.iconst 1, 1) := by decide +kernel
theorem dX0_fails_27 : decode cX0_fails 27 = .ok (.ireturn, 1) := by decide +kernel
theorem dX0_tick_0 : decode cX0_tick 0 = .ok (.iload_n 1, 1) := by decide +kernel
theorem dX0_tick_1 : decode cX0_tick 1 = .ok (.aload_n 0, 1) := by decide +kernel
theorem dX0_tick_2 : decode cX0_tick 2 = .ok (.getfield 72, 3) := by decide +kernel
theorem dX0_tick_5 : decode cX0_tick 5 = .ok (.if_icmp .lt 9, 3) := by decide +kernel
theorem dX0_tick_8 : decode cX0_tick 8 = .ok (.iload_n 1, 1) := by decide +kernel
theorem dX0_tick_9 : decode cX0_tick 9 = .ok (.ldc 157, 2) := by decide +kernel
theorem dX0_tick_11 : decode cX0_tick 11 = .ok (.if_icmp .le 5, 3) := by decide +kernel
theorem dX0_tick_14 : decode cX0_tick 14 = .ok (.iconst 0, 1) := by decide +kernel
theorem dX0_tick_15 : decode cX0_tick 15 = .ok (.ireturn, 1) := by decide +kernel
theorem dX0_tick_16 : decode cX0_tick 16 = .ok (.aload_n 0, 1) := by decide +kernel
theorem dX0_tick_17 : decode cX0_tick 17 = .ok (.iload_n 1, 1) := by decide +kernel
theorem dX0_tick_18 : decode cX0_tick 18 = .ok (.putfield 72, 3) := by decide +kernel
theorem dX0_tick_21 : decode cX0_tick 21 = .ok (.iconst 1, 1) := by decide +kernel
theorem dX0_tick_22 : decode cX0_tick 22 = .ok (.ireturn, 1) := by decide +kernel
theorem dX0_interest_0 : decode cX0_interest 0 = .ok (.aload_n 0, 1) := by decide +kernel
theorem dX0_interest_1 : decode cX0_interest 1 = .ok (.iload_n 1, 1) := by decide +kernel
theorem dX0_interest_2 : decode cX0_interest 2 = .ok (.invokevirtual 83, 3) := by decide +kernel
theorem dX0_interest_5 : decode cX0_interest 5 = .ok (.astore_n 2, 1) := by decide +kernel
theorem dX0_interest_6 : decode cX0_interest 6 = .ok (.aload_n 2, 1) := by decide +kernel
theorem dX0_interest_7 : decode cX0_interest 7 = .ok (.ifnonnull 13, 3) := by decide +kernel
theorem dX0_interest_10 : decode cX0_interest 10 = .ok (.new 49, 3) := by decide +kernel
theorem dX0_interest_13 : decode cX0_interest 13 = .ok (.dup, 1) := by decide +kernel
theorem dX0_interest_14 : decode cX0_interest 14 = .ok (.ldc 158, 2) := by decide +kernel
theorem dX0_interest_16 : decode cX0_interest 16 = .ok (.invokespecial 53, 3) := by decide +kernel
theorem dX0_interest_19 : decode cX0_interest 19 = .ok (.athrow, 1) := by decide +kernel
theorem dX0_interest_20 : decode cX0_interest 20 = .ok (.aload_n 2, 1) := by decide +kernel
theorem dX0_interest_21 : decode cX0_interest 21 = .ok (.getfield 160, 3) := by decide +kernel
theorem dX0_interest_24 : decode cX0_interest 24 = .ok (.aload_n 0, 1) := by decide +kernel
theorem dX0_interest_25 : decode cX0_interest 25 = .ok (.getfield 72, 3) := by decide +kernel
theorem dX0_interest_28 : decode cX0_interest 28 = .ok (.aload_n 2, 1) := by decide +kernel
theorem dX0_interest_29 : decode cX0_interest 29 = .ok (.getfield 164, 3) := by decide +kernel
theorem dX0_interest_32 : decode cX0_interest 32 = .ok (.invokevirtual 168, 3) := by decide +kernel
theorem dX0_interest_35 : decode cX0_interest 35 = .ok (.lreturn, 1) := by decide +kernel
theorem dX0_free_0 : decode cX0_free 0 = .ok (.iload_n 1, 1) := by decide +kernel
theorem dX0_free_1 : decode cX0_free 1 = .ok (.invokestatic 37, 3) := by decide +kernel
theorem dX0_free_4 : decode cX0_free 4 = .ok (.ifCond .eq 11, 3) := by decide +kernel
theorem dX0_free_7 : decode cX0_free 7 = .ok (.aload_n 0, 1) := by decide +kernel
theorem dX0_free_8 : decode cX0_free 8 = .ok (.iload_n 1, 1) := by decide +kernel
theorem dX0_free_9 : decode cX0_free 9 = .ok (.invokevirtual 109, 3) := by decide +kernel
theorem dX0_free_12 : decode cX0_free 12 = .ok (.goto 6, 3) := by decide +kernel
theorem dX0_free_15 : decode cX0_free 15 = .ok (.ldc2_w 139, 3) := by decide +kernel
theorem dX0_free_18 : decode cX0_free 18 = .ok (.lreturn, 1) := by decide +kernel
theorem dX0_list_0 : decode cX0_list 0 = .ok (.iload_n 1, 1) := by decide +kernel
theorem dX0_list_1 : decode cX0_list 1 = .ok (.invokestatic 37, 3) := by decide +kernel
theorem dX0_list_4 : decode cX0_list 4 = .ok (.ifCond .eq 7, 3) := by decide +kernel
theorem dX0_list_7 : decode cX0_list 7 = .ok (.iload_n 2, 1) := by decide +kernel
theorem dX0_list_8 : decode cX0_list 8 = .ok (.ifCond .ge 5, 3) := by decide +kernel
theorem dX0_list_11 : decode cX0_list 11 = .ok (.iconst (-1), 1) := by decide +kernel
theorem dX0_list_12 : decode cX0_list 12 = .ok (.ireturn, 1) := by decide +kernel
theorem dX0_list_13 : decode cX0_list 13 = .ok (.iconst 0, 1) := by decide +kernel
theorem dX0_list_14 : decode cX0_list 14 = .ok (.istore_n 3, 1) := by decide +kernel
theorem dX0_list_15 : decode cX0_list 15 = .ok (.aload_n 0, 1) := by decide +kernel
theorem dX0_list_16 : decode cX0_list 16 = .ok (.getfield 15, 3) := by decide +kernel
theorem dX0_list_19 : decode cX0_list 19 = .ok (.iload_n 1, 1) := by decide +kernel
theorem dX0_list_20 : decode cX0_list 20 = .ok (.aaload, 1) := by decide +kernel
theorem dX0_list_21 : decode cX0_list 21 = .ok (.astore 4, 2) := by decide +kernel
theorem dX0_list_23 : decode cX0_list 23 = .ok (.aload 4, 2) := by decide +kernel
theorem dX0_list_25 : decode cX0_list 25 = .ok (.ifnull 27, 3) := by decide +kernel
theorem dX0_list_28 : decode cX0_list 28 = .ok (.iload_n 3, 1) := by decide +kernel
theorem dX0_list_29 : decode cX0_list 29 = .ok (.iload_n 2, 1) := by decide +kernel
theorem dX0_list_30 : decode cX0_list 30 = .ok (.if_icmp .ne 9, 3) := by decide +kernel
theorem dX0_list_33 : decode cX0_list 33 = .ok (.aload 4, 2) := by decide +kernel
theorem dX0_list_35 : decode cX0_list 35 = .ok (.getfield 172, 3) := by decide +kernel
theorem dX0_list_38 : decode cX0_list 38 = .ok (.ireturn, 1) := by decide +kernel
theorem dX0_list_39 : decode cX0_list 39 = .ok (.iinc 3 1, 3) := by decide +kernel
theorem dX0_list_42 : decode cX0_list 42 = .ok (.aload 4, 2) := by decide +kernel
theorem dX0_list_44 : decode cX0_list 44 = .ok (.getfield 175, 3) := by decide +kernel
theorem dX0_list_47 : decode cX0_list 47 = .ok (.astore 4, 2) := by decide +kernel
theorem dX0_list_49 : decode cX0_list 49 = .ok (.goto (-26), 3) := by decide +kernel
theorem dX0_list_52 : decode cX0_list 52 = .ok (.iconst (-1), 1) := by decide +kernel
theorem dX0_list_53 : decode cX0_list 53 = .ok (.ireturn, 1) := by decide +kernel
theorem dX0_look_0 : decode cX0_look 0 = .ok (.aload_n 0, 1) := by decide +kernel
theorem dX0_look_1 : decode cX0_look 1 = .ok (.iload_n 1, 1) := by decide +kernel
theorem dX0_look_2 : decode cX0_look 2 = .ok (.invokevirtual 83, 3) := by decide +kernel
theorem dX0_look_5 : decode cX0_look 5 = .ok (.astore_n 3, 1) := by decide +kernel
theorem dX0_look_6 : decode cX0_look 6 = .ok (.aload_n 3, 1) := by decide +kernel
theorem dX0_look_7 : decode cX0_look 7 = .ok (.ifnonnull 13, 3) := by decide +kernel
theorem dX0_look_10 : decode cX0_look 10 = .ok (.new 179, 3) := by decide +kernel
theorem dX0_look_13 : decode cX0_look 13 = .ok (.dup, 1) := by decide +kernel
theorem dX0_look_14 : decode cX0_look 14 = .ok (.ldc 158, 2) := by decide +kernel
theorem dX0_look_16 : decode cX0_look 16 = .ok (.invokespecial 181, 3) := by decide +kernel
theorem dX0_look_19 : decode cX0_look 19 = .ok (.athrow, 1) := by decide +kernel
theorem dX0_look_20 : decode cX0_look 20 = .ok (.iload_n 2, 1) := by decide +kernel
theorem dX0_look_21 : decode cX0_look 21 = .ok (.tableswitch 106 0 8 #[51, 57, 62, 67, 72, 77, 83, 96, 101], 51) := by decide +kernel
theorem dX0_look_72 : decode cX0_look 72 = .ok (.aload_n 3, 1) := by decide +kernel
theorem dX0_look_73 : decode cX0_look 73 = .ok (.getfield 87, 3) := by decide +kernel
theorem dX0_look_76 : decode cX0_look 76 = .ok (.i2l, 1) := by decide +kernel
theorem dX0_look_77 : decode cX0_look 77 = .ok (.lreturn, 1) := by decide +kernel
theorem dX0_look_78 : decode cX0_look 78 = .ok (.aload_n 3, 1) := by decide +kernel
theorem dX0_look_79 : decode cX0_look 79 = .ok (.getfield 164, 3) := by decide +kernel
theorem dX0_look_82 : decode cX0_look 82 = .ok (.lreturn, 1) := by decide +kernel
theorem dX0_look_83 : decode cX0_look 83 = .ok (.aload_n 3, 1) := by decide +kernel
theorem dX0_look_84 : decode cX0_look 84 = .ok (.getfield 182, 3) := by decide +kernel
theorem dX0_look_87 : decode cX0_look 87 = .ok (.lreturn, 1) := by decide +kernel
theorem dX0_look_88 : decode cX0_look 88 = .ok (.aload_n 3, 1) := by decide +kernel
theorem dX0_look_89 : decode cX0_look 89 = .ok (.invokevirtual 185, 3) := by decide +kernel
theorem dX0_look_92 : decode cX0_look 92 = .ok (.lreturn, 1) := by decide +kernel
theorem dX0_look_93 : decode cX0_look 93 = .ok (.aload_n 3, 1) := by decide +kernel
theorem dX0_look_94 : decode cX0_look 94 = .ok (.invokevirtual 188, 3) := by decide +kernel
theorem dX0_look_97 : decode cX0_look 97 = .ok (.lreturn, 1) := by decide +kernel
theorem dX0_look_98 : decode cX0_look 98 = .ok (.aload_n 3, 1) := by decide +kernel
theorem dX0_look_99 : decode cX0_look 99 = .ok (.getfield 191, 3) := by decide +kernel
theorem dX0_look_102 : decode cX0_look 102 = .ok (.i2l, 1) := by decide +kernel
theorem dX0_look_103 : decode cX0_look 103 = .ok (.lreturn, 1) := by decide +kernel
theorem dX0_look_104 : decode cX0_look 104 = .ok (.aload_n 3, 1) := by decide +kernel
theorem dX0_look_105 : decode cX0_look 105 = .ok (.getfield 149, 3) := by decide +kernel
theorem dX0_look_108 : decode cX0_look 108 = .ok (.ifCond .eq 7, 3) := by decide +kernel
theorem dX0_look_111 : decode cX0_look 111 = .ok (.lconst 1, 1) := by decide +kernel
theorem dX0_look_112 : decode cX0_look 112 = .ok (.goto 4, 3) := by decide +kernel
theorem dX0_look_115 : decode cX0_look 115 = .ok (.lconst 0, 1) := by decide +kernel
theorem dX0_look_116 : decode cX0_look 116 = .ok (.lreturn, 1) := by decide +kernel
theorem dX0_look_117 : decode cX0_look 117 = .ok (.aload_n 3, 1) := by decide +kernel
theorem dX0_look_118 : decode cX0_look 118 = .ok (.invokevirtual 194, 3) := by decide +kernel
theorem dX0_look_121 : decode cX0_look 121 = .ok (.lreturn, 1) := by decide +kernel
theorem dX0_look_122 : decode cX0_look 122 = .ok (.aload_n 3, 1) := by decide +kernel
theorem dX0_look_123 : decode cX0_look 123 = .ok (.getfield 197, 3) := by decide +kernel
theorem dX0_look_126 : decode cX0_look 126 = .ok (.lreturn, 1) := by decide +kernel
theorem dX0_look_127 : decode cX0_look 127 = .ok (.new 179, 3) := by decide +kernel
theorem dX0_look_130 : decode cX0_look 130 = .ok (.dup, 1) := by decide +kernel
theorem dX0_look_131 : decode cX0_look 131 = .ok (.ldc 200, 2) := by decide +kernel
theorem dX0_look_133 : decode cX0_look 133 = .ok (.invokespecial 181, 3) := by decide +kernel
theorem dX0_look_136 : decode cX0_look 136 = .ok (.athrow, 1) := by decide +kernel
theorem dX0_of_0 : decode cX0_of 0 = .ok (.aload_n 0, 1) := by decide +kernel
theorem dX0_of_1 : decode cX0_of 1 = .ok (.iload_n 1, 1) := by decide +kernel
theorem dX0_of_2 : decode cX0_of 2 = .ok (.invokevirtual 117, 3) := by decide +kernel
theorem dX0_of_5 : decode cX0_of 5 = .ok (.astore_n 3, 1) := by decide +kernel
theorem dX0_of_6 : decode cX0_of 6 = .ok (.aload_n 3, 1) := by decide +kernel
theorem dX0_of_7 : decode cX0_of 7 = .ok (.ifnonnull 13, 3) := by decide +kernel
theorem dX0_of_10 : decode cX0_of 10 = .ok (.new 179, 3) := by decide +kernel
theorem dX0_of_13 : decode cX0_of 13 = .ok (.dup, 1) := by decide +kernel
theorem dX0_of_14 : decode cX0_of 14 = .ok (.ldc 202, 2) := by decide +kernel
theorem dX0_of_16 : decode cX0_of 16 = .ok (.invokespecial 181, 3) := by decide +kernel
theorem dX0_of_19 : decode cX0_of 19 = .ok (.athrow, 1) := by decide +kernel
theorem dX0_of_20 : decode cX0_of 20 = .ok (.aload_n 3, 1) := by decide +kernel
theorem dX0_of_21 : decode cX0_of 21 = .ok (.iload_n 2, 1) := by decide +kernel
theorem dX0_of_22 : decode cX0_of 22 = .ok (.iconst 5, 1) := by decide +kernel
theorem dX0_of_23 : decode cX0_of 23 = .ok (.isub, 1) := by decide +kernel
theorem dX0_of_24 : decode cX0_of 24 = .ok (.invokevirtual 204, 3) := by decide +kernel
theorem dX0_of_27 : decode cX0_of 27 = .ok (.ifCond .eq 12, 3) := by decide +kernel
theorem dX0_of_30 : decode cX0_of 30 = .ok (.aload_n 3, 1) := by decide +kernel
theorem dX0_of_31 : decode cX0_of 31 = .ok (.iload_n 2, 1) := by decide +kernel
theorem dX0_of_32 : decode cX0_of 32 = .ok (.iconst 5, 1) := by decide +kernel
theorem dX0_of_33 : decode cX0_of 33 = .ok (.isub, 1) := by decide +kernel
theorem dX0_of_34 : decode cX0_of 34 = .ok (.invokevirtual 207, 3) := by decide +kernel
theorem dX0_of_37 : decode cX0_of 37 = .ok (.i2l, 1) := by decide +kernel
theorem dX0_of_38 : decode cX0_of 38 = .ok (.lreturn, 1) := by decide +kernel
theorem dX0_of_39 : decode cX0_of 39 = .ok (.aload_n 3, 1) := by decide +kernel
theorem dX0_of_40 : decode cX0_of 40 = .ok (.iload_n 2, 1) := by decide +kernel
theorem dX0_of_41 : decode cX0_of 41 = .ok (.bipush 9, 2) := by decide +kernel
theorem dX0_of_43 : decode cX0_of 43 = .ok (.isub, 1) := by decide +kernel
theorem dX0_of_44 : decode cX0_of 44 = .ok (.invokevirtual 204, 3) := by decide +kernel
theorem dX0_of_47 : decode cX0_of 47 = .ok (.ifCond .eq 13, 3) := by decide +kernel
theorem dX0_of_50 : decode cX0_of 50 = .ok (.aload_n 3, 1) := by decide +kernel
theorem dX0_of_51 : decode cX0_of 51 = .ok (.getfield 211, 3) := by decide +kernel
theorem dX0_of_54 : decode cX0_of 54 = .ok (.iload_n 2, 1) := by decide +kernel
theorem dX0_of_55 : decode cX0_of 55 = .ok (.bipush 9, 2) := by decide +kernel
theorem dX0_of_57 : decode cX0_of 57 = .ok (.isub, 1) := by decide +kernel
theorem dX0_of_58 : decode cX0_of 58 = .ok (.laload, 1) := by decide +kernel
theorem dX0_of_59 : decode cX0_of 59 = .ok (.lreturn, 1) := by decide +kernel
theorem dX0_of_60 : decode cX0_of 60 = .ok (.iload_n 2, 1) := by decide +kernel
theorem dX0_of_61 : decode cX0_of 61 = .ok (.tableswitch 63 0 4 #[35, 41, 46, 51, 57], 35) := by decide +kernel
theorem dX0_of_96 : decode cX0_of 96 = .ok (.aload_n 3, 1) := by decide +kernel
theorem dX0_of_97 : decode cX0_of 97 = .ok (.getfield 215, 3) := by decide +kernel
theorem dX0_of_100 : decode cX0_of 100 = .ok (.i2l, 1) := by decide +kernel
theorem dX0_of_101 : decode cX0_of 101 = .ok (.lreturn, 1) := by decide +kernel
theorem dX0_of_102 : decode cX0_of 102 = .ok (.aload_n 3, 1) := by decide +kernel
theorem dX0_of_103 : decode cX0_of 103 = .ok (.getfield 216, 3) := by decide +kernel
theorem dX0_of_106 : decode cX0_of 106 = .ok (.lreturn, 1) := by decide +kernel
theorem dX0_of_107 : decode cX0_of 107 = .ok (.aload_n 3, 1) := by decide +kernel
theorem dX0_of_108 : decode cX0_of 108 = .ok (.invokevirtual 135, 3) := by decide +kernel
theorem dX0_of_111 : decode cX0_of 111 = .ok (.lreturn, 1) := by decide +kernel
theorem dX0_of_112 : decode cX0_of 112 = .ok (.aload_n 3, 1) := by decide +kernel
theorem dX0_of_113 : decode cX0_of 113 = .ok (.getfield 123, 3) := by decide +kernel
theorem dX0_of_116 : decode cX0_of 116 = .ok (.i2l, 1) := by decide +kernel
theorem dX0_of_117 : decode cX0_of 117 = .ok (.lreturn, 1) := by decide +kernel
theorem dX0_of_118 : decode cX0_of 118 = .ok (.aload_n 3, 1) := by decide +kernel
theorem dX0_of_119 : decode cX0_of 119 = .ok (.getfield 219, 3) := by decide +kernel
theorem dX0_of_122 : decode cX0_of 122 = .ok (.i2l, 1) := by decide +kernel
theorem dX0_of_123 : decode cX0_of 123 = .ok (.lreturn, 1) := by decide +kernel
theorem dX0_of_124 : decode cX0_of 124 = .ok (.new 179, 3) := by decide +kernel
theorem dX0_of_127 : decode cX0_of 127 = .ok (.dup, 1) := by decide +kernel
theorem dX0_of_128 : decode cX0_of 128 = .ok (.ldc 222, 2) := by decide +kernel
theorem dX0_of_130 : decode cX0_of 130 = .ok (.invokespecial 181, 3) := by decide +kernel
theorem dX0_of_133 : decode cX0_of 133 = .ok (.athrow, 1) := by decide +kernel
theorem dX0_count_0 : decode cX0_count 0 = .ok (.iload_n 1, 1) := by decide +kernel
theorem dX0_count_1 : decode cX0_count 1 = .ok (.bipush 10, 2) := by decide +kernel
theorem dX0_count_3 : decode cX0_count 3 = .ok (.if_icmp .lt 23, 3) := by decide +kernel
theorem dX0_count_6 : decode cX0_count 6 = .ok (.iload_n 1, 1) := by decide +kernel
theorem dX0_count_7 : decode cX0_count 7 = .ok (.bipush 10, 2) := by decide +kernel
theorem dX0_count_9 : decode cX0_count 9 = .ok (.isub, 1) := by decide +kernel
theorem dX0_count_10 : decode cX0_count 10 = .ok (.invokestatic 93, 3) := by decide +kernel
theorem dX0_count_13 : decode cX0_count 13 = .ok (.ifCond .eq 13, 3) := by decide +kernel
theorem dX0_count_16 : decode cX0_count 16 = .ok (.aload_n 0, 1) := by decide +kernel
theorem dX0_count_17 : decode cX0_count 17 = .ok (.getfield 28, 3) := by decide +kernel
theorem dX0_count_20 : decode cX0_count 20 = .ok (.iload_n 1, 1) := by decide +kernel
theorem dX0_count_21 : decode cX0_count 21 = .ok (.bipush 10, 2) := by decide +kernel
theorem dX0_count_23 : decode cX0_count 23 = .ok (.isub, 1) := by decide +kernel
theorem dX0_count_24 : decode cX0_count 24 = .ok (.iaload, 1) := by decide +kernel
theorem dX0_count_25 : decode cX0_count 25 = .ok (.ireturn, 1) := by decide +kernel
theorem dX0_count_26 : decode cX0_count 26 = .ok (.iload_n 1, 1) := by decide +kernel
theorem dX0_count_27 : decode cX0_count 27 = .ok (.tableswitch 49 0 3 #[29, 34, 39, 44], 29) := by decide +kernel
theorem dX0_count_56 : decode cX0_count 56 = .ok (.aload_n 0, 1) := by decide +kernel
theorem dX0_count_57 : decode cX0_count 57 = .ok (.getfield 56, 3) := by decide +kernel
theorem dX0_count_60 : decode cX0_count 60 = .ok (.ireturn, 1) := by decide +kernel
theorem dX0_count_61 : decode cX0_count 61 = .ok (.aload_n 0, 1) := by decide +kernel
theorem dX0_count_62 : decode cX0_count 62 = .ok (.getfield 98, 3) := by decide +kernel
theorem dX0_count_65 : decode cX0_count 65 = .ok (.ireturn, 1) := by decide +kernel
theorem dX0_count_66 : decode cX0_count 66 = .ok (.aload_n 0, 1) := by decide +kernel
theorem dX0_count_67 : decode cX0_count 67 = .ok (.getfield 224, 3) := by decide +kernel
theorem dX0_count_70 : decode cX0_count 70 = .ok (.ireturn, 1) := by decide +kernel
theorem dX0_count_71 : decode cX0_count 71 = .ok (.aload_n 0, 1) := by decide +kernel
theorem dX0_count_72 : decode cX0_count 72 = .ok (.getfield 72, 3) := by decide +kernel
theorem dX0_count_75 : decode cX0_count 75 = .ok (.ireturn, 1) := by decide +kernel
theorem dX0_count_76 : decode cX0_count 76 = .ok (.iconst (-1), 1) := by decide +kernel
theorem dX0_count_77 : decode cX0_count 77 = .ok (.ireturn, 1) := by decide +kernel
theorem dX0_isHolder_0 : decode cX0_isHolder 0 = .ok (.iload_n 0, 1) := by decide +kernel
theorem dX0_isHolder_1 : decode cX0_isHolder 1 = .ok (.ifCond .lt 13, 3) := by decide +kernel
theorem dX0_isHolder_4 : decode cX0_isHolder 4 = .ok (.iload_n 0, 1) := by decide +kernel
theorem dX0_isHolder_5 : decode cX0_isHolder 5 = .ok (.bipush 8, 2) := by decide +kernel
theorem dX0_isHolder_7 : decode cX0_isHolder 7 = .ok (.if_icmp .ge 7, 3) := by decide +kernel
theorem dX0_isHolder_10 : decode cX0_isHolder 10 = .ok (.iconst 1, 1) := by decide +kernel
theorem dX0_isHolder_11 : decode cX0_isHolder 11 = .ok (.goto 4, 3) := by decide +kernel
theorem dX0_isHolder_14 : decode cX0_isHolder 14 = .ok (.iconst 0, 1) := by decide +kernel
theorem dX0_isHolder_15 : decode cX0_isHolder 15 = .ok (.ireturn, 1) := by decide +kernel
theorem dX0_isDesk_0 : decode cX0_isDesk 0 = .ok (.iload_n 0, 1) := by decide +kernel
theorem dX0_isDesk_1 : decode cX0_isDesk 1 = .ok (.ifCond .lt 12, 3) := by decide +kernel
theorem dX0_isDesk_4 : decode cX0_isDesk 4 = .ok (.iload_n 0, 1) := by decide +kernel
theorem dX0_isDesk_5 : decode cX0_isDesk 5 = .ok (.iconst 4, 1) := by decide +kernel
theorem dX0_isDesk_6 : decode cX0_isDesk 6 = .ok (.if_icmp .ge 7, 3) := by decide +kernel
theorem dX0_isDesk_9 : decode cX0_isDesk 9 = .ok (.iconst 1, 1) := by decide +kernel
theorem dX0_isDesk_10 : decode cX0_isDesk 10 = .ok (.goto 4, 3) := by decide +kernel
theorem dX0_isDesk_13 : decode cX0_isDesk 13 = .ok (.iconst 0, 1) := by decide +kernel
theorem dX0_isDesk_14 : decode cX0_isDesk 14 = .ok (.ireturn, 1) := by decide +kernel
theorem dX0_isCents_0 : decode cX0_isCents 0 = .ok (.lload_n 0, 1) := by decide +kernel
theorem dX0_isCents_1 : decode cX0_isCents 1 = .ok (.lconst 1, 1) := by decide +kernel
theorem dX0_isCents_2 : decode cX0_isCents 2 = .ok (.lcmp, 1) := by decide +kernel
theorem dX0_isCents_3 : decode cX0_isCents 3 = .ok (.ifCond .lt 15, 3) := by decide +kernel
theorem dX0_isCents_6 : decode cX0_isCents 6 = .ok (.lload_n 0, 1) := by decide +kernel
theorem dX0_isCents_7 : decode cX0_isCents 7 = .ok (.ldc2_w 227, 3) := by decide +kernel
theorem dX0_isCents_10 : decode cX0_isCents 10 = .ok (.lcmp, 1) := by decide +kernel
theorem dX0_isCents_11 : decode cX0_isCents 11 = .ok (.ifCond .gt 7, 3) := by decide +kernel
theorem dX0_isCents_14 : decode cX0_isCents 14 = .ok (.iconst 1, 1) := by decide +kernel
theorem dX0_isCents_15 : decode cX0_isCents 15 = .ok (.goto 4, 3) := by decide +kernel
theorem dX0_isCents_18 : decode cX0_isCents 18 = .ok (.iconst 0, 1) := by decide +kernel
theorem dX0_isCents_19 : decode cX0_isCents 19 = .ok (.ireturn, 1) := by decide +kernel
theorem dX0_isShare_0 : decode cX0_isShare 0 = .ok (.iload_n 0, 1) := by decide +kernel
theorem dX0_isShare_1 : decode cX0_isShare 1 = .ok (.ifCond .lt 23, 3) := by decide +kernel
theorem dX0_isShare_4 : decode cX0_isShare 4 = .ok (.iload_n 1, 1) := by decide +kernel
theorem dX0_isShare_5 : decode cX0_isShare 5 = .ok (.iconst 1, 1) := by decide +kernel
theorem dX0_isShare_6 : decode cX0_isShare 6 = .ok (.if_icmp .lt 18, 3) := by decide +kernel
theorem dX0_isShare_9 : decode cX0_isShare 9 = .ok (.iload_n 1, 1) := by decide +kernel
theorem dX0_isShare_10 : decode cX0_isShare 10 = .ok (.bipush 100, 2) := by decide +kernel
theorem dX0_isShare_12 : decode cX0_isShare 12 = .ok (.if_icmp .gt 12, 3) := by decide +kernel
theorem dX0_isShare_15 : decode cX0_isShare 15 = .ok (.iload_n 0, 1) := by decide +kernel
theorem dX0_isShare_16 : decode cX0_isShare 16 = .ok (.iload_n 1, 1) := by decide +kernel
theorem dX0_isShare_17 : decode cX0_isShare 17 = .ok (.if_icmp .gt 7, 3) := by decide +kernel
theorem dX0_isShare_20 : decode cX0_isShare 20 = .ok (.iconst 1, 1) := by decide +kernel
theorem dX0_isShare_21 : decode cX0_isShare 21 = .ok (.goto 4, 3) := by decide +kernel
theorem dX0_isShare_24 : decode cX0_isShare 24 = .ok (.iconst 0, 1) := by decide +kernel
theorem dX0_isShare_25 : decode cX0_isShare 25 = .ok (.ireturn, 1) := by decide +kernel
theorem dX0_guaranteeNumbered_0 : decode cX0_guaranteeNumbered 0 = .ok (.iload_n 1, 1) := by decide +kernel
theorem dX0_guaranteeNumbered_1 : decode cX0_guaranteeNumbered 1 = .ok (.iconst 1, 1) := by decide +kernel
theorem dX0_guaranteeNumbered_2 : decode cX0_guaranteeNumbered 2 = .ok (.if_icmp .lt 22, 3) := by decide +kernel
theorem dX0_guaranteeNumbered_5 : decode cX0_guaranteeNumbered 5 = .ok (.iload_n 1, 1) := by decide +kernel
theorem dX0_guaranteeNumbered_6 : decode cX0_guaranteeNumbered 6 = .ok (.aload_n 0, 1) := by decide +kernel
theorem dX0_guaranteeNumbered_7 : decode cX0_guaranteeNumbered 7 = .ok (.getfield 56, 3) := by decide +kernel
theorem dX0_guaranteeNumbered_10 : decode cX0_guaranteeNumbered 10 = .ok (.if_icmp .gt 14, 3) := by decide +kernel
theorem dX0_guaranteeNumbered_13 : decode cX0_guaranteeNumbered 13 = .ok (.aload_n 0, 1) := by decide +kernel
theorem dX0_guaranteeNumbered_14 : decode cX0_guaranteeNumbered 14 = .ok (.getfield 11, 3) := by decide +kernel
theorem dX0_guaranteeNumbered_17 : decode cX0_guaranteeNumbered 17 = .ok (.iload_n 1, 1) := by decide +kernel
theorem dX0_guaranteeNumbered_18 : decode cX0_guaranteeNumbered 18 = .ok (.iconst 1, 1) := by decide +kernel
theorem dX0_guaranteeNumbered_19 : decode cX0_guaranteeNumbered 19 = .ok (.isub, 1) := by decide +kernel
theorem dX0_guaranteeNumbered_20 : decode cX0_guaranteeNumbered 20 = .ok (.aaload, 1) := by decide +kernel
theorem dX0_guaranteeNumbered_21 : decode cX0_guaranteeNumbered 21 = .ok (.goto 4, 3) := by decide +kernel
theorem dX0_guaranteeNumbered_24 : decode cX0_guaranteeNumbered 24 = .ok (.aconst_null, 1) := by decide +kernel
theorem dX0_guaranteeNumbered_25 : decode cX0_guaranteeNumbered 25 = .ok (.areturn, 1) := by decide +kernel
theorem dX0_reservationNumbered_0 : decode cX0_reservationNumbered 0 = .ok (.iload_n 1, 1) := by decide +kernel
theorem dX0_reservationNumbered_1 : decode cX0_reservationNumbered 1 = .ok (.iconst 1, 1) := by decide +kernel
theorem dX0_reservationNumbered_2 : decode cX0_reservationNumbered 2 = .ok (.if_icmp .lt 22, 3) := by decide +kernel
theorem dX0_reservationNumbered_5 : decode cX0_reservationNumbered 5 = .ok (.iload_n 1, 1) := by decide +kernel
theorem dX0_reservationNumbered_6 : decode cX0_reservationNumbered 6 = .ok (.aload_n 0, 1) := by decide +kernel
theorem dX0_reservationNumbered_7 : decode cX0_reservationNumbered 7 = .ok (.getfield 98, 3) := by decide +kernel
theorem dX0_reservationNumbered_10 : decode cX0_reservationNumbered 10 = .ok (.if_icmp .gt 14, 3) := by decide +kernel
theorem dX0_reservationNumbered_13 : decode cX0_reservationNumbered 13 = .ok (.aload_n 0, 1) := by decide +kernel
theorem dX0_reservationNumbered_14 : decode cX0_reservationNumbered 14 = .ok (.getfield 20, 3) := by decide +kernel
theorem dX0_reservationNumbered_17 : decode cX0_reservationNumbered 17 = .ok (.iload_n 1, 1) := by decide +kernel
theorem dX0_reservationNumbered_18 : decode cX0_reservationNumbered 18 = .ok (.iconst 1, 1) := by decide +kernel
theorem dX0_reservationNumbered_19 : decode cX0_reservationNumbered 19 = .ok (.isub, 1) := by decide +kernel
theorem dX0_reservationNumbered_20 : decode cX0_reservationNumbered 20 = .ok (.aaload, 1) := by decide +kernel
theorem dX0_reservationNumbered_21 : decode cX0_reservationNumbered 21 = .ok (.goto 4, 3) := by decide +kernel
theorem dX0_reservationNumbered_24 : decode cX0_reservationNumbered 24 = .ok (.aconst_null, 1) := by decide +kernel
theorem dX0_reservationNumbered_25 : decode cX0_reservationNumbered 25 = .ok (.areturn, 1) := by decide +kernel
theorem dX0_putLast_0 : decode cX0_putLast 0 = .ok (.aload_n 0, 1) := by decide +kernel
theorem dX0_putLast_1 : decode cX0_putLast 1 = .ok (.getfield 15, 3) := by decide +kernel
theorem dX0_putLast_4 : decode cX0_putLast 4 = .ok (.aload_n 1, 1) := by decide +kernel
theorem dX0_putLast_5 : decode cX0_putLast 5 = .ok (.getfield 87, 3) := by decide +kernel
theorem dX0_putLast_8 : decode cX0_putLast 8 = .ok (.aaload, 1) := by decide +kernel
theorem dX0_putLast_9 : decode cX0_putLast 9 = .ok (.astore_n 2, 1) := by decide +kernel
theorem dX0_putLast_10 : decode cX0_putLast 10 = .ok (.aload_n 2, 1) := by decide +kernel
theorem dX0_putLast_11 : decode cX0_putLast 11 = .ok (.ifnonnull 14, 3) := by decide +kernel
theorem dX0_putLast_14 : decode cX0_putLast 14 = .ok (.aload_n 0, 1) := by decide +kernel
theorem dX0_putLast_15 : decode cX0_putLast 15 = .ok (.getfield 15, 3) := by decide +kernel
theorem dX0_putLast_18 : decode cX0_putLast 18 = .ok (.aload_n 1, 1) := by decide +kernel
theorem dX0_putLast_19 : decode cX0_putLast 19 = .ok (.getfield 87, 3) := by decide +kernel
theorem dX0_putLast_22 : decode cX0_putLast 22 = .ok (.aload_n 1, 1) := by decide +kernel
theorem dX0_putLast_23 : decode cX0_putLast 23 = .ok (.aastore, 1) := by decide +kernel
theorem dX0_putLast_24 : decode cX0_putLast 24 = .ok (.return_, 1) := by decide +kernel
theorem dX0_putLast_25 : decode cX0_putLast 25 = .ok (.aload_n 2, 1) := by decide +kernel
theorem dX0_putLast_26 : decode cX0_putLast 26 = .ok (.getfield 175, 3) := by decide +kernel
theorem dX0_putLast_29 : decode cX0_putLast 29 = .ok (.ifnull 11, 3) := by decide +kernel
theorem dX0_putLast_32 : decode cX0_putLast 32 = .ok (.aload_n 2, 1) := by decide +kernel
theorem dX0_putLast_33 : decode cX0_putLast 33 = .ok (.getfield 175, 3) := by decide +kernel
theorem dX0_putLast_36 : decode cX0_putLast 36 = .ok (.astore_n 2, 1) := by decide +kernel
theorem dX0_putLast_37 : decode cX0_putLast 37 = .ok (.goto (-12), 3) := by decide +kernel
theorem dX0_putLast_40 : decode cX0_putLast 40 = .ok (.aload_n 2, 1) := by decide +kernel
theorem dX0_putLast_41 : decode cX0_putLast 41 = .ok (.aload_n 1, 1) := by decide +kernel
theorem dX0_putLast_42 : decode cX0_putLast 42 = .ok (.putfield 175, 3) := by decide +kernel
theorem dX0_putLast_45 : decode cX0_putLast 45 = .ok (.return_, 1) := by decide +kernel
theorem dX0_putFirst_0 : decode cX0_putFirst 0 = .ok (.aload_n 0, 1) := by decide +kernel
theorem dX0_putFirst_1 : decode cX0_putFirst 1 = .ok (.getfield 15, 3) := by decide +kernel
theorem dX0_putFirst_4 : decode cX0_putFirst 4 = .ok (.aload_n 1, 1) := by decide +kernel
theorem dX0_putFirst_5 : decode cX0_putFirst 5 = .ok (.getfield 87, 3) := by decide +kernel
theorem dX0_putFirst_8 : decode cX0_putFirst 8 = .ok (.aaload, 1) := by decide +kernel
theorem dX0_putFirst_9 : decode cX0_putFirst 9 = .ok (.astore_n 2, 1) := by decide +kernel
theorem dX0_putFirst_10 : decode cX0_putFirst 10 = .ok (.aload_n 2, 1) := by decide +kernel
theorem dX0_putFirst_11 : decode cX0_putFirst 11 = .ok (.ifnull 19, 3) := by decide +kernel
theorem dX0_putFirst_14 : decode cX0_putFirst 14 = .ok (.aload_n 2, 1) := by decide +kernel
theorem dX0_putFirst_15 : decode cX0_putFirst 15 = .ok (.getfield 175, 3) := by decide +kernel
theorem dX0_putFirst_18 : decode cX0_putFirst 18 = .ok (.aload_n 1, 1) := by decide +kernel
theorem dX0_putFirst_19 : decode cX0_putFirst 19 = .ok (.if_acmp .eq 11, 3) := by decide +kernel
theorem dX0_putFirst_22 : decode cX0_putFirst 22 = .ok (.aload_n 2, 1) := by decide +kernel
theorem dX0_putFirst_23 : decode cX0_putFirst 23 = .ok (.getfield 175, 3) := by decide +kernel
theorem dX0_putFirst_26 : decode cX0_putFirst 26 = .ok (.astore_n 2, 1) := by decide +kernel
theorem dX0_putFirst_27 : decode cX0_putFirst 27 = .ok (.goto (-17), 3) := by decide +kernel
theorem dX0_putFirst_30 : decode cX0_putFirst 30 = .ok (.aload_n 2, 1) := by decide +kernel
theorem dX0_putFirst_31 : decode cX0_putFirst 31 = .ok (.ifnull 34, 3) := by decide +kernel
theorem dX0_putFirst_34 : decode cX0_putFirst 34 = .ok (.aload_n 2, 1) := by decide +kernel
theorem dX0_putFirst_35 : decode cX0_putFirst 35 = .ok (.aload_n 1, 1) := by decide +kernel
theorem dX0_putFirst_36 : decode cX0_putFirst 36 = .ok (.getfield 175, 3) := by decide +kernel
theorem dX0_putFirst_39 : decode cX0_putFirst 39 = .ok (.putfield 175, 3) := by decide +kernel
theorem dX0_putFirst_42 : decode cX0_putFirst 42 = .ok (.aload_n 1, 1) := by decide +kernel
theorem dX0_putFirst_43 : decode cX0_putFirst 43 = .ok (.aload_n 0, 1) := by decide +kernel
theorem dX0_putFirst_44 : decode cX0_putFirst 44 = .ok (.getfield 15, 3) := by decide +kernel
theorem dX0_putFirst_47 : decode cX0_putFirst 47 = .ok (.aload_n 1, 1) := by decide +kernel
theorem dX0_putFirst_48 : decode cX0_putFirst 48 = .ok (.getfield 87, 3) := by decide +kernel
theorem dX0_putFirst_51 : decode cX0_putFirst 51 = .ok (.aaload, 1) := by decide +kernel
theorem dX0_putFirst_52 : decode cX0_putFirst 52 = .ok (.putfield 175, 3) := by decide +kernel
theorem dX0_putFirst_55 : decode cX0_putFirst 55 = .ok (.aload_n 0, 1) := by decide +kernel
theorem dX0_putFirst_56 : decode cX0_putFirst 56 = .ok (.getfield 15, 3) := by decide +kernel
theorem dX0_putFirst_59 : decode cX0_putFirst 59 = .ok (.aload_n 1, 1) := by decide +kernel
theorem dX0_putFirst_60 : decode cX0_putFirst 60 = .ok (.getfield 87, 3) := by decide +kernel
theorem dX0_putFirst_63 : decode cX0_putFirst 63 = .ok (.aload_n 1, 1) := by decide +kernel
theorem dX0_putFirst_64 : decode cX0_putFirst 64 = .ok (.aastore, 1) := by decide +kernel
theorem dX0_putFirst_65 : decode cX0_putFirst 65 = .ok (.return_, 1) := by decide +kernel
theorem dX0_mayCoverTogether_0 : decode cX0_mayCoverTogether 0 = .ok (.lconst 0, 1) := by decide +kernel
theorem dX0_mayCoverTogether_1 : decode cX0_mayCoverTogether 1 = .ok (.lstore_n 2, 1) := by decide +kernel
theorem dX0_mayCoverTogether_2 : decode cX0_mayCoverTogether 2 = .ok (.aload_n 0, 1) := by decide +kernel
theorem dX0_mayCoverTogether_3 : decode cX0_mayCoverTogether 3 = .ok (.getfield 15, 3) := by decide +kernel
theorem dX0_mayCoverTogether_6 : decode cX0_mayCoverTogether 6 = .ok (.iload_n 1, 1) := by decide +kernel
theorem dX0_mayCoverTogether_7 : decode cX0_mayCoverTogether 7 = .ok (.aaload, 1) := by decide +kernel
theorem dX0_mayCoverTogether_8 : decode cX0_mayCoverTogether 8 = .ok (.astore 4, 2) := by decide +kernel
theorem dX0_mayCoverTogether_10 : decode cX0_mayCoverTogether 10 = .ok (.aload 4, 2) := by decide +kernel
theorem dX0_mayCoverTogether_12 : decode cX0_mayCoverTogether 12 = .ok (.ifnull 21, 3) := by decide +kernel
theorem dX0_mayCoverTogether_15 : decode cX0_mayCoverTogether 15 = .ok (.lload_n 2, 1) := by decide +kernel
theorem dX0_mayCoverTogether_16 : decode cX0_mayCoverTogether 16 = .ok (.aload 4, 2) := by decide +kernel
theorem dX0_mayCoverTogether_18 : decode cX0_mayCoverTogether 18 = .ok (.invokevirtual 188, 3) := by decide +kernel
theorem dX0_mayCoverTogether_21 : decode cX0_mayCoverTogether 21 = .ok (.ladd, 1) := by decide +kernel
theorem dX0_mayCoverTogether_22 : decode cX0_mayCoverTogether 22 = .ok (.lstore_n 2, 1) := by decide +kernel
theorem dX0_mayCoverTogether_23 : decode cX0_mayCoverTogether 23 = .ok (.aload 4, 2) := by decide +kernel
theorem dX0_mayCoverTogether_25 : decode cX0_mayCoverTogether 25 = .ok (.getfield 175, 3) := by decide +kernel
theorem dX0_mayCoverTogether_28 : decode cX0_mayCoverTogether 28 = .ok (.astore 4, 2) := by decide +kernel
theorem dX0_mayCoverTogether_30 : decode cX0_mayCoverTogether 30 = .ok (.goto (-20), 3) := by decide +kernel
theorem dX0_mayCoverTogether_33 : decode cX0_mayCoverTogether 33 = .ok (.lload_n 2, 1) := by decide +kernel
theorem dX0_mayCoverTogether_34 : decode cX0_mayCoverTogether 34 = .ok (.ldc2_w 229, 3) := by decide +kernel
theorem dX0_mayCoverTogether_37 : decode cX0_mayCoverTogether 37 = .ok (.invokestatic 231, 3) := by decide +kernel
theorem dX0_mayCoverTogether_40 : decode cX0_mayCoverTogether 40 = .ok (.lreturn, 1) := by decide +kernel
theorem dX0_draftCovers_0 : decode cX0_draftCovers 0 = .ok (.aload_n 0, 1) := by decide +kernel
theorem dX0_draftCovers_1 : decode cX0_draftCovers 1 = .ok (.getfield 33, 3) := by decide +kernel
theorem dX0_draftCovers_4 : decode cX0_draftCovers 4 = .ok (.iload_n 1, 1) := by decide +kernel
theorem dX0_draftCovers_5 : decode cX0_draftCovers 5 = .ok (.lload_n 2, 1) := by decide +kernel
theorem dX0_draftCovers_6 : decode cX0_draftCovers 6 = .ok (.invokevirtual 237, 3) := by decide +kernel
theorem dX0_draftCovers_9 : decode cX0_draftCovers 9 = .ok (.lload_n 2, 1) := by decide +kernel
theorem dX0_draftCovers_10 : decode cX0_draftCovers 10 = .ok (.lstore 4, 2) := by decide +kernel
theorem dX0_draftCovers_12 : decode cX0_draftCovers 12 = .ok (.aload_n 0, 1) := by decide +kernel
theorem dX0_draftCovers_13 : decode cX0_draftCovers 13 = .ok (.getfield 15, 3) := by decide +kernel
theorem dX0_draftCovers_16 : decode cX0_draftCovers 16 = .ok (.iload_n 1, 1) := by decide +kernel
theorem dX0_draftCovers_17 : decode cX0_draftCovers 17 = .ok (.aaload, 1) := by decide +kernel
theorem dX0_draftCovers_18 : decode cX0_draftCovers 18 = .ok (.astore 6, 2) := by decide +kernel
theorem dX0_draftCovers_20 : decode cX0_draftCovers 20 = .ok (.aload 6, 2) := by decide +kernel
theorem dX0_draftCovers_22 : decode cX0_draftCovers 22 = .ok (.ifnull 62, 3) := by decide +kernel
theorem dX0_draftCovers_25 : decode cX0_draftCovers 25 = .ok (.lload 4, 2) := by decide +kernel
theorem dX0_draftCovers_27 : decode cX0_draftCovers 27 = .ok (.lconst 0, 1) := by decide +kernel
theorem dX0_draftCovers_28 : decode cX0_draftCovers 28 = .ok (.lcmp, 1) := by decide +kernel
theorem dX0_draftCovers_29 : decode cX0_draftCovers 29 = .ok (.ifCond .le 55, 3) := by decide +kernel
theorem dX0_draftCovers_32 : decode cX0_draftCovers 32 = .ok (.lload 4, 2) := by decide +kernel
theorem dX0_draftCovers_34 : decode cX0_draftCovers 34 = .ok (.aload 6, 2) := by decide +kernel
theorem dX0_draftCovers_36 : decode cX0_draftCovers 36 = .ok (.invokevirtual 188, 3) := by decide +kernel
theorem dX0_draftCovers_39 : decode cX0_draftCovers 39 = .ok (.invokestatic 231, 3) := by decide +kernel
theorem dX0_draftCovers_42 : decode cX0_draftCovers 42 = .ok (.lstore 7, 2) := by decide +kernel
theorem dX0_draftCovers_44 : decode cX0_draftCovers 44 = .ok (.lload 7, 2) := by decide +kernel
theorem dX0_draftCovers_46 : decode cX0_draftCovers 46 = .ok (.lconst 0, 1) := by decide +kernel
theorem dX0_draftCovers_47 : decode cX0_draftCovers 47 = .ok (.lcmp, 1) := by decide +kernel
theorem dX0_draftCovers_48 : decode cX0_draftCovers 48 = .ok (.ifCond .le 19, 3) := by decide +kernel
theorem dX0_draftCovers_51 : decode cX0_draftCovers 51 = .ok (.aload_n 0, 1) := by decide +kernel
theorem dX0_draftCovers_52 : decode cX0_draftCovers 52 = .ok (.getfield 33, 3) := by decide +kernel
theorem dX0_draftCovers_55 : decode cX0_draftCovers 55 = .ok (.aload 6, 2) := by decide +kernel
theorem dX0_draftCovers_57 : decode cX0_draftCovers 57 = .ok (.lload 7, 2) := by decide +kernel
theorem dX0_draftCovers_59 : decode cX0_draftCovers 59 = .ok (.invokevirtual 241, 3) := by decide +kernel
theorem dX0_draftCovers_62 : decode cX0_draftCovers 62 = .ok (.ifCond .ne 5, 3) := by decide +kernel
theorem dX0_draftCovers_65 : decode cX0_draftCovers 65 = .ok (.iconst 0, 1) := by decide +kernel
theorem dX0_draftCovers_66 : decode cX0_draftCovers 66 = .ok (.ireturn, 1) := by decide +kernel
theorem dX0_draftCovers_67 : decode cX0_draftCovers 67 = .ok (.lload 4, 2) := by decide +kernel
theorem dX0_draftCovers_69 : decode cX0_draftCovers 69 = .ok (.lload 7, 2) := by decide +kernel
theorem dX0_draftCovers_71 : decode cX0_draftCovers 71 = .ok (.lsub, 1) := by decide +kernel
theorem dX0_draftCovers_72 : decode cX0_draftCovers 72 = .ok (.lstore 4, 2) := by decide +kernel
theorem dX0_draftCovers_74 : decode cX0_draftCovers 74 = .ok (.aload 6, 2) := by decide +kernel
theorem dX0_draftCovers_76 : decode cX0_draftCovers 76 = .ok (.getfield 175, 3) := by decide +kernel
theorem dX0_draftCovers_79 : decode cX0_draftCovers 79 = .ok (.astore 6, 2) := by decide +kernel
theorem dX0_draftCovers_81 : decode cX0_draftCovers 81 = .ok (.goto (-61), 3) := by decide +kernel
theorem dX0_draftCovers_84 : decode cX0_draftCovers 84 = .ok (.lload 4, 2) := by decide +kernel
theorem dX0_draftCovers_86 : decode cX0_draftCovers 86 = .ok (.lconst 0, 1) := by decide +kernel
theorem dX0_draftCovers_87 : decode cX0_draftCovers 87 = .ok (.lcmp, 1) := by decide +kernel
theorem dX0_draftCovers_88 : decode cX0_draftCovers 88 = .ok (.ifCond .ne 7, 3) := by decide +kernel
theorem dX0_draftCovers_91 : decode cX0_draftCovers 91 = .ok (.iconst 1, 1) := by decide +kernel
theorem dX0_draftCovers_92 : decode cX0_draftCovers 92 = .ok (.goto 4, 3) := by decide +kernel
theorem dX0_draftCovers_95 : decode cX0_draftCovers 95 = .ok (.iconst 0, 1) := by decide +kernel
theorem dX0_draftCovers_96 : decode cX0_draftCovers 96 = .ok (.ireturn, 1) := by decide +kernel
theorem dX0_keepDraft_0 : decode cX0_keepDraft 0 = .ok (.aload_n 0, 1) := by decide +kernel
theorem dX0_keepDraft_1 : decode cX0_keepDraft 1 = .ok (.getfield 33, 3) := by decide +kernel
theorem dX0_keepDraft_4 : decode cX0_keepDraft 4 = .ok (.invokevirtual 245, 3) := by decide +kernel
theorem dX0_keepDraft_7 : decode cX0_keepDraft 7 = .ok (.aload_n 0, 1) := by decide +kernel
theorem dX0_keepDraft_8 : decode cX0_keepDraft 8 = .ok (.getfield 20, 3) := by decide +kernel
theorem dX0_keepDraft_11 : decode cX0_keepDraft 11 = .ok (.aload_n 0, 1) := by decide +kernel
theorem dX0_keepDraft_12 : decode cX0_keepDraft 12 = .ok (.getfield 98, 3) := by decide +kernel
theorem dX0_keepDraft_15 : decode cX0_keepDraft 15 = .ok (.aload_n 0, 1) := by decide +kernel
theorem dX0_keepDraft_16 : decode cX0_keepDraft 16 = .ok (.getfield 33, 3) := by decide +kernel
theorem dX0_keepDraft_19 : decode cX0_keepDraft 19 = .ok (.aastore, 1) := by decide +kernel
theorem dX0_keepDraft_20 : decode cX0_keepDraft 20 = .ok (.aload_n 0, 1) := by decide +kernel
theorem dX0_keepDraft_21 : decode cX0_keepDraft 21 = .ok (.dup, 1) := by decide +kernel
theorem dX0_keepDraft_22 : decode cX0_keepDraft 22 = .ok (.getfield 98, 3) := by decide +kernel
theorem dX0_keepDraft_25 : decode cX0_keepDraft 25 = .ok (.iconst 1, 1) := by decide +kernel
theorem dX0_keepDraft_26 : decode cX0_keepDraft 26 = .ok (.iadd, 1) := by decide +kernel
theorem dX0_keepDraft_27 : decode cX0_keepDraft 27 = .ok (.putfield 98, 3) := by decide +kernel
theorem dX0_keepDraft_30 : decode cX0_keepDraft 30 = .ok (.aload_n 0, 1) := by decide +kernel
theorem dX0_keepDraft_31 : decode cX0_keepDraft 31 = .ok (.dup, 1) := by decide +kernel
theorem dX0_keepDraft_32 : decode cX0_keepDraft 32 = .ok (.getfield 224, 3) := by decide +kernel
theorem dX0_keepDraft_35 : decode cX0_keepDraft 35 = .ok (.iconst 1, 1) := by decide +kernel
theorem dX0_keepDraft_36 : decode cX0_keepDraft 36 = .ok (.iadd, 1) := by decide +kernel
theorem dX0_keepDraft_37 : decode cX0_keepDraft 37 = .ok (.putfield 224, 3) := by decide +kernel
theorem dX0_keepDraft_40 : decode cX0_keepDraft 40 = .ok (.aload_n 0, 1) := by decide +kernel
theorem dX0_keepDraft_41 : decode cX0_keepDraft 41 = .ok (.new 18, 3) := by decide +kernel
theorem dX0_keepDraft_44 : decode cX0_keepDraft 44 = .ok (.dup, 1) := by decide +kernel
theorem dX0_keepDraft_45 : decode cX0_keepDraft 45 = .ok (.invokespecial 32, 3) := by decide +kernel
theorem dX0_keepDraft_48 : decode cX0_keepDraft 48 = .ok (.putfield 33, 3) := by decide +kernel
theorem dX0_keepDraft_51 : decode cX0_keepDraft 51 = .ok (.aload_n 0, 1) := by decide +kernel
theorem dX0_keepDraft_52 : decode cX0_keepDraft 52 = .ok (.getfield 98, 3) := by decide +kernel
theorem dX0_keepDraft_55 : decode cX0_keepDraft 55 = .ok (.ireturn, 1) := by decide +kernel
theorem dX0_finish_0 : decode cX0_finish 0 = .ok (.aload_n 1, 1) := by decide +kernel
theorem dX0_finish_1 : decode cX0_finish 1 = .ok (.iload_n 2, 1) := by decide +kernel
theorem dX0_finish_2 : decode cX0_finish 2 = .ok (.putfield 123, 3) := by decide +kernel
theorem dX0_finish_5 : decode cX0_finish 5 = .ok (.aload_n 0, 1) := by decide +kernel
theorem dX0_finish_6 : decode cX0_finish 6 = .ok (.dup, 1) := by decide +kernel
theorem dX0_finish_7 : decode cX0_finish 7 = .ok (.getfield 224, 3) := by decide +kernel
theorem dX0_finish_10 : decode cX0_finish 10 = .ok (.iconst 1, 1) := by decide +kernel
theorem dX0_finish_11 : decode cX0_finish 11 = .ok (.isub, 1) := by decide +kernel
theorem dX0_finish_12 : decode cX0_finish 12 = .ok (.putfield 224, 3) := by decide +kernel
theorem dX0_finish_15 : decode cX0_finish 15 = .ok (.return_, 1) := by decide +kernel
end
section
/-! CELLS ONE BY ONE: what the rows of the kit say of a world's list, here of one cell, and of all other cells that they stay -/
theorem sx_one {D : va_G} {cl : List vw_C} {a : Nat} {e : va_E} {H : Heap} (h : va_at D cl (a, e) H) : va_P D cl [(a, e)] H := by
  intro k q hk
  cases k with
  | zero => cases hk; exact h
  | succ k => simp at hk
theorem sx_recv {s : State} {H : Heap} {D : va_G} {cl : List vw_C} {a ci : Nat} {q : vw_C} {fs : List Value} {tys : List (ClassId × FieldType)} (hK : va_K D cl tys s) (hat : va_at D cl (a, .inr (ci, fs)) H) (hc : cl[ci]? = some q) : ∃ cell : Cell, H[a]? = some cell ∧ cell.vm.isStatics = false ∧ s.vm.findClass q.1 = some cell.cls := va_recv hK (sx_one hat) hc (q0 := 0) rfl
section SX
variable {p : Program} {l : Launch} {e : Env} {R : Room} {s : State} {m : MethodId} {args : Array Value} {below : List Frame} {meth : Method} {c : Code} {H : Heap} {locs : List Loc} {cells slots : Nat} {Q : State → Prop}
variable {cc : ByteArray} {pc : Nat} {ls : Array Slot} {rest : List Value} {D : va_G} {cl : List vw_C} {A : Nat → Prop} {a : Nat} {tys : List (ClassId × FieldType)} {H0 : Heap}
theorem sx_get (hexec : p.tables.exec = Jvm.exec) (hb : c.code = cc) {own ref C : String} {T : u_T} {N ci index : Nat} {Ts : List Cond} (hts : ∀ w ∈ Ts, w.before args s = true) (hin : ∀ w ∈ u_ws C T N, w ∈ Ts) (hown : s.vm.findClass own = some m.cls) (hK : va_K D cl tys s) {fs : List Value} (hat : va_at D cl (a, .inr (ci, fs)) H) (hc : cl[ci]? = some (C, T, N)) (k : Nat) (hk : k < N) (hlink : (Cond.fieldLink own index ref (T k).2.1 (T k).2.2.1).before args s = true) (hsame : (T k).1 = ref) {v : Value} (hv : fs[k]? = some v) (hdg : decode cc pc = .ok (.getfield index, 3))
    (kk : W p l e R s m args below meth c H locs cells slots Q (F0 m (pc + 3) ls (v :: rest))) : W p l e R s m args below meth c H locs cells slots Q (F0 m pc ls (.ref a :: rest)) :=
  va_get hexec hb hts hin hown hK (sx_one hat) 0 rfl hc k hk hlink (fun x h => by rw [← hsame]; exact h) hv hdg kk
theorem sx_getN (hexec : p.tables.exec = Jvm.exec) (hb : c.code = cc) {own ref C host : String} {T : u_T} {N ci index : Nat} {Ts : List Cond} (hts : ∀ w ∈ Ts, w.before args s = true) (hin : ∀ w ∈ u_ws C T N, w ∈ Ts) (hown : s.vm.findClass own = some m.cls) (hK : va_K D cl tys s) {fs : List Value} (hat : va_at D cl (a, .inr (ci, fs)) H) (hc : cl[ci]? = some (C, T, N)) (k : Nat) (hk : k < N) (hlink : (Cond.fieldLinkNest own index ref (T k).2.1 (T k).2.2.1 host).before args s = true) (hsame : (T k).1 = ref) {v : Value} (hv : fs[k]? = some v) (hdg : decode cc pc = .ok (.getfield index, 3))
    (kk : W p l e R s m args below meth c H locs cells slots Q (F0 m (pc + 3) ls (v :: rest))) : W p l e R s m args below meth c H locs cells slots Q (F0 m pc ls (.ref a :: rest)) :=
  va_getN hexec hb hts hin hown hK (sx_one hat) 0 rfl hc k hk hlink (fun x h => by rw [← hsame]; exact h) hv hdg kk
/-- what a store of one field leaves -/
def sx_K (D : va_G) (cl : List vw_C) (A : Nat → Prop) (H0 H : Heap) (a : Nat) (e : va_E) (H1 : Heap) (locs1 : List Loc) : Prop := va_at D cl (a, e) H1 ∧ H1.size = H.size ∧ (∀ q : Nat, q ≠ a → H1[q]? = H[q]?) ∧ va_S A H0 H1 locs1
theorem sx_put (hexec : p.tables.exec = Jvm.exec) (hb : c.code = cc) {own ref C : String} {T : u_T} {N ci index : Nat} {Ts : List Cond} (hts : ∀ w ∈ Ts, w.before args s = true) (hin : ∀ w ∈ u_ws C T N, w ∈ Ts) (ty0 : Nat → FieldType) (hty : ∀ k, k < N → parseFieldDescriptor (T k).2.2.1 = some (ty0 k)) (hnm : ∀ a, a < N → ∀ b, b < N → a ≠ b → (T a).2.1 ≠ (T b).2.1) (hown : s.vm.findClass own = some m.cls) (hK : va_K D cl tys s) (hS0 : va_S A H0 H locs) {fs : List Value} (hat : va_at D cl (a, .inr (ci, fs)) H) (hA : A a) (hc : cl[ci]? = some (C, T, N)) (k : Nat) (hk : k < N) (hlink : (Cond.fieldLink own index ref (T k).2.1 (T k).2.2.1).before args s = true) (hsame : (T k).1 = ref) (hfin : (T k).2.2.2 = false) {ty : FieldType} {v : Value} (hd : parseFieldDescriptor (T k).2.2.1 = some ty) (hn : narrow ty v = v) (hfit : fits ty v = true) (hl : k < fs.length)
    (hdg : decode cc pc = .ok (.putfield index, 3)) (kk : ∀ (H1 : Heap) (locs1 : List Loc), sx_K D cl A H0 H a (.inr (ci, fs.set k v)) H1 locs1 → W p l e R s m args below meth c H1 locs1 cells slots Q (F0 m (pc + 3) ls rest)) : W p l e R s m args below meth c H locs cells slots Q (F0 m pc ls (v :: .ref a :: rest)) := by
  have hap := va_apart (own := own) hts hin ty0 hty hnm hK hc
  obtain ⟨r, h1, cell, q1, q2, q3, q4⟩ := id hat
  have hr : r = (C, T, N) := Option.some.inj (h1.symm.trans hc)
  subst hr
  obtain ⟨hS, hfc, kC, hkC, hkind⟩ := hK.1 ci _ hc
  obtain ⟨cf, kf, fi, f, hi, hsl⟩ := hS k hk
  have hlay := hts _ (hin _ (u_in_lay hk))
  unfold u_lay at hlay
  rw [if_neg (by rw [hfin]; decide)] at hlay
  refine W.putK hexec hb (f := f) ⟨hown, hlink, ⟨_, _, _, by rw [← hsame]; exact hi⟩, (u_facts hfc hkC (u_lays hts hin hk) hi).1⟩ (by rw [q2]; exact u_store hfc hkC hkind hlay hi hd hn hfit) q1 q3 (by rw [hsl]; exact k2_hasslot (q4 k hk)) rfl rfl hdg fun H' e1 e2 e3 => ?_
  rw [hsl] at e1 ⊢
  exact kk H' _ ⟨⟨_, hc, t_OB.to (V := updV (vp_V fs) k v) ⟨_, e1, q2, q3, t_set q4 hap hk v⟩ (fun j _ => vp_updV_set hl v j)⟩, e2, e3, hS0.put e2 e3 hA⟩
theorem sx_putN (hexec : p.tables.exec = Jvm.exec) (hb : c.code = cc) {own ref C host : String} {T : u_T} {N ci index : Nat} {Ts : List Cond} (hts : ∀ w ∈ Ts, w.before args s = true) (hin : ∀ w ∈ u_ws C T N, w ∈ Ts) (ty0 : Nat → FieldType) (hty : ∀ k, k < N → parseFieldDescriptor (T k).2.2.1 = some (ty0 k)) (hnm : ∀ a, a < N → ∀ b, b < N → a ≠ b → (T a).2.1 ≠ (T b).2.1) (hown : s.vm.findClass own = some m.cls) (hK : va_K D cl tys s) (hS0 : va_S A H0 H locs) {fs : List Value} (hat : va_at D cl (a, .inr (ci, fs)) H) (hA : A a) (hc : cl[ci]? = some (C, T, N)) (k : Nat) (hk : k < N) (hlink : (Cond.fieldLinkNest own index ref (T k).2.1 (T k).2.2.1 host).before args s = true) (hsame : (T k).1 = ref) (hfin : (T k).2.2.2 = false) {ty : FieldType} {v : Value} (hd : parseFieldDescriptor (T k).2.2.1 = some ty) (hn : narrow ty v = v) (hfit : fits ty v = true) (hl : k < fs.length)
    (hdg : decode cc pc = .ok (.putfield index, 3)) (kk : ∀ (H1 : Heap) (locs1 : List Loc), sx_K D cl A H0 H a (.inr (ci, fs.set k v)) H1 locs1 → W p l e R s m args below meth c H1 locs1 cells slots Q (F0 m (pc + 3) ls rest)) : W p l e R s m args below meth c H locs cells slots Q (F0 m pc ls (v :: .ref a :: rest)) := by
  have hap := va_apart (own := own) hts hin ty0 hty hnm hK hc
  obtain ⟨r, h1, cell, q1, q2, q3, q4⟩ := id hat
  have hr : r = (C, T, N) := Option.some.inj (h1.symm.trans hc)
  subst hr
  obtain ⟨hS, hfc, kC, hkC, hkind⟩ := hK.1 ci _ hc
  obtain ⟨cf, kf, fi, f, hi, hsl⟩ := hS k hk
  have hlay := hts _ (hin _ (u_in_lay hk))
  unfold u_lay at hlay
  rw [if_neg (by rw [hfin]; decide)] at hlay
  refine va_WputK hexec hb (f := f) hown hlink (by rw [← hsame]; exact hi) (u_facts hfc hkC (u_lays hts hin hk) hi).1 (by rw [q2]; exact u_store hfc hkC hkind hlay hi hd hn hfit) q1 q3 (by rw [hsl]; exact k2_hasslot (q4 k hk)) rfl rfl hdg fun H' e1 e2 e3 => ?_
  rw [hsl] at e1 ⊢
  exact kk H' _ ⟨⟨_, hc, t_OB.to (V := updV (vp_V fs) k v) ⟨_, e1, q2, q3, t_set q4 hap hk v⟩ (fun j _ => vp_updV_set hl v j)⟩, e2, e3, hS0.put e2 e3 hA⟩
theorem sx_putF (hexec : p.tables.exec = Jvm.exec) (hb : c.code = cc) {own ref C : String} {T : u_T} {N ci index : Nat} {Ts : List Cond} (hts : ∀ w ∈ Ts, w.before args s = true) (hin : ∀ w ∈ u_ws C T N, w ∈ Ts) (ty0 : Nat → FieldType) (hty : ∀ k, k < N → parseFieldDescriptor (T k).2.2.1 = some (ty0 k)) (hnm : ∀ a, a < N → ∀ b, b < N → a ≠ b → (T a).2.1 ≠ (T b).2.1) (hown : s.vm.findClass own = some m.cls) (hK : va_K D cl tys s) (hS0 : va_S A H0 H locs) {fs : List Value} (hat : va_at D cl (a, .inr (ci, fs)) H) (hA : A a) (hc : cl[ci]? = some (C, T, N)) (k : Nat) (hk : k < N) (hlink : (Cond.fieldLink own index ref (T k).2.1 (T k).2.2.1).before args s = true) (hsame : (T k).1 = ref) (hfin : (T k).2.2.2 = true) (hin2 : meth.name = "<init>") (hdecl : (T k).1 = own) {ty : FieldType} {v : Value} (hd : parseFieldDescriptor (T k).2.2.1 = some ty) (hn : narrow ty v = v) (hfit : fits ty v = true) (hl : k < fs.length)
    (hdg : decode cc pc = .ok (.putfield index, 3)) (kk : ∀ (H1 : Heap) (locs1 : List Loc), sx_K D cl A H0 H a (.inr (ci, fs.set k v)) H1 locs1 → W p l e R s m args below meth c H1 locs1 cells slots Q (F0 m (pc + 3) ls rest)) : W p l e R s m args below meth c H locs cells slots Q (F0 m pc ls (v :: .ref a :: rest)) := by
  have hap := va_apart (own := own) hts hin ty0 hty hnm hK hc
  obtain ⟨r, h1, cell, q1, q2, q3, q4⟩ := id hat
  have hr : r = (C, T, N) := Option.some.inj (h1.symm.trans hc)
  subst hr
  obtain ⟨hS, hfc, kC, hkC, hkind⟩ := hK.1 ci _ hc
  obtain ⟨cf, kf, fi, f, hi, hsl⟩ := hS k hk
  have hlay := hts _ (hin _ (u_in_lay hk))
  unfold u_lay at hlay
  rw [if_pos hfin] at hlay
  have hcf : m.cls = cf := by
    obtain ⟨_, _, c', _, _, _, -, -, hf', -, -, -, hown2, -⟩ := Cond.laysFinal_spec hlay
    have e1 : c' = cf := by have := hi.symm.trans hf'; simp at this; exact this.1.symm
    rw [hdecl] at hown2
    rw [← e1]; exact Option.some.inj (hown.symm.trans hown2)
  refine W.putFinK hexec hb hown hlink (by rw [← hsame]; exact hi) (u_facts hfc hkC (u_lays hts hin hk) hi).1 hcf hin2 (by rw [q2]; exact u_fits hfc hkC hkind (Or.inr hlay) hi hd hn hfit) q1 q3 (by rw [hsl]; exact k2_hasslot (q4 k hk)) rfl rfl hdg fun H' e1 e2 e3 => ?_
  rw [hsl] at e1 ⊢
  exact kk H' _ ⟨⟨_, hc, t_OB.to (V := updV (vp_V fs) k v) ⟨_, e1, q2, q3, t_set q4 hap hk v⟩ (fun j _ => vp_updV_set hl v j)⟩, e2, e3, hS0.put e2 e3 hA⟩
theorem sx_iald (hexec : p.tables.exec = Jvm.exec) (hb : c.code = cc) (hK : va_K D cl tys s) {cA : ClassId} {n : Nat} {f : Nat → Int32} (hat : va_at D cl (a, .inl (cA, n, .inl f)) H) (t0 : Nat) (ht : tys[t0]? = some (cA, .int)) {i : Int32} (hin : vp_in i n) (hdg : decode cc pc = .ok (.iaload, 1))
    (kk : W p l e R s m args below meth c H locs cells slots Q (F0 m (pc + 1) ls (.int (f i.toNatClampNeg) :: rest))) : W p l e R s m args below meth c H locs cells slots Q (F0 m pc ls (.int i :: .ref a :: rest)) := va_iald hexec hb hK (sx_one hat) 0 t0 rfl ht hin hdg kk
theorem sx_zald (hexec : p.tables.exec = Jvm.exec) (hb : c.code = cc) (hK : va_K D cl tys s) {cA : ClassId} {n : Nat} {f : Nat → Int32} (hat : va_at D cl (a, .inl (cA, n, .inl f)) H) (t0 : Nat) (ht : tys[t0]? = some (cA, .boolean)) {i : Int32} (hin : vp_in i n) (hdg : decode cc pc = .ok (.baload, 1))
    (kk : W p l e R s m args below meth c H locs cells slots Q (F0 m (pc + 1) ls (.int (f i.toNatClampNeg) :: rest))) : W p l e R s m args below meth c H locs cells slots Q (F0 m pc ls (.int i :: .ref a :: rest)) := va_zald hexec hb hK (sx_one hat) 0 t0 rfl ht hin hdg kk
theorem sx_lald (hexec : p.tables.exec = Jvm.exec) (hb : c.code = cc) (hK : va_K D cl tys s) {cA : ClassId} {n : Nat} {f : Nat → Int64} (hat : va_at D cl (a, .inl (cA, n, .inr (.inl f))) H) (t0 : Nat) (ht : tys[t0]? = some (cA, .long)) {i : Int32} (hin : vp_in i n) (hdg : decode cc pc = .ok (.laload, 1))
    (kk : W p l e R s m args below meth c H locs cells slots Q (F0 m (pc + 1) ls (.long (f i.toNatClampNeg) :: rest))) : W p l e R s m args below meth c H locs cells slots Q (F0 m pc ls (.int i :: .ref a :: rest)) := va_lald hexec hb hK (sx_one hat) 0 t0 rfl ht hin hdg kk
theorem sx_aldq (hexec : p.tables.exec = Jvm.exec) (hb : c.code = cc) (hK : va_K D cl tys s) {cA : ClassId} {C : String} {n : Nat} {f : Nat → Option Nat} (hat : va_at D cl (a, .inl (cA, n, .inr (.inr (.inr (.inr f))))) H) (t0 : Nat) (ht : tys[t0]? = some (cA, .object C)) {i : Int32} (hin : vp_in i n) (hdg : decode cc pc = .ok (.aaload, 1))
    (kk : W p l e R s m args below meth c H locs cells slots Q (F0 m (pc + 1) ls (va_rf (f i.toNatClampNeg) :: rest))) : W p l e R s m args below meth c H locs cells slots Q (F0 m pc ls (.int i :: .ref a :: rest)) := va_aldq hexec hb hK (sx_one hat) 0 t0 rfl ht hin hdg kk
theorem sx_iast (hexec : p.tables.exec = Jvm.exec) (hb : c.code = cc) (hK : va_K D cl tys s) (hS : va_S A H0 H locs) {cA : ClassId} {n : Nat} {f : Nat → Int32} (hat : va_at D cl (a, .inl (cA, n, .inl f)) H) (hA : A a) (t0 : Nat) (ht : tys[t0]? = some (cA, .int)) {i : Int32} {x : Int32} (hin : vp_in i n) (hdg : decode cc pc = .ok (.iastore, 1))
    (kk : ∀ (H1 : Heap) (locs1 : List Loc), sx_K D cl A H0 H a (.inl (cA, n, .inl (va_up f i.toNatClampNeg x))) H1 locs1 → W p l e R s m args below meth c H1 locs1 cells slots Q (F0 m (pc + 1) ls rest)) : W p l e R s m args below meth c H locs cells slots Q (F0 m pc ls (.int x :: .int i :: .ref a :: rest)) := by
  refine W.iast hexec hb hat ((hK.2 t0 _ ht).1 n (fun j => .int (f j))) (fun q => by cases q) (by show ¬ (i < 0 ∨ (arrV _ _ _).slots.size ≤ _); rw [arrV_size]; exact hin) rfl rfl hdg fun H1 e z oq => ?_
  refine kk H1 _ ⟨?_, z, oq, hS.put z oq hA⟩
  show H1[a]? = some (vp_cell _ _)
  rw [e, vp_cell_i, vp_cell_i, arrV_store]
  congr 2
  funext q
  by_cases hq : q = i.toNatClampNeg
  · subst hq; simp [updV, va_up]
  · simp [updV, va_up, hq]
theorem sx_zast (hexec : p.tables.exec = Jvm.exec) (hb : c.code = cc) (hK : va_K D cl tys s) (hS : va_S A H0 H locs) {cA : ClassId} {n : Nat} {f : Nat → Int32} (hat : va_at D cl (a, .inl (cA, n, .inl f)) H) (hA : A a) (t0 : Nat) (ht : tys[t0]? = some (cA, .boolean)) {i : Int32} {x : Int32} (hin : vp_in i n) (hdg : decode cc pc = .ok (.bastore, 1))
    (kk : ∀ (H1 : Heap) (locs1 : List Loc), sx_K D cl A H0 H a (.inl (cA, n, .inl (va_up f i.toNatClampNeg (vp_nar .boolean x)))) H1 locs1 → W p l e R s m args below meth c H1 locs1 cells slots Q (F0 m (pc + 1) ls rest)) : W p l e R s m args below meth c H locs cells slots Q (F0 m pc ls (.int x :: .int i :: .ref a :: rest)) := by
  refine W.zast hexec hb hat ((hK.2 t0 _ ht).1 n (fun j => .int (f j))) (fun q => by cases q) (by show ¬ (i < 0 ∨ (arrV _ _ _).slots.size ≤ _); rw [arrV_size]; exact hin) rfl rfl hdg fun H1 e z oq => ?_
  refine kk H1 _ ⟨?_, z, oq, hS.put z oq hA⟩
  show H1[a]? = some (vp_cell _ _)
  rw [e, vp_cell_i, vp_cell_i, arrV_store]
  congr 2
  funext q
  by_cases hq : q = i.toNatClampNeg
  · subst hq
    simp [updV, va_up, vp_nar]
    try rfl
  · simp [updV, va_up, hq]
theorem sx_last (hexec : p.tables.exec = Jvm.exec) (hb : c.code = cc) (hK : va_K D cl tys s) (hS : va_S A H0 H locs) {cA : ClassId} {n : Nat} {f : Nat → Int64} (hat : va_at D cl (a, .inl (cA, n, .inr (.inl f))) H) (hA : A a) (t0 : Nat) (ht : tys[t0]? = some (cA, .long)) {i : Int32} {x : Int64} (hin : vp_in i n) (hdg : decode cc pc = .ok (.lastore, 1))
    (kk : ∀ (H1 : Heap) (locs1 : List Loc), sx_K D cl A H0 H a (.inl (cA, n, .inr (.inl (va_up f i.toNatClampNeg x)))) H1 locs1 → W p l e R s m args below meth c H1 locs1 cells slots Q (F0 m (pc + 1) ls rest)) : W p l e R s m args below meth c H locs cells slots Q (F0 m pc ls (.long x :: .int i :: .ref a :: rest)) := by
  refine W.last hexec hb hat ((hK.2 t0 _ ht).1 n (fun j => .long (f j))) (fun q => by cases q) (by show ¬ (i < 0 ∨ (arrV _ _ _).slots.size ≤ _); rw [arrV_size]; exact hin) rfl rfl hdg fun H1 e z oq => ?_
  refine kk H1 _ ⟨?_, z, oq, hS.put z oq hA⟩
  show H1[a]? = some (vp_cell _ _)
  rw [e, vp_cell_l, vp_cell_l, arrV_store]
  congr 2
  funext q
  by_cases hq : q = i.toNatClampNeg
  · subst hq; simp [updV, va_up]
  · simp [updV, va_up, hq]
theorem sx_astq (hexec : p.tables.exec = Jvm.exec) (hb : c.code = cc) (hK : va_K D cl tys s) (hS : va_S A H0 H locs) {cA : ClassId} {r : vw_C} {n v ci : Nat} {vs : List Value} {f : Nat → Option Nat} (hat : va_at D cl (a, .inl (cA, n, .inr (.inr (.inr (.inr f))))) H) (hA : A a) (t0 : Nat) (ht : tys[t0]? = some (cA, .object r.1)) (hv : va_at D cl (v, .inr (ci, vs)) H) (hc : cl[ci]? = some r) {i : Int32} (hin : vp_in i n) (hdg : decode cc pc = .ok (.aastore, 1))
    (kk : ∀ (H1 : Heap) (locs1 : List Loc), sx_K D cl A H0 H a (.inl (cA, n, .inr (.inr (.inr (.inr (va_up f i.toNatClampNeg (some v))))))) H1 locs1 → W p l e R s m args below meth c H1 locs1 cells slots Q (F0 m (pc + 1) ls rest)) : W p l e R s m args below meth c H locs cells slots Q (F0 m pc ls (.ref v :: .int i :: .ref a :: rest)) := by
  have hlt : i.toNatClampNeg < n := Nat.not_le.mp fun q => hin (Or.inr q)
  have h0 : ¬ i < 0 := fun q => hin (Or.inl q)
  obtain ⟨r', hr', cellV, g1, g2, g3, -⟩ := id hv
  have hcls := (hK.1 ci r hc).2
  obtain ⟨kA, comp, k1, k2, k3, -⟩ := (hK.2 t0 _ ht).2
  have hcomp : comp = D.1 ci := Option.some.inj (k3.symm.trans hcls.1)
  subst hcomp
  obtain ⟨kC, hkC, -⟩ := hcls.2
  refine W.aast hexec hb hat (fun q h => by cases h) (fun h => by cases h) k1 k2 rfl hkC ⟨h0, by show _ < (arrV _ _ _).slots.size; rw [arrV_size]; exact hlt⟩ g1 (fun q h => by rw [g3] at h; cases h) (by rw [g2]; exact hkC) (by rw [g2]; exact va_assign hcls) rfl rfl hdg fun H1 e z oq => ?_
  refine kk H1 _ ⟨?_, z, oq, hS.put z oq hA⟩
  show H1[a]? = some (vp_cell _ _)
  rw [e, vp_cell_q, vp_cell_q, arrV_store]
  congr 2
  funext q
  by_cases hq : q = i.toNatClampNeg
  · subst hq; simp [updV, va_up, va_rf]
  · simp [updV, va_up, hq]
/-- what making a cell leaves: the new one at q, all old ones as they were -/
def sx_N (D : va_G) (cl : List vw_C) (A : Nat → Prop) (H0 H : Heap) (locs : List Loc) (q : Nat) (e : va_E) (H1 : Heap) : Prop := q = H.size ∧ va_at D cl (q, e) H1 ∧ H1.size = H.size + 1 ∧ (∀ x : Nat, x < H.size → H1[x]? = H[x]?) ∧ va_S A H0 H1 locs
theorem sx_new (hexec : p.tables.exec = Jvm.exec) (hb : c.code = cc) {own C : String} {T : u_T} {N ci index : Nat} {Ts : List Cond} (hts : ∀ w ∈ Ts, w.before args s = true) (hin : ∀ w ∈ u_ws C T N, w ∈ Ts) (ty : Nat → FieldType) (hty : ∀ k, k < N → parseFieldDescriptor (T k).2.2.1 = some (ty k)) (hown : s.vm.findClass own = some m.cls) (hcl : (Cond.classLink own index C).before args s = true) (hinst : (Cond.instantiable C N).before args s = true) (hini : (Cond.initialized C).before args s = true)
    (hK : va_K D cl tys s) (hS : va_S A H0 H locs) (hc : cl[ci]? = some (C, T, N)) {fs : List Value} (hfs : ∀ j, j < N → defaultValue (ty j) = vp_V fs j) (hcells : cells + 1 ≤ R.cells) (hslots : slots + N ≤ R.slots) (hdg : decode cc pc = .ok (.new index, 3))
    (kk : ∀ (q : Nat) (H1 : Heap), sx_N D cl A H0 H locs q (.inr (ci, fs)) H1 → W p l e R s m args below meth c H1 locs (cells + 1) (slots + N) Q (F0 m (pc + 3) ls (.ref q :: rest))) : W p l e R s m args below meth c H locs cells slots Q (F0 m pc ls rest) := by
  have hKn := hK.1 ci _ hc
  refine W.newcK hexec hb hown hcl hinst hini rfl hdg hcells hslots hKn.2.1 rfl fun H1 kC hkC e1 z1 o1 => ?_
  exact kk H.size H1 ⟨rfl, ⟨_, hc, (u_born ty hts hin hKn hkC e1 hty).to hfs⟩, z1, o1, ⟨Nat.le_trans hS.1 (by omega), fun x h1 h2 => (o1 x (Nat.lt_of_lt_of_le h1 hS.1)).trans (hS.2.1 x h1 h2), hS.2.2⟩⟩
theorem sx_newa (hexec : p.tables.exec = Jvm.exec) (hb : c.code = cc) {atype : ArrayType} (harr : (Cond.arrayClass (newarray.typeOf atype)).before args s = true) {ty : FieldType} (hty : newarray.typeOf atype = ty) (hK : va_K D cl tys s) (hS : va_S A H0 H locs) {cA : ClassId} (t0 : Nat) (ht : tys[t0]? = some (cA, ty)) (hnob : ∀ C, ty ≠ .object C)
    {n : Int32} {N' : Nat} {a0 : vp_A} (ha : vp_cell cA a0 = arrV cA N' (fun _ => defaultValue ty)) (hn : ¬ n < 0) (hN : n.toNatClampNeg = N') (hbytes : N' * componentBytes ty ≤ 536870912) (hcells : cells + 1 ≤ R.cells) (hslots : slots + N' ≤ R.slots) (hdg : decode cc pc = .ok (.newarray atype, 2))
    (kk : ∀ (q : Nat) (H1 : Heap), sx_N D cl A H0 H locs q (.inl (cA, a0)) H1 → W p l e R s m args below meth c H1 locs (cells + 1) (slots + N') Q (F0 m (pc + 2) ls (.ref q :: rest))) : W p l e R s m args below meth c H locs cells slots Q (F0 m pc ls (.int n :: rest)) := by
  subst hty
  refine va_newaK hexec hb harr rfl hdg rfl hn hN hbytes hcells hslots rfl fun H1 cA' e1 z1 o1 hAr hNm => ?_
  have hRA := (hK.2 t0 _ ht).2
  have hfc : s.vm.findClass ("[" ++ (newarray.typeOf atype).toString) = some cA := by cases atype <;> exact hRA
  have hcA : cA' = cA := Option.some.inj (hNm.symm.trans hfc)
  subst hcA
  refine kk H.size H1 ⟨rfl, ?_, z1, o1, ⟨Nat.le_trans hS.1 (by omega), fun x h1 h2 => (o1 x (Nat.lt_of_lt_of_le h1 hS.1)).trans (hS.2.1 x h1 h2), hS.2.2⟩⟩
  show H1[H.size]? = some (vp_cell _ _)
  rw [ha]
  exact e1
theorem sx_newq (hexec : p.tables.exec = Jvm.exec) (hb : c.code = cc) {own C : String} {index : Nat} (hown : s.vm.findClass own = some m.cls) (hclink : (Cond.classLink own index C).before args s = true) (hover : (Cond.arrayOver (.object C)).before args s = true) (hK : va_K D cl tys s) (hS : va_S A H0 H locs) {cA : ClassId} (t0 : Nat) (ht : tys[t0]? = some (cA, .object C))
    {n : Int32} {N' : Nat} (hn : ¬ n < 0) (hN : n.toNatClampNeg = N') (hbytes : N' * 4 ≤ 536870912) (hcells : cells + 1 ≤ R.cells) (hslots : slots + N' ≤ R.slots) (hdg : decode cc pc = .ok (.anewarray index, 3))
    (kk : ∀ (q : Nat) (H1 : Heap), sx_N D cl A H0 H locs q (.inl (cA, N', .inr (.inr (.inr (.inr (fun _ => none)))))) H1 → W p l e R s m args below meth c H1 locs (cells + 1) (slots + N') Q (F0 m (pc + 3) ls (.ref q :: rest))) : W p l e R s m args below meth c H locs cells slots Q (F0 m pc ls (.int n :: rest)) := by
  subst hN
  refine W.anew hexec hb hown hclink hover rfl hdg rfl hn hbytes hcells hslots fun cA' kA comp f1 f2 f3 f4 => ?_
  obtain ⟨-, -, -, -, -, h4⟩ := (hK.2 t0 _ ht).2
  have hcA : cA' = cA := Option.some.inj (f1.symm.trans h4)
  subst hcA
  generalize hH1 : H.push ({ cls := cA', slots := Array.replicate n.toNatClampNeg .null, vm := .none } : Cell) = H1
  have z1 : H1.size = H.size + 1 := by rw [← hH1, Array.size_push]
  have e1 : H1[H.size]? = some (arrV cA' n.toNatClampNeg (fun _ => .null)) := by rw [← hH1, Array.getElem?_push_size, ← arrV_new]
  have o1 : ∀ q : Nat, q < H.size → H1[q]? = H[q]? := fun q hq => by rw [← hH1, Array.getElem?_push, if_neg (Nat.ne_of_lt hq)]
  refine kk H.size H1 ⟨rfl, ?_, z1, o1, ⟨Nat.le_trans hS.1 (by omega), fun x h1 h2 => (o1 x (Nat.lt_of_lt_of_le h1 hS.1)).trans (hS.2.1 x h1 h2), hS.2.2⟩⟩
  show H1[H.size]? = some (vp_cell _ _)
  rw [vp_cell_q]
  exact e1
end SX
section SXO
variable {p : Program} {l : Launch} {e : Env} {R : Room} {s : State} {m : MethodId} {args : Array Value} {below : List Frame} {meth : Method} {c : Code} {H : Heap} {locs : List Loc} {cells slots : Nat} {Q : State → Prop}
variable {cc : ByteArray} {pc : Nat} {ls : Array Slot} {rest : List Value}
/-- a reference that may be null goes to a local -/
theorem sx_astore {r : Option Nat} (hexec : p.tables.exec = Jvm.exec) (hb : c.code = cc) {i nL : Nat} {lv lv' : List (Nat × Value)} (hdg : decode cc pc = .ok (.astore i, 2)) (h : lv_has ls nL lv) (hn : i < nL) (hl : (i, va_rf r) :: lv.filter (fun q => !(q.1 == i) && !(q.1 + 1 == i && q.2.category == 2)) = lv')
    (k : ∀ ls' : Array Slot, lv_has ls' nL lv' → W p l e R s m args below meth c H locs cells slots Q (F0 m (pc + 2) ls' rest)) : W p l e R s m args below meth c H locs cells slots Q (F0 m pc ls (va_rf r :: rest)) := by
  cases r with
  | none => exact lv_astoreN hexec hb hdg h hn hl k
  | some a => exact lv_astore hexec hb hdg h hn hl k
theorem sx_astore_n {r : Option Nat} (hexec : p.tables.exec = Jvm.exec) (hb : c.code = cc) {q : Fin 4} {i nL : Nat} {lv lv' : List (Nat × Value)} (hdg : decode cc pc = .ok (.astore_n q, 1)) (hi : (q : Nat) = i) (h : lv_has ls nL lv) (hn : i < nL) (hl : (i, va_rf r) :: lv.filter (fun q => !(q.1 == i) && !(q.1 + 1 == i && q.2.category == 2)) = lv')
    (k : ∀ ls' : Array Slot, lv_has ls' nL lv' → W p l e R s m args below meth c H locs cells slots Q (F0 m (pc + 1) ls' rest)) : W p l e R s m args below meth c H locs cells slots Q (F0 m pc ls (va_rf r :: rest)) := by
  cases r with
  | none => exact lv_astore_nN hexec hb hdg hi h hn hl k
  | some a => exact lv_astore_n hexec hb hdg hi h hn hl k
end SXO
/-! joins and loops of a walk -/
section JN
variable {p : Program} {l : Launch} {e : Env} {R : Room} {s : State} {m : MethodId} {args : Array Value} {below : List Frame} {meth : Method} {c : Code} {H : Heap} {locs : List Loc} {cells slots : Nat} {Q : State → Prop} {g : JFrame} {ls : Array Slot} {tgt : Nat} {rest : List Value}
theorem jn_i {P : Int32 → Prop} (k : (∀ b : Int32, P b → W p l e R s m args below meth c H locs cells slots Q (F0 m tgt ls (.int b :: rest))) → W p l e R s m args below meth c H locs cells slots Q g) (J : ∀ b : Int32, P b → W p l e R s m args below meth c H locs cells slots Q (F0 m tgt ls (.int b :: rest))) : W p l e R s m args below meth c H locs cells slots Q g := k J
theorem jn_l {P : Int64 → Prop} (k : (∀ b : Int64, P b → W p l e R s m args below meth c H locs cells slots Q (F0 m tgt ls (.long b :: rest))) → W p l e R s m args below meth c H locs cells slots Q g) (J : ∀ b : Int64, P b → W p l e R s m args below meth c H locs cells slots Q (F0 m tgt ls (.long b :: rest))) : W p l e R s m args below meth c H locs cells slots Q g := k J
/-- a join with no value: P is what is known there -/
theorem jn_0 {P : Prop} (k : (P → W p l e R s m args below meth c H locs cells slots Q (F0 m tgt ls rest)) → W p l e R s m args below meth c H locs cells slots Q g) (J : P → W p l e R s m args below meth c H locs cells slots Q (F0 m tgt ls rest)) : W p l e R s m args below meth c H locs cells slots Q g := k J
/-- a loop: X its variables, f a number that falls, I what holds at its head -/
theorem w_loop {X : Type} (f : X → Nat) (I : X → Array Slot → Heap → List Loc → Prop) {hd : Nat} {stk : List Value}
    (step : ∀ (x : X) (ls : Array Slot) (H : Heap) (locs : List Loc), I x ls H locs → (∀ (x' : X) (ls' : Array Slot) (H' : Heap) (locs' : List Loc), f x' < f x → I x' ls' H' locs' → W p l e R s m args below meth c H' locs' cells slots Q (F0 m hd ls' stk)) → W p l e R s m args below meth c H locs cells slots Q (F0 m hd ls stk))
    (x : X) (ls : Array Slot) (H : Heap) (locs : List Loc) (h : I x ls H locs) : W p l e R s m args below meth c H locs cells slots Q (F0 m hd ls stk) := by
  have key : ∀ (n : Nat) (x : X) (ls : Array Slot) (H : Heap) (locs : List Loc), f x < n → I x ls H locs → W p l e R s m args below meth c H locs cells slots Q (F0 m hd ls stk) := by
    intro n
    induction n with
    | zero => intro x ls H locs hn; exact absurd hn (Nat.not_lt_zero _)
    | succ n ih => intro x ls H locs hn hi; exact step x ls H locs hi (fun x' ls' H' locs' hlt hi' => ih x' ls' H' locs' (by omega) hi')
  exact key (f x + 1) x ls H locs (Nat.lt_succ_self _) h
/-- a loop that writes nothing -/
theorem w_loopP {X : Type} (f : X → Nat) (I : X → Array Slot → Prop) {hd : Nat} {stk : List Value}
    (step : ∀ (x : X) (ls : Array Slot), I x ls → (∀ (x' : X) (ls' : Array Slot), f x' < f x → I x' ls' → W p l e R s m args below meth c H locs cells slots Q (F0 m hd ls' stk)) → W p l e R s m args below meth c H locs cells slots Q (F0 m hd ls stk))
    (x : X) (ls : Array Slot) (h : I x ls) : W p l e R s m args below meth c H locs cells slots Q (F0 m hd ls stk) := by
  have key : ∀ (n : Nat) (x : X) (ls : Array Slot), f x < n → I x ls → W p l e R s m args below meth c H locs cells slots Q (F0 m hd ls stk) := by
    intro n
    induction n with
    | zero => intro x ls hn; exact absurd hn (Nat.not_lt_zero _)
    | succ n ih => intro x ls hn hi; exact step x ls hi (fun x' ls' hlt hi' => ih x' ls' (by omega) hi')
  exact key (f x + 1) x ls (Nat.lt_succ_self _) h
end JN
end
section
/-! THE STATE: numbers and references of all objects by (kind, object, field); where each object lies: al kind object -/
abbrev CS : Type := (Nat → Nat → Nat → Int32) × (Nat → Nat → Nat → Int64) × (Nat → Nat → Nat → Option Nat) × Nat × Nat
def fI (σ : CS) : Nat → Nat → Nat → Int32 := σ.1
def fL (σ : CS) : Nat → Nat → Nat → Int64 := σ.2.1
def fR (σ : CS) : Nat → Nat → Nat → Option Nat := σ.2.2.1
def nG (σ : CS) : Nat := σ.2.2.2.1
def nR (σ : CS) : Nat := σ.2.2.2.2
def up3 {β : Type} (f : Nat → Nat → Nat → β) (k i j : Nat) (v : β) : Nat → Nat → Nat → β := va_up f k (va_up (f k) i (va_up (f k i) j v))
theorem up3_at {β : Type} (f : Nat → Nat → Nat → β) (k i j : Nat) (v : β) : up3 f k i j v k i = va_up (f k i) j v := by simp [up3, va_up]
theorem up3_ne {β : Type} (f : Nat → Nat → Nat → β) {k i k' i' : Nat} (j : Nat) (v : β) (h : ¬ (k' = k ∧ i' = i)) : up3 f k i j v k' i' = f k' i' := by
  by_cases hk : k' = k
  · subst hk
    have hi : i' ≠ i := fun q => h ⟨rfl, q⟩
    simp [up3, va_up, hi]
  · simp [up3, va_up, hk]
theorem up3_val {β : Type} (f : Nat → Nat → Nat → β) (k i j : Nat) (v : β) (k' i' j' : Nat) : up3 f k i j v k' i' j' = if k' = k ∧ i' = i ∧ j' = j then v else f k' i' j' := by
  by_cases h : k' = k ∧ i' = i
  · obtain ⟨rfl, rfl⟩ := h
    rw [up3_at]
    by_cases hj : j' = j <;> simp [va_up, hj]
  · rw [up3_ne f j v h, if_neg (fun q => h ⟨q.1, q.2.1⟩)]
def uI (σ : CS) (k i f : Nat) (v : Int32) : CS := (up3 (fI σ) k i f v, fL σ, fR σ, nG σ, nR σ)
def uL (σ : CS) (k i f : Nat) (v : Int64) : CS := (fI σ, up3 (fL σ) k i f v, fR σ, nG σ, nR σ)
def uR (σ : CS) (k i f : Nat) (v : Option Nat) : CS := (fI σ, fL σ, up3 (fR σ) k i f v, nG σ, nR σ)
theorem fI_uI {σ : CS} {k i f : Nat} {v : Int32} : fI (uI σ k i f v) = up3 (fI σ) k i f v := rfl
theorem fI_uL {σ : CS} {k i f : Nat} {v : Int64} : fI (uL σ k i f v) = fI σ := rfl
theorem fI_uR {σ : CS} {k i f : Nat} {v : Option Nat} : fI (uR σ k i f v) = fI σ := rfl
theorem fL_uI {σ : CS} {k i f : Nat} {v : Int32} : fL (uI σ k i f v) = fL σ := rfl
theorem fL_uL {σ : CS} {k i f : Nat} {v : Int64} : fL (uL σ k i f v) = up3 (fL σ) k i f v := rfl
theorem fL_uR {σ : CS} {k i f : Nat} {v : Option Nat} : fL (uR σ k i f v) = fL σ := rfl
theorem fR_uI {σ : CS} {k i f : Nat} {v : Int32} : fR (uI σ k i f v) = fR σ := rfl
theorem fR_uL {σ : CS} {k i f : Nat} {v : Int64} : fR (uL σ k i f v) = fR σ := rfl
theorem fR_uR {σ : CS} {k i f : Nat} {v : Option Nat} : fR (uR σ k i f v) = up3 (fR σ) k i f v := rfl
theorem nG_uI {σ : CS} {k i f : Nat} {v : Int32} : nG (uI σ k i f v) = nG σ := rfl
theorem nG_uL {σ : CS} {k i f : Nat} {v : Int64} : nG (uL σ k i f v) = nG σ := rfl
theorem nG_uR {σ : CS} {k i f : Nat} {v : Option Nat} : nG (uR σ k i f v) = nG σ := rfl
theorem nR_uI {σ : CS} {k i f : Nat} {v : Int32} : nR (uI σ k i f v) = nR σ := rfl
theorem nR_uL {σ : CS} {k i f : Nat} {v : Int64} : nR (uL σ k i f v) = nR σ := rfl
theorem nR_uR {σ : CS} {k i f : Nat} {v : Option Nat} : nR (uR σ k i f v) = nR σ := rfl
/-- fields of the objects: the book (kind 0), a guarantee (1), its share (2), its interest (3), a reservation (4) -/
def encB (al : Nat → Nat → Nat) (fi : Nat → Int32) (_ : Nat → Int64) (fr : Nat → Option Nat) : List Value := [.ref (al 7 0), .ref (al 7 1), .ref (al 7 2), .ref (al 7 3), .ref (al 7 4), va_rf ((fr 5).map (al 4)), .int (fi 6), .int (fi 7), .int (fi 8), .int (fi 9)]
def encG (al : Nat → Nat → Nat) (i : Nat) (fi : Nat → Int32) (fl : Nat → Int64) (fr : Nat → Option Nat) : List Value := [.int (fi 0), .int (fi 1), .ref (al 2 i), .int (fi 3), .ref (al 3 i), .long (fl 5), .long (fl 6), .long (fl 7), .int (fi 8), .int (fi 9), va_rf ((fr 10).map (al 1))]
def encS (fi : Nat → Int32) : List Value := [.int (fi 0), .int (fi 1)]
def encN (fi : Nat → Int32) (fl : Nat → Int64) : List Value := [.int (fi 0), .long (fl 1), .int (fi 2), .int (fi 3)]
def encR (al : Nat → Nat → Nat) (i : Nat) (fi : Nat → Int32) (fl : Nat → Int64) : List Value := [.ref (al 5 i), .ref (al 6 i), .int (fi 2), .int (fi 3), .long (fl 4), .int (fi 5)]
def encM (al : Nat → Nat → Nat) (fi : Nat → Int32) : List Value := [.int (fi 0), .int (fi 1), .int (fi 2), .ref (al 9 0), .ref (al 9 1), .ref (al 9 2), .ref (al 9 3), .ref (al 9 4), .ref (al 9 5), .ref (al 9 6), .ref (al 9 7), .ref (al 9 8), .ref (al 9 9), .ref (al 9 10), .ref (al 9 11), .int (fi 15), .ref (al 9 12), .ref (al 9 13), .ref (al 9 14), .ref (al 9 15), .ref (al 9 16), .ref (al 9 17), .ref (al 9 18), .ref (al 9 19)]
/-- the cell of an object of the class: kinds 5, 6: a reservation's two arrays; 7: the book's five arrays -/
def cellC (dA : Nat → ClassId) (al : Nat → Nat → Nat) (n r : Nat) (k i : Nat) (fi : Nat → Int32) (fl : Nat → Int64) (fr : Nat → Option Nat) : Option va_E := match k with
  | 0 => if i = 0 then some (.inr (0, encB al fi fl fr)) else none
  | 1 => if i < n then some (.inr (1, encG al i fi fl fr)) else none
  | 2 => if i < n then some (.inr (2, encS fi)) else none
  | 3 => if i < n then some (.inr (3, encN fi fl)) else none
  | 4 => if i < r then some (.inr (4, encR al i fi fl)) else none
  | 5 => if i < r then some (.inl (dA 3, 4, .inr (.inr (.inr (.inr (fun j => (fr j).map (al 1))))))) else none
  | 6 => if i < r then some (.inl (dA 1, 4, .inr (.inl fl))) else none
  | 7 => if i = 0 then some (.inl (dA 3, 20, .inr (.inr (.inr (.inr (fun j => (fr j).map (al 1)))))))
      else if i = 1 then some (.inl (dA 3, 8, .inr (.inr (.inr (.inr (fun j => (fr j).map (al 1)))))))
      else if i = 2 then some (.inl (dA 4, 60, .inr (.inr (.inr (.inr (fun j => (fr j).map (al 4)))))))
      else if i = 3 then some (.inl (dA 2, 4, .inl fi))
      else if i = 4 then some (.inl (dA 0, 4, .inl fi)) else none
  | _ => none
/-- the model's arrays: how long, of what (0 int, 1 long, 2 boolean) -/
def mLen (j : Nat) : Nat := if j < 11 then 21 else if j = 11 then 20 else if j < 16 then 61 else if j < 18 then 244 else 4
def mTy (j : Nat) : Nat := if j = 1 ∨ j = 8 ∨ j = 9 ∨ j = 13 ∨ j = 17 then 1 else if j = 4 ∨ j = 6 ∨ j = 18 then 2 else 0
/-- the model (kind 8), its arrays (9), the law's own array (10) -/
def cellM (dA : Nat → ClassId) (al : Nat → Nat → Nat) (k i : Nat) (fi : Nat → Int32) (fl : Nat → Int64) : Option va_E := match k with
  | 8 => if i = 0 then some (.inr (5, encM al fi)) else none
  | 9 => if i < 20 then some (if mTy i = 1 then .inl (dA 1, mLen i, .inr (.inl fl)) else .inl (dA (mTy i), mLen i, .inl fi)) else none
  | 10 => if i = 0 then some (.inl (dA 1, 1, .inr (.inl fl))) else none
  | _ => none
def ent (dA : Nat → ClassId) (al : Nat → Nat → Nat) (σ μ : CS) (k i : Nat) : Option va_E := if k < 8 then cellC dA al (nG σ) (nR σ) k i (fI σ k i) (fL σ k i) (fR σ k i) else cellM dA al k i (fI μ k i) (fL μ k i)
/-- the heap holds the state -/
def Inv (D : va_G) (dA : Nat → ClassId) (lo : Nat) (al : Nat → Nat → Nat) (σ μ : CS) (H : Heap) : Prop :=
  (∀ (k i : Nat) (e : va_E), ent dA al σ μ k i = some e → va_at D vwCl (al k i, e) H ∧ lo ≤ al k i) ∧
  ∀ (k i k' i' : Nat) (e e' : va_E), ent dA al σ μ k i = some e → ent dA al σ μ k' i' = some e' → al k i = al k' i' → k = k' ∧ i = i'
/-- what the tables say of the arrays -/
abbrev tysA (dA : Nat → ClassId) : List (ClassId × FieldType) := [(dA 0, .int), (dA 1, .long), (dA 2, .boolean), (dA 3, .object "GuaranteeBook$Guarantee"), (dA 4, .object "GuaranteeBook$Reservation")]
/-- what a method takes as given beside its objects: the tables' facts, the nest's links, the constants of a throw -/
def nestW : List Cond := [Cond.methodLinkNest "GuaranteeBook" 32 ⟨"GuaranteeBook$Reservation", "<init>", "()V"⟩ "GuaranteeBook", Cond.fieldLinkNest "GuaranteeBook" 211 "GuaranteeBook$Reservation" "covers" "[J" "GuaranteeBook", Cond.fieldLinkNest "GuaranteeBook" 219 "GuaranteeBook$Reservation" "parts" "I" "GuaranteeBook", Cond.fieldLinkNest "GuaranteeBook" 215 "GuaranteeBook$Reservation" "holder" "I" "GuaranteeBook", Cond.fieldLinkNest "GuaranteeBook" 216 "GuaranteeBook$Reservation" "debt" "J" "GuaranteeBook", Cond.fieldLinkNest "GuaranteeBook" 123 "GuaranteeBook$Reservation" "state" "I" "GuaranteeBook", Cond.castable "java/lang/IllegalArgumentException" "java/lang/IllegalArgumentException", Cond.declares ⟨"java/lang/RuntimeException", "<init>", "(Ljava/lang/String;)V"⟩, Cond.declares ⟨"java/lang/Exception", "<init>", "(Ljava/lang/String;)V"⟩, Cond.declares ⟨"java/lang/Throwable", "<init>", "(Ljava/lang/String;)V"⟩, Cond.castable "java/lang/IllegalStateException" "java/lang/IllegalStateException", Cond.fieldLinkNest "GuaranteeBook$Reservation" 35 "GuaranteeBook$Guarantee" "number" "I" "GuaranteeBook", Cond.fieldLinkNest "GuaranteeBook" 172 "GuaranteeBook$Guarantee" "number" "I" "GuaranteeBook", Cond.fieldLinkNest "GuaranteeBook" 87 "GuaranteeBook$Guarantee" "holder" "I" "GuaranteeBook", Cond.fieldLinkNest "GuaranteeBook" 160 "GuaranteeBook$Guarantee" "interest" "LGuaranteeBook$Interest;" "GuaranteeBook", Cond.fieldLinkNest "GuaranteeBook" 164 "GuaranteeBook$Guarantee" "amount" "J" "GuaranteeBook", Cond.fieldLinkNest "GuaranteeBook" 182 "GuaranteeBook$Guarantee" "needed" "J" "GuaranteeBook", Cond.fieldLinkNest "GuaranteeBook" 197 "GuaranteeBook$Guarantee" "claimed" "J" "GuaranteeBook", Cond.fieldLinkNest "GuaranteeBook" 191 "GuaranteeBook$Guarantee" "uses" "I" "GuaranteeBook", Cond.fieldLinkNest "GuaranteeBook" 149 "GuaranteeBook$Guarantee" "closed" "Z" "GuaranteeBook", Cond.fieldLinkNest "GuaranteeBook" 175 "GuaranteeBook$Guarantee" "next" "LGuaranteeBook$Guarantee;" "GuaranteeBook", Cond.castable "java/lang/IndexOutOfBoundsException" "java/lang/IndexOutOfBoundsException"]
def strW : List (Nat × String) := [(51, "no such holder, amount, share or rate"), (62, "there are as many guarantees as there may be"), (96, "no such desk, holder or debt"), (101, "there are as many reservations as there may be"), (121, "no such reservation or way to end"), (133, "no such reservation or cents"), (158, "no such guarantee"), (200, "no such what of a guarantee"), (202, "no such reservation"), (222, "no such what or part of a reservation")]
theorem nest_warm {s U : State} (hW : s.WarmedH U.vm) (w : Cond) (hw : w ∈ nestW) (h : va_Nw w s) : va_Nw w U := by
  simp only [nestW, List.mem_cons, List.not_mem_nil, or_false] at hw
  rcases hw with rfl | rfl | rfl | rfl | rfl | rfl | rfl | rfl | rfl | rfl | rfl | rfl | rfl | rfl | rfl | rfl | rfl | rfl | rfl | rfl | rfl | rfl <;> first | exact va_Nw.warmF hW h | exact va_Nw.warmM hW h | exact va_Nw.warmC hW h | exact va_Nw.warmD hW h
def wd (D : va_G) (dA : Nat → ClassId) (sa : Nat → Nat) (lo : Nat) (U : State) : Prop := va_K D vwCl (tysA dA) U ∧ lo ≤ U.heap.size ∧ (∀ w ∈ nestW, va_Nw w U) ∧ va_AO "GuaranteeBook$Guarantee" U ∧ va_AO "GuaranteeBook$Reservation" U ∧ vx_Zq Bundle.tN "UNASSIGNED_STACK" Bundle.steD (fun q => lo ≤ q) U U.heap ∧ vx_Zq Bundle.tN "SUPPRESSED_SENTINEL" Bundle.listD (fun q => lo ≤ q) U U.heap ∧ ∀ q ∈ strW, vk_R "GuaranteeBook" q.1 q.2 (sa q.1) U
theorem wd_n {D : va_G} {dA : Nat → ClassId} {sa : Nat → Nat} {lo : Nat} {U : State} (h : wd D dA sa lo U) (w : Cond) (hw : w ∈ nestW) : va_Nw w U := h.2.2.1 w hw
theorem wd_s {D : va_G} {dA : Nat → ClassId} {sa : Nat → Nat} {lo : Nat} {U : State} (h : wd D dA sa lo U) (q : Nat × String) (hq : q ∈ strW) : vk_R "GuaranteeBook" q.1 q.2 (sa q.1) U := h.2.2.2.2.2.2.2 q hq
theorem wd_u {D : va_G} {dA : Nat → ClassId} {sa : Nat → Nat} {lo : Nat} {U : State} (h : wd D dA sa lo U) : vx_Zq Bundle.tN "UNASSIGNED_STACK" Bundle.steD (fun q => lo ≤ q) U U.heap := h.2.2.2.2.2.1
theorem wd_v {D : va_G} {dA : Nat → ClassId} {sa : Nat → Nat} {lo : Nat} {U : State} (h : wd D dA sa lo U) : vx_Zq Bundle.tN "SUPPRESSED_SENTINEL" Bundle.listD (fun q => lo ≤ q) U U.heap := h.2.2.2.2.2.2.1
theorem wd_use {D : va_G} {dA : Nat → ClassId} {sa : Nat → Nat} {lo : Nat} {s U : State} {H : Heap} {locs : List Loc} (h : wd D dA sa lo s) (hS : va_S (fun q => lo ≤ q) s.heap H locs) (hU : U.heap = H) (hW : s.WarmedH U.vm) : wd D dA sa lo U := by
  obtain ⟨h1, h2, h3, h4, h5, h6, h7, h8⟩ := h
  refine ⟨va_K.moved hW.alike h1, by rw [hU]; exact Nat.le_trans h2 hS.1, fun w hw => nest_warm hW w hw (h3 w hw), va_AO.moved hW.alike h4, va_AO.moved hW.alike h5, ?_, ?_, fun q hq => vk_R.warm hW (h8 q hq)⟩
  · rw [hU]; exact vx_Zq.moved hW.alike (h6.kept hS.2.1)
  · rw [hU]; exact vx_Zq.moved hW.alike (h7.kept hS.2.1)
theorem wd_calling {D : va_G} {dA : Nat → ClassId} {sa : Nat → Nat} {lo : Nat} {U : State} {g : JFrame} {mk : MethodId} {a : Array Value} (h : wd D dA sa lo U) : wd D dA sa lo (U.calling g mk a) :=
  wd_use (s := U) (U := U.calling g mk a) (H := U.heap) (locs := []) h va_S.rf rfl (State.WarmedH.refl U)
def ivP (D : va_G) (dA : Nat → ClassId) (sa : Nat → Nat) (lo : Nat) (al : Nat → Nat → Nat) (σ μ : CS) (U : State) : Prop := Inv D dA lo al σ μ U.heap ∧ wd D dA sa lo U
def ivB (D : va_G) (dA : Nat → ClassId) (lo : Nat) (al : Nat → Nat → Nat) (μ : CS) (σ : CS) (t : State) : Prop := Inv D dA lo al σ μ t.heap
def ivM (D : va_G) (dA : Nat → ClassId) (lo : Nat) (al : Nat → Nat → Nat) (σ : CS) (μ : CS) (t : State) : Prop := Inv D dA lo al σ μ t.heap
theorem iv_bl {D : va_G} {dA : Nat → ClassId} {sa : Nat → Nat} {lo : Nat} {al : Nat → Nat → Nat} {σ μ : CS} {av : List Value} : FrameBlind (va_Pc av (ivP D dA sa lo al σ μ)) := fun _ _ _ _ q => ⟨q.1, q.2.1, wd_calling q.2.2⟩
theorem iv_use {D : va_G} {dA : Nat → ClassId} {sa : Nat → Nat} {lo : Nat} {al : Nat → Nat → Nat} {σ μ : CS} {s U : State} {H : Heap} {locs : List Loc} (hI : Inv D dA lo al σ μ H) (hwd : wd D dA sa lo s) (hS : va_S (fun q => lo ≤ q) s.heap H locs) (hU : U.heap = H) (hW : s.WarmedH U.vm) : ivP D dA sa lo al σ μ U := ⟨by rw [hU]; exact hI, wd_use hwd hS hU hW⟩
theorem iv_take {D : va_G} {dA : Nat → ClassId} {lo : Nat} {al : Nat → Nat → Nat} {σ μ : CS} {t : State} {H : Heap} (ht : t.heap = H) (h : ivB D dA lo al μ σ t) : Inv D dA lo al σ μ H := by rw [← ht]; exact h
theorem iv_give {D : va_G} {dA : Nat → ClassId} {lo : Nat} {al : Nat → Nat → Nat} {σ μ : CS} {t : State} {H : Heap} (ht : t.heap = H) (h : Inv D dA lo al σ μ H) : ivB D dA lo al μ σ t := by unfold ivB; rw [ht]; exact h
theorem iv_giveM {D : va_G} {dA : Nat → ClassId} {lo : Nat} {al : Nat → Nat → Nat} {σ μ : CS} {t : State} {H : Heap} (ht : t.heap = H) (h : Inv D dA lo al σ μ H) : ivM D dA lo al σ μ t := by unfold ivM; rw [ht]; exact h
theorem iv_takeM {D : va_G} {dA : Nat → ClassId} {lo : Nat} {al : Nat → Nat → Nat} {σ μ : CS} {t : State} {H : Heap} (ht : t.heap = H) (h : ivM D dA lo al σ μ t) : Inv D dA lo al σ μ H := by rw [← ht]; exact h
section INV
variable {D : va_G} {dA : Nat → ClassId} {lo : Nat} {al : Nat → Nat → Nat} {σ μ : CS} {H H1 : Heap}
theorem iv_kept (h : Inv D dA lo al σ μ H) (hq : ∀ q : Nat, q < H.size → H1[q]? = H[q]?) : Inv D dA lo al σ μ H1 :=
  ⟨fun k i e he => ⟨va_at.kept (h.1 k i e he).1 (hq _ (va_at.lt (h.1 k i e he).1)), (h.1 k i e he).2⟩, h.2⟩
theorem iv_set {σ' μ' : CS} {k i : Nat} {e0 e : va_E} (h : Inv D dA lo al σ μ H) (h0 : ent dA al σ μ k i = some e0) (h1 : ent dA al σ' μ' k i = some e) (hne : ∀ k' i' : Nat, ¬ (k' = k ∧ i' = i) → ent dA al σ' μ' k' i' = ent dA al σ μ k' i')
    (hat : va_at D vwCl (al k i, e) H1) (ho : ∀ q : Nat, q ≠ al k i → H1[q]? = H[q]?) : Inv D dA lo al σ' μ' H1 := by
  have dom : ∀ (k' i' : Nat) (e' : va_E), ent dA al σ' μ' k' i' = some e' → ∃ e'', ent dA al σ μ k' i' = some e'' := by
    intro k' i' e' he
    by_cases hc : k' = k ∧ i' = i
    · obtain ⟨rfl, rfl⟩ := hc; exact ⟨_, h0⟩
    · exact ⟨e', by rw [← hne k' i' hc]; exact he⟩
  refine ⟨fun k' i' e' he => ?_, fun a b a' b' x y hx hy hxy => ?_⟩
  · by_cases hc : k' = k ∧ i' = i
    · obtain ⟨rfl, rfl⟩ := hc
      cases h1.symm.trans he
      exact ⟨hat, (h.1 _ _ _ h0).2⟩
    · rw [hne k' i' hc] at he
      exact ⟨va_at.kept (h.1 k' i' e' he).1 (ho _ (fun q => hc (h.2 k' i' k i e' e0 he h0 q))), (h.1 k' i' e' he).2⟩
  · obtain ⟨x', hx'⟩ := dom a b x hx
    obtain ⟨y', hy'⟩ := dom a' b' y hy
    exact h.2 a b a' b' x' y' hx' hy' hxy
theorem ent_C {k i : Nat} (hk : k < 8) : ent dA al σ μ k i = cellC dA al (nG σ) (nR σ) k i (fI σ k i) (fL σ k i) (fR σ k i) := if_pos hk
theorem ent_M {k i : Nat} (hk : ¬ k < 8) : ent dA al σ μ k i = cellM dA al k i (fI μ k i) (fL μ k i) := if_neg hk
theorem ent_neI {k i f : Nat} {v : Int32} {k' i' : Nat} (h : ¬ (k' = k ∧ i' = i)) : ent dA al (uI σ k i f v) μ k' i' = ent dA al σ μ k' i' := by
  unfold ent uI
  simp only [fI, fL, fR, nG, nR, up3_ne _ f v h]
theorem ent_neL {k i f : Nat} {v : Int64} {k' i' : Nat} (h : ¬ (k' = k ∧ i' = i)) : ent dA al (uL σ k i f v) μ k' i' = ent dA al σ μ k' i' := by
  unfold ent uL
  simp only [fI, fL, fR, nG, nR, up3_ne _ f v h]
theorem ent_neR {k i f : Nat} {v : Option Nat} {k' i' : Nat} (h : ¬ (k' = k ∧ i' = i)) : ent dA al (uR σ k i f v) μ k' i' = ent dA al σ μ k' i' := by
  unfold ent uR
  simp only [fI, fL, fR, nG, nR, up3_ne _ f v h]
theorem ent_neIM {k i f : Nat} {v : Int32} {k' i' : Nat} (h : ¬ (k' = k ∧ i' = i)) : ent dA al σ (uI μ k i f v) k' i' = ent dA al σ μ k' i' := by
  unfold ent uI
  simp only [fI, fL, fR, nG, nR, up3_ne _ f v h]
theorem ent_neLM {k i f : Nat} {v : Int64} {k' i' : Nat} (h : ¬ (k' = k ∧ i' = i)) : ent dA al σ (uL μ k i f v) k' i' = ent dA al σ μ k' i' := by
  unfold ent uL
  simp only [fI, fL, fR, nG, nR, up3_ne _ f v h]
/-- a field or an element of the class's objects is stored -/
theorem iv_uI {k i f : Nat} {v : Int32} {e0 e : va_E} (h : Inv D dA lo al σ μ H) (hk : k < 8) (h0 : cellC dA al (nG σ) (nR σ) k i (fI σ k i) (fL σ k i) (fR σ k i) = some e0) (h1 : cellC dA al (nG σ) (nR σ) k i (va_up (fI σ k i) f v) (fL σ k i) (fR σ k i) = some e)
    {A : Nat → Prop} {H0 : Heap} {locs1 : List Loc} (hq : sx_K D vwCl A H0 H (al k i) e H1 locs1) : Inv D dA lo al (uI σ k i f v) μ H1 :=
  iv_set h (by rw [ent_C hk]; exact h0) (by rw [ent_C hk, ← h1]; unfold uI; simp only [fI, fL, fR, nG, nR, up3_at]) (fun _ _ hc => ent_neI hc) hq.1 hq.2.2.1
theorem iv_uL {k i f : Nat} {v : Int64} {e0 e : va_E} (h : Inv D dA lo al σ μ H) (hk : k < 8) (h0 : cellC dA al (nG σ) (nR σ) k i (fI σ k i) (fL σ k i) (fR σ k i) = some e0) (h1 : cellC dA al (nG σ) (nR σ) k i (fI σ k i) (va_up (fL σ k i) f v) (fR σ k i) = some e)
    {A : Nat → Prop} {H0 : Heap} {locs1 : List Loc} (hq : sx_K D vwCl A H0 H (al k i) e H1 locs1) : Inv D dA lo al (uL σ k i f v) μ H1 :=
  iv_set h (by rw [ent_C hk]; exact h0) (by rw [ent_C hk, ← h1]; unfold uL; simp only [fI, fL, fR, nG, nR, up3_at]) (fun _ _ hc => ent_neL hc) hq.1 hq.2.2.1
theorem iv_uR {k i f : Nat} {v : Option Nat} {e0 e : va_E} (h : Inv D dA lo al σ μ H) (hk : k < 8) (h0 : cellC dA al (nG σ) (nR σ) k i (fI σ k i) (fL σ k i) (fR σ k i) = some e0) (h1 : cellC dA al (nG σ) (nR σ) k i (fI σ k i) (fL σ k i) (va_up (fR σ k i) f v) = some e)
    {A : Nat → Prop} {H0 : Heap} {locs1 : List Loc} (hq : sx_K D vwCl A H0 H (al k i) e H1 locs1) : Inv D dA lo al (uR σ k i f v) μ H1 :=
  iv_set h (by rw [ent_C hk]; exact h0) (by rw [ent_C hk, ← h1]; unfold uR; simp only [fI, fL, fR, nG, nR, up3_at]) (fun _ _ hc => ent_neR hc) hq.1 hq.2.2.1
/-- .. of the model's -/
theorem iv_mI {k i f : Nat} {v : Int32} {e0 e : va_E} (h : Inv D dA lo al σ μ H) (hk : ¬ k < 8) (h0 : cellM dA al k i (fI μ k i) (fL μ k i) = some e0) (h1 : cellM dA al k i (va_up (fI μ k i) f v) (fL μ k i) = some e)
    {A : Nat → Prop} {H0 : Heap} {locs1 : List Loc} (hq : sx_K D vwCl A H0 H (al k i) e H1 locs1) : Inv D dA lo al σ (uI μ k i f v) H1 :=
  iv_set h (by rw [ent_M hk]; exact h0) (by rw [ent_M hk, ← h1]; unfold uI; simp only [fI, fL, fR, nG, nR, up3_at]) (fun _ _ hc => ent_neIM hc) hq.1 hq.2.2.1
theorem iv_mL {k i f : Nat} {v : Int64} {e0 e : va_E} (h : Inv D dA lo al σ μ H) (hk : ¬ k < 8) (h0 : cellM dA al k i (fI μ k i) (fL μ k i) = some e0) (h1 : cellM dA al k i (fI μ k i) (va_up (fL μ k i) f v) = some e)
    {A : Nat → Prop} {H0 : Heap} {locs1 : List Loc} (hq : sx_K D vwCl A H0 H (al k i) e H1 locs1) : Inv D dA lo al σ (uL μ k i f v) H1 :=
  iv_set h (by rw [ent_M hk]; exact h0) (by rw [ent_M hk, ← h1]; unfold uL; simp only [fI, fL, fR, nG, nR, up3_at]) (fun _ _ hc => ent_neLM hc) hq.1 hq.2.2.1
/-- the cells -/
theorem iv_c (h : Inv D dA lo al σ μ H) {k i : Nat} {e : va_E} (hk : k < 8) (he : cellC dA al (nG σ) (nR σ) k i (fI σ k i) (fL σ k i) (fR σ k i) = some e) : va_at D vwCl (al k i, e) H := (h.1 k i e (by rw [ent_C hk]; exact he)).1
theorem iv_cA (h : Inv D dA lo al σ μ H) {k i : Nat} {e : va_E} (hk : k < 8) (he : cellC dA al (nG σ) (nR σ) k i (fI σ k i) (fL σ k i) (fR σ k i) = some e) : lo ≤ al k i := (h.1 k i e (by rw [ent_C hk]; exact he)).2
theorem iv_m (h : Inv D dA lo al σ μ H) {k i : Nat} {e : va_E} (hk : ¬ k < 8) (he : cellM dA al k i (fI μ k i) (fL μ k i) = some e) : va_at D vwCl (al k i, e) H := (h.1 k i e (by rw [ent_M hk]; exact he)).1
theorem iv_mA (h : Inv D dA lo al σ μ H) {k i : Nat} {e : va_E} (hk : ¬ k < 8) (he : cellM dA al k i (fI μ k i) (fL μ k i) = some e) : lo ≤ al k i := (h.1 k i e (by rw [ent_M hk]; exact he)).2
theorem iv_inj (h : Inv D dA lo al σ μ H) {i j : Nat} (hi : i < nG σ) (hj : j < nG σ) (e : al 1 i = al 1 j) : i = j := (h.2 1 i 1 j _ _ (if_pos hi) (if_pos hj) e).2
end INV
theorem up_map (al : Nat → Nat) (f : Nat → Option Nat) (k v : Nat) : (fun j => (va_up f k (some v) j).map al) = va_up (fun j => (f j).map al) k (some (al v)) := by
  funext j
  by_cases h : j = k <;> simp [va_up, h]
theorem up_mapN (al : Nat → Nat) (f : Nat → Option Nat) (k : Nat) : (fun j => (va_up f k none j).map al) = va_up (fun j => (f j).map al) k none := by
  funext j
  by_cases h : j = k <;> simp [va_up, h]
section CEL
variable {D : va_G} {dA : Nat → ClassId} {lo : Nat} {al : Nat → Nat → Nat} {σ μ : CS} {H H1 : Heap} {A : Nat → Prop} {H0 : Heap} {locs1 : List Loc} {f i : Nat}
theorem c0_at (h : Inv D dA lo al σ μ H) : va_at D vwCl (al 0 0, .inr (0, encB al (fI σ 0 0) (fL σ 0 0) (fR σ 0 0))) H := iv_c h (by decide) rfl
theorem c0_lo (h : Inv D dA lo al σ μ H) : lo ≤ al 0 0 := iv_cA h (by decide) rfl
theorem c0_uI {v : Int32} {fs : List Value} (h : Inv D dA lo al σ μ H) (he : encB al (va_up (fI σ 0 0) f v) (fL σ 0 0) (fR σ 0 0) = fs) (hq : sx_K D vwCl A H0 H (al 0 0) (.inr (0, fs)) H1 locs1) : Inv D dA lo al (uI σ 0 0 f v) μ H1 := by
  subst he
  exact iv_uI h (by decide) rfl rfl hq
theorem c0_uR {v : Option Nat} {fs : List Value} (h : Inv D dA lo al σ μ H) (he : encB al (fI σ 0 0) (fL σ 0 0) (va_up (fR σ 0 0) f v) = fs) (hq : sx_K D vwCl A H0 H (al 0 0) (.inr (0, fs)) H1 locs1) : Inv D dA lo al (uR σ 0 0 f v) μ H1 := by
  subst he
  exact iv_uR h (by decide) rfl rfl hq
theorem c1_at (h : Inv D dA lo al σ μ H) (hi : i < nG σ) : va_at D vwCl (al 1 i, .inr (1, encG al i (fI σ 1 i) (fL σ 1 i) (fR σ 1 i))) H := iv_c h (by decide) (if_pos hi)
theorem c1_lo (h : Inv D dA lo al σ μ H) (hi : i < nG σ) : lo ≤ al 1 i := iv_cA h (by decide) (if_pos hi)
theorem c1_uI {v : Int32} {fs : List Value} (h : Inv D dA lo al σ μ H) (hi : i < nG σ) (he : encG al i (va_up (fI σ 1 i) f v) (fL σ 1 i) (fR σ 1 i) = fs) (hq : sx_K D vwCl A H0 H (al 1 i) (.inr (1, fs)) H1 locs1) : Inv D dA lo al (uI σ 1 i f v) μ H1 := by
  subst he
  exact iv_uI h (by decide) (if_pos hi) (if_pos hi) hq
theorem c1_uL {v : Int64} {fs : List Value} (h : Inv D dA lo al σ μ H) (hi : i < nG σ) (he : encG al i (fI σ 1 i) (va_up (fL σ 1 i) f v) (fR σ 1 i) = fs) (hq : sx_K D vwCl A H0 H (al 1 i) (.inr (1, fs)) H1 locs1) : Inv D dA lo al (uL σ 1 i f v) μ H1 := by
  subst he
  exact iv_uL h (by decide) (if_pos hi) (if_pos hi) hq
theorem c1_uR {v : Option Nat} {fs : List Value} (h : Inv D dA lo al σ μ H) (hi : i < nG σ) (he : encG al i (fI σ 1 i) (fL σ 1 i) (va_up (fR σ 1 i) f v) = fs) (hq : sx_K D vwCl A H0 H (al 1 i) (.inr (1, fs)) H1 locs1) : Inv D dA lo al (uR σ 1 i f v) μ H1 := by
  subst he
  exact iv_uR h (by decide) (if_pos hi) (if_pos hi) hq
theorem c2_at (h : Inv D dA lo al σ μ H) (hi : i < nG σ) : va_at D vwCl (al 2 i, .inr (2, encS (fI σ 2 i))) H := iv_c h (by decide) (if_pos hi)
theorem c2_lo (h : Inv D dA lo al σ μ H) (hi : i < nG σ) : lo ≤ al 2 i := iv_cA h (by decide) (if_pos hi)
theorem c3_at (h : Inv D dA lo al σ μ H) (hi : i < nG σ) : va_at D vwCl (al 3 i, .inr (3, encN (fI σ 3 i) (fL σ 3 i))) H := iv_c h (by decide) (if_pos hi)
theorem c3_lo (h : Inv D dA lo al σ μ H) (hi : i < nG σ) : lo ≤ al 3 i := iv_cA h (by decide) (if_pos hi)
theorem c3_uI {v : Int32} {fs : List Value} (h : Inv D dA lo al σ μ H) (hi : i < nG σ) (he : encN (va_up (fI σ 3 i) f v) (fL σ 3 i) = fs) (hq : sx_K D vwCl A H0 H (al 3 i) (.inr (3, fs)) H1 locs1) : Inv D dA lo al (uI σ 3 i f v) μ H1 := by
  subst he
  exact iv_uI h (by decide) (if_pos hi) (if_pos hi) hq
theorem c3_uL {v : Int64} {fs : List Value} (h : Inv D dA lo al σ μ H) (hi : i < nG σ) (he : encN (fI σ 3 i) (va_up (fL σ 3 i) f v) = fs) (hq : sx_K D vwCl A H0 H (al 3 i) (.inr (3, fs)) H1 locs1) : Inv D dA lo al (uL σ 3 i f v) μ H1 := by
  subst he
  exact iv_uL h (by decide) (if_pos hi) (if_pos hi) hq
theorem c4_at (h : Inv D dA lo al σ μ H) (hi : i < nR σ) : va_at D vwCl (al 4 i, .inr (4, encR al i (fI σ 4 i) (fL σ 4 i))) H := iv_c h (by decide) (if_pos hi)
theorem c4_lo (h : Inv D dA lo al σ μ H) (hi : i < nR σ) : lo ≤ al 4 i := iv_cA h (by decide) (if_pos hi)
theorem c4_uI {v : Int32} {fs : List Value} (h : Inv D dA lo al σ μ H) (hi : i < nR σ) (he : encR al i (va_up (fI σ 4 i) f v) (fL σ 4 i) = fs) (hq : sx_K D vwCl A H0 H (al 4 i) (.inr (4, fs)) H1 locs1) : Inv D dA lo al (uI σ 4 i f v) μ H1 := by
  subst he
  exact iv_uI h (by decide) (if_pos hi) (if_pos hi) hq
theorem c4_uL {v : Int64} {fs : List Value} (h : Inv D dA lo al σ μ H) (hi : i < nR σ) (he : encR al i (fI σ 4 i) (va_up (fL σ 4 i) f v) = fs) (hq : sx_K D vwCl A H0 H (al 4 i) (.inr (4, fs)) H1 locs1) : Inv D dA lo al (uL σ 4 i f v) μ H1 := by
  subst he
  exact iv_uL h (by decide) (if_pos hi) (if_pos hi) hq
theorem c8_at (h : Inv D dA lo al σ μ H) : va_at D vwCl (al 8 0, .inr (5, encM al (fI μ 8 0))) H := iv_m h (by decide) rfl
theorem c8_lo (h : Inv D dA lo al σ μ H) : lo ≤ al 8 0 := iv_mA h (by decide) rfl
theorem c8_uI {v : Int32} {fs : List Value} (h : Inv D dA lo al σ μ H) (he : encM al (va_up (fI μ 8 0) f v) = fs) (hq : sx_K D vwCl A H0 H (al 8 0) (.inr (5, fs)) H1 locs1) : Inv D dA lo al σ (uI μ 8 0 f v) H1 := by
  subst he
  exact iv_mI h (by decide) rfl rfl hq
theorem c5_at (h : Inv D dA lo al σ μ H) (hi : i < nR σ) : va_at D vwCl (al 5 i, .inl (dA 3, 4, .inr (.inr (.inr (.inr (fun j => (fR σ 5 i j).map (al 1))))))) H := iv_c h (by decide) (if_pos hi)
theorem c5_lo (h : Inv D dA lo al σ μ H) (hi : i < nR σ) : lo ≤ al 5 i := iv_cA h (by decide) (if_pos hi)
theorem c5_uR {v : Nat} (h : Inv D dA lo al σ μ H) (hi : i < nR σ) (hq : sx_K D vwCl A H0 H (al 5 i) (.inl (dA 3, 4, .inr (.inr (.inr (.inr (va_up (fun j => (fR σ 5 i j).map (al 1)) f (some (al 1 v)))))))) H1 locs1) : Inv D dA lo al (uR σ 5 i f (some v)) μ H1 := by
  rw [← up_map (al 1)] at hq
  exact iv_uR h (by decide) (if_pos hi) (if_pos hi) hq
theorem c6_at (h : Inv D dA lo al σ μ H) (hi : i < nR σ) : va_at D vwCl (al 6 i, .inl (dA 1, 4, .inr (.inl (fL σ 6 i)))) H := iv_c h (by decide) (if_pos hi)
theorem c6_lo (h : Inv D dA lo al σ μ H) (hi : i < nR σ) : lo ≤ al 6 i := iv_cA h (by decide) (if_pos hi)
theorem c6_uL {v : Int64} (h : Inv D dA lo al σ μ H) (hi : i < nR σ) (hq : sx_K D vwCl A H0 H (al 6 i) (.inl (dA 1, 4, .inr (.inl (va_up (fL σ 6 i) f v)))) H1 locs1) : Inv D dA lo al (uL σ 6 i f v) μ H1 := by
  exact iv_uL h (by decide) (if_pos hi) (if_pos hi) hq
theorem c7_0_at (h : Inv D dA lo al σ μ H) : va_at D vwCl (al 7 0, .inl (dA 3, 20, .inr (.inr (.inr (.inr (fun j => (fR σ 7 0 j).map (al 1))))))) H := iv_c h (by decide) rfl
theorem c7_0_lo (h : Inv D dA lo al σ μ H) : lo ≤ al 7 0 := iv_cA h (by decide) rfl
theorem c7_0_uR {v : Nat} (h : Inv D dA lo al σ μ H) (hq : sx_K D vwCl A H0 H (al 7 0) (.inl (dA 3, 20, .inr (.inr (.inr (.inr (va_up (fun j => (fR σ 7 0 j).map (al 1)) f (some (al 1 v)))))))) H1 locs1) : Inv D dA lo al (uR σ 7 0 f (some v)) μ H1 := by
  rw [← up_map (al 1)] at hq
  exact iv_uR h (by decide) rfl rfl hq
theorem c7_1_at (h : Inv D dA lo al σ μ H) : va_at D vwCl (al 7 1, .inl (dA 3, 8, .inr (.inr (.inr (.inr (fun j => (fR σ 7 1 j).map (al 1))))))) H := iv_c h (by decide) rfl
theorem c7_1_lo (h : Inv D dA lo al σ μ H) : lo ≤ al 7 1 := iv_cA h (by decide) rfl
theorem c7_1_uR {v : Nat} (h : Inv D dA lo al σ μ H) (hq : sx_K D vwCl A H0 H (al 7 1) (.inl (dA 3, 8, .inr (.inr (.inr (.inr (va_up (fun j => (fR σ 7 1 j).map (al 1)) f (some (al 1 v)))))))) H1 locs1) : Inv D dA lo al (uR σ 7 1 f (some v)) μ H1 := by
  rw [← up_map (al 1)] at hq
  exact iv_uR h (by decide) rfl rfl hq
theorem c7_2_at (h : Inv D dA lo al σ μ H) : va_at D vwCl (al 7 2, .inl (dA 4, 60, .inr (.inr (.inr (.inr (fun j => (fR σ 7 2 j).map (al 4))))))) H := iv_c h (by decide) rfl
theorem c7_2_lo (h : Inv D dA lo al σ μ H) : lo ≤ al 7 2 := iv_cA h (by decide) rfl
theorem c7_2_uR {v : Nat} (h : Inv D dA lo al σ μ H) (hq : sx_K D vwCl A H0 H (al 7 2) (.inl (dA 4, 60, .inr (.inr (.inr (.inr (va_up (fun j => (fR σ 7 2 j).map (al 4)) f (some (al 4 v)))))))) H1 locs1) : Inv D dA lo al (uR σ 7 2 f (some v)) μ H1 := by
  rw [← up_map (al 4)] at hq
  exact iv_uR h (by decide) rfl rfl hq
theorem c7_3_at (h : Inv D dA lo al σ μ H) : va_at D vwCl (al 7 3, .inl (dA 2, 4, .inl (fI σ 7 3))) H := iv_c h (by decide) rfl
theorem c7_3_lo (h : Inv D dA lo al σ μ H) : lo ≤ al 7 3 := iv_cA h (by decide) rfl
theorem c7_3_uI {v : Int32} (h : Inv D dA lo al σ μ H) (hq : sx_K D vwCl A H0 H (al 7 3) (.inl (dA 2, 4, .inl (va_up (fI σ 7 3) f v))) H1 locs1) : Inv D dA lo al (uI σ 7 3 f v) μ H1 := by
  exact iv_uI h (by decide) rfl rfl hq
theorem c7_4_at (h : Inv D dA lo al σ μ H) : va_at D vwCl (al 7 4, .inl (dA 0, 4, .inl (fI σ 7 4))) H := iv_c h (by decide) rfl
theorem c7_4_lo (h : Inv D dA lo al σ μ H) : lo ≤ al 7 4 := iv_cA h (by decide) rfl
theorem c7_4_uI {v : Int32} (h : Inv D dA lo al σ μ H) (hq : sx_K D vwCl A H0 H (al 7 4) (.inl (dA 0, 4, .inl (va_up (fI σ 7 4) f v))) H1 locs1) : Inv D dA lo al (uI σ 7 4 f v) μ H1 := by
  exact iv_uI h (by decide) rfl rfl hq
theorem c9_0_at (h : Inv D dA lo al σ μ H) : va_at D vwCl (al 9 0, .inl (dA 0, 21, .inl (fI μ 9 0))) H := iv_m h (by decide) rfl
theorem c9_0_lo (h : Inv D dA lo al σ μ H) : lo ≤ al 9 0 := iv_mA h (by decide) rfl
theorem c9_0_uI {v : Int32} (h : Inv D dA lo al σ μ H) (hq : sx_K D vwCl A H0 H (al 9 0) (.inl (dA 0, 21, .inl (va_up (fI μ 9 0) f v))) H1 locs1) : Inv D dA lo al σ (uI μ 9 0 f v) H1 := by
  exact iv_mI h (by decide) rfl rfl hq
theorem c9_1_at (h : Inv D dA lo al σ μ H) : va_at D vwCl (al 9 1, .inl (dA 1, 21, .inr (.inl (fL μ 9 1)))) H := iv_m h (by decide) rfl
theorem c9_1_lo (h : Inv D dA lo al σ μ H) : lo ≤ al 9 1 := iv_mA h (by decide) rfl
theorem c9_1_uL {v : Int64} (h : Inv D dA lo al σ μ H) (hq : sx_K D vwCl A H0 H (al 9 1) (.inl (dA 1, 21, .inr (.inl (va_up (fL μ 9 1) f v)))) H1 locs1) : Inv D dA lo al σ (uL μ 9 1 f v) H1 := by
  exact iv_mL h (by decide) rfl rfl hq
theorem c9_2_at (h : Inv D dA lo al σ μ H) : va_at D vwCl (al 9 2, .inl (dA 0, 21, .inl (fI μ 9 2))) H := iv_m h (by decide) rfl
theorem c9_2_lo (h : Inv D dA lo al σ μ H) : lo ≤ al 9 2 := iv_mA h (by decide) rfl
theorem c9_2_uI {v : Int32} (h : Inv D dA lo al σ μ H) (hq : sx_K D vwCl A H0 H (al 9 2) (.inl (dA 0, 21, .inl (va_up (fI μ 9 2) f v))) H1 locs1) : Inv D dA lo al σ (uI μ 9 2 f v) H1 := by
  exact iv_mI h (by decide) rfl rfl hq
theorem c9_3_at (h : Inv D dA lo al σ μ H) : va_at D vwCl (al 9 3, .inl (dA 0, 21, .inl (fI μ 9 3))) H := iv_m h (by decide) rfl
theorem c9_3_lo (h : Inv D dA lo al σ μ H) : lo ≤ al 9 3 := iv_mA h (by decide) rfl
theorem c9_3_uI {v : Int32} (h : Inv D dA lo al σ μ H) (hq : sx_K D vwCl A H0 H (al 9 3) (.inl (dA 0, 21, .inl (va_up (fI μ 9 3) f v))) H1 locs1) : Inv D dA lo al σ (uI μ 9 3 f v) H1 := by
  exact iv_mI h (by decide) rfl rfl hq
theorem c9_4_at (h : Inv D dA lo al σ μ H) : va_at D vwCl (al 9 4, .inl (dA 2, 21, .inl (fI μ 9 4))) H := iv_m h (by decide) rfl
theorem c9_4_lo (h : Inv D dA lo al σ μ H) : lo ≤ al 9 4 := iv_mA h (by decide) rfl
theorem c9_4_uI {v : Int32} (h : Inv D dA lo al σ μ H) (hq : sx_K D vwCl A H0 H (al 9 4) (.inl (dA 2, 21, .inl (va_up (fI μ 9 4) f v))) H1 locs1) : Inv D dA lo al σ (uI μ 9 4 f v) H1 := by
  exact iv_mI h (by decide) rfl rfl hq
theorem c9_5_at (h : Inv D dA lo al σ μ H) : va_at D vwCl (al 9 5, .inl (dA 0, 21, .inl (fI μ 9 5))) H := iv_m h (by decide) rfl
theorem c9_5_lo (h : Inv D dA lo al σ μ H) : lo ≤ al 9 5 := iv_mA h (by decide) rfl
theorem c9_5_uI {v : Int32} (h : Inv D dA lo al σ μ H) (hq : sx_K D vwCl A H0 H (al 9 5) (.inl (dA 0, 21, .inl (va_up (fI μ 9 5) f v))) H1 locs1) : Inv D dA lo al σ (uI μ 9 5 f v) H1 := by
  exact iv_mI h (by decide) rfl rfl hq
theorem c9_6_at (h : Inv D dA lo al σ μ H) : va_at D vwCl (al 9 6, .inl (dA 2, 21, .inl (fI μ 9 6))) H := iv_m h (by decide) rfl
theorem c9_6_lo (h : Inv D dA lo al σ μ H) : lo ≤ al 9 6 := iv_mA h (by decide) rfl
theorem c9_6_uI {v : Int32} (h : Inv D dA lo al σ μ H) (hq : sx_K D vwCl A H0 H (al 9 6) (.inl (dA 2, 21, .inl (va_up (fI μ 9 6) f v))) H1 locs1) : Inv D dA lo al σ (uI μ 9 6 f v) H1 := by
  exact iv_mI h (by decide) rfl rfl hq
theorem c9_7_at (h : Inv D dA lo al σ μ H) : va_at D vwCl (al 9 7, .inl (dA 0, 21, .inl (fI μ 9 7))) H := iv_m h (by decide) rfl
theorem c9_7_lo (h : Inv D dA lo al σ μ H) : lo ≤ al 9 7 := iv_mA h (by decide) rfl
theorem c9_7_uI {v : Int32} (h : Inv D dA lo al σ μ H) (hq : sx_K D vwCl A H0 H (al 9 7) (.inl (dA 0, 21, .inl (va_up (fI μ 9 7) f v))) H1 locs1) : Inv D dA lo al σ (uI μ 9 7 f v) H1 := by
  exact iv_mI h (by decide) rfl rfl hq
theorem c9_8_at (h : Inv D dA lo al σ μ H) : va_at D vwCl (al 9 8, .inl (dA 1, 21, .inr (.inl (fL μ 9 8)))) H := iv_m h (by decide) rfl
theorem c9_8_lo (h : Inv D dA lo al σ μ H) : lo ≤ al 9 8 := iv_mA h (by decide) rfl
theorem c9_8_uL {v : Int64} (h : Inv D dA lo al σ μ H) (hq : sx_K D vwCl A H0 H (al 9 8) (.inl (dA 1, 21, .inr (.inl (va_up (fL μ 9 8) f v)))) H1 locs1) : Inv D dA lo al σ (uL μ 9 8 f v) H1 := by
  exact iv_mL h (by decide) rfl rfl hq
theorem c9_9_at (h : Inv D dA lo al σ μ H) : va_at D vwCl (al 9 9, .inl (dA 1, 21, .inr (.inl (fL μ 9 9)))) H := iv_m h (by decide) rfl
theorem c9_9_lo (h : Inv D dA lo al σ μ H) : lo ≤ al 9 9 := iv_mA h (by decide) rfl
theorem c9_9_uL {v : Int64} (h : Inv D dA lo al σ μ H) (hq : sx_K D vwCl A H0 H (al 9 9) (.inl (dA 1, 21, .inr (.inl (va_up (fL μ 9 9) f v)))) H1 locs1) : Inv D dA lo al σ (uL μ 9 9 f v) H1 := by
  exact iv_mL h (by decide) rfl rfl hq
theorem c9_10_at (h : Inv D dA lo al σ μ H) : va_at D vwCl (al 9 10, .inl (dA 0, 21, .inl (fI μ 9 10))) H := iv_m h (by decide) rfl
theorem c9_10_lo (h : Inv D dA lo al σ μ H) : lo ≤ al 9 10 := iv_mA h (by decide) rfl
theorem c9_10_uI {v : Int32} (h : Inv D dA lo al σ μ H) (hq : sx_K D vwCl A H0 H (al 9 10) (.inl (dA 0, 21, .inl (va_up (fI μ 9 10) f v))) H1 locs1) : Inv D dA lo al σ (uI μ 9 10 f v) H1 := by
  exact iv_mI h (by decide) rfl rfl hq
theorem c9_11_at (h : Inv D dA lo al σ μ H) : va_at D vwCl (al 9 11, .inl (dA 0, 20, .inl (fI μ 9 11))) H := iv_m h (by decide) rfl
theorem c9_11_lo (h : Inv D dA lo al σ μ H) : lo ≤ al 9 11 := iv_mA h (by decide) rfl
theorem c9_11_uI {v : Int32} (h : Inv D dA lo al σ μ H) (hq : sx_K D vwCl A H0 H (al 9 11) (.inl (dA 0, 20, .inl (va_up (fI μ 9 11) f v))) H1 locs1) : Inv D dA lo al σ (uI μ 9 11 f v) H1 := by
  exact iv_mI h (by decide) rfl rfl hq
theorem c9_12_at (h : Inv D dA lo al σ μ H) : va_at D vwCl (al 9 12, .inl (dA 0, 61, .inl (fI μ 9 12))) H := iv_m h (by decide) rfl
theorem c9_12_lo (h : Inv D dA lo al σ μ H) : lo ≤ al 9 12 := iv_mA h (by decide) rfl
theorem c9_12_uI {v : Int32} (h : Inv D dA lo al σ μ H) (hq : sx_K D vwCl A H0 H (al 9 12) (.inl (dA 0, 61, .inl (va_up (fI μ 9 12) f v))) H1 locs1) : Inv D dA lo al σ (uI μ 9 12 f v) H1 := by
  exact iv_mI h (by decide) rfl rfl hq
theorem c9_13_at (h : Inv D dA lo al σ μ H) : va_at D vwCl (al 9 13, .inl (dA 1, 61, .inr (.inl (fL μ 9 13)))) H := iv_m h (by decide) rfl
theorem c9_13_lo (h : Inv D dA lo al σ μ H) : lo ≤ al 9 13 := iv_mA h (by decide) rfl
theorem c9_13_uL {v : Int64} (h : Inv D dA lo al σ μ H) (hq : sx_K D vwCl A H0 H (al 9 13) (.inl (dA 1, 61, .inr (.inl (va_up (fL μ 9 13) f v)))) H1 locs1) : Inv D dA lo al σ (uL μ 9 13 f v) H1 := by
  exact iv_mL h (by decide) rfl rfl hq
theorem c9_14_at (h : Inv D dA lo al σ μ H) : va_at D vwCl (al 9 14, .inl (dA 0, 61, .inl (fI μ 9 14))) H := iv_m h (by decide) rfl
theorem c9_14_lo (h : Inv D dA lo al σ μ H) : lo ≤ al 9 14 := iv_mA h (by decide) rfl
theorem c9_14_uI {v : Int32} (h : Inv D dA lo al σ μ H) (hq : sx_K D vwCl A H0 H (al 9 14) (.inl (dA 0, 61, .inl (va_up (fI μ 9 14) f v))) H1 locs1) : Inv D dA lo al σ (uI μ 9 14 f v) H1 := by
  exact iv_mI h (by decide) rfl rfl hq
theorem c9_15_at (h : Inv D dA lo al σ μ H) : va_at D vwCl (al 9 15, .inl (dA 0, 61, .inl (fI μ 9 15))) H := iv_m h (by decide) rfl
theorem c9_15_lo (h : Inv D dA lo al σ μ H) : lo ≤ al 9 15 := iv_mA h (by decide) rfl
theorem c9_15_uI {v : Int32} (h : Inv D dA lo al σ μ H) (hq : sx_K D vwCl A H0 H (al 9 15) (.inl (dA 0, 61, .inl (va_up (fI μ 9 15) f v))) H1 locs1) : Inv D dA lo al σ (uI μ 9 15 f v) H1 := by
  exact iv_mI h (by decide) rfl rfl hq
theorem c9_16_at (h : Inv D dA lo al σ μ H) : va_at D vwCl (al 9 16, .inl (dA 0, 244, .inl (fI μ 9 16))) H := iv_m h (by decide) rfl
theorem c9_16_lo (h : Inv D dA lo al σ μ H) : lo ≤ al 9 16 := iv_mA h (by decide) rfl
theorem c9_16_uI {v : Int32} (h : Inv D dA lo al σ μ H) (hq : sx_K D vwCl A H0 H (al 9 16) (.inl (dA 0, 244, .inl (va_up (fI μ 9 16) f v))) H1 locs1) : Inv D dA lo al σ (uI μ 9 16 f v) H1 := by
  exact iv_mI h (by decide) rfl rfl hq
theorem c9_17_at (h : Inv D dA lo al σ μ H) : va_at D vwCl (al 9 17, .inl (dA 1, 244, .inr (.inl (fL μ 9 17)))) H := iv_m h (by decide) rfl
theorem c9_17_lo (h : Inv D dA lo al σ μ H) : lo ≤ al 9 17 := iv_mA h (by decide) rfl
theorem c9_17_uL {v : Int64} (h : Inv D dA lo al σ μ H) (hq : sx_K D vwCl A H0 H (al 9 17) (.inl (dA 1, 244, .inr (.inl (va_up (fL μ 9 17) f v)))) H1 locs1) : Inv D dA lo al σ (uL μ 9 17 f v) H1 := by
  exact iv_mL h (by decide) rfl rfl hq
theorem c9_18_at (h : Inv D dA lo al σ μ H) : va_at D vwCl (al 9 18, .inl (dA 2, 4, .inl (fI μ 9 18))) H := iv_m h (by decide) rfl
theorem c9_18_lo (h : Inv D dA lo al σ μ H) : lo ≤ al 9 18 := iv_mA h (by decide) rfl
theorem c9_18_uI {v : Int32} (h : Inv D dA lo al σ μ H) (hq : sx_K D vwCl A H0 H (al 9 18) (.inl (dA 2, 4, .inl (va_up (fI μ 9 18) f v))) H1 locs1) : Inv D dA lo al σ (uI μ 9 18 f v) H1 := by
  exact iv_mI h (by decide) rfl rfl hq
theorem c9_19_at (h : Inv D dA lo al σ μ H) : va_at D vwCl (al 9 19, .inl (dA 0, 4, .inl (fI μ 9 19))) H := iv_m h (by decide) rfl
theorem c9_19_lo (h : Inv D dA lo al σ μ H) : lo ≤ al 9 19 := iv_mA h (by decide) rfl
theorem c9_19_uI {v : Int32} (h : Inv D dA lo al σ μ H) (hq : sx_K D vwCl A H0 H (al 9 19) (.inl (dA 0, 4, .inl (va_up (fI μ 9 19) f v))) H1 locs1) : Inv D dA lo al σ (uI μ 9 19 f v) H1 := by
  exact iv_mI h (by decide) rfl rfl hq
theorem c10_at (h : Inv D dA lo al σ μ H) : va_at D vwCl (al 10 0, .inl (dA 1, 1, .inr (.inl (fL μ 10 0)))) H := iv_m h (by decide) rfl
theorem c10_lo (h : Inv D dA lo al σ μ H) : lo ≤ al 10 0 := iv_mA h (by decide) rfl
theorem c10_uL {v : Int64} (h : Inv D dA lo al σ μ H) (hq : sx_K D vwCl A H0 H (al 10 0) (.inl (dA 1, 1, .inr (.inl (va_up (fL μ 10 0) f v)))) H1 locs1) : Inv D dA lo al σ (uL μ 10 0 f v) H1 := by
  exact iv_mL h (by decide) rfl rfl hq
end CEL
end
section
/-! WHAT THE CLASS'S METHODS DO TO THE STATE, in the order of their own steps -/
def b2i (b : Bool) : Int32 := if b then 1 else 0
theorem b2i_t {b : Bool} (h : b = true) : b2i b = 1 := by simp [b2i, h]
theorem b2i_f {b : Bool} (h : ¬ b = true) : b2i b = 0 := by simp [b2i, h]
theorem b2i_0 {b : Bool} : b2i b = 0 ↔ ¬ b = true := by cases b <;> simp [b2i]
theorem b2i_n0 {b : Bool} : ¬ b2i b = 0 ↔ b = true := by cases b <;> simp [b2i]
def sMost (u d : Int32) (x : Int64) : Int64 := if u = 0 then 1000000000 else x * d.toInt64 / u.toInt64
def sNeed (u d : Int32) (x : Int64) : Int64 := if d = 0 then 0 else (x * u.toInt64 + d.toInt64 - 1) / d.toInt64
def gUnn (σ : CS) (i : Nat) : Int64 := if fL σ 1 i 5 - fL σ 1 i 6 < 0 then 0 else fL σ 1 i 5 - fL σ 1 i 6
def gRisk (σ : CS) (i : Nat) : Int64 := if fL σ 1 i 6 - fL σ 1 i 5 < 0 then 0 else fL σ 1 i 6 - fL σ 1 i 5
def gMay (σ : CS) (i : Nat) : Int64 := if ¬ fI σ 1 i 9 = 0 ∨ (¬ fI σ 1 i 3 = 0 ∧ ¬ fI σ 1 i 8 ≤ 0) then 0 else sMost (fI σ 2 i 0) (fI σ 2 i 1) (gUnn σ i)
def gNeed (σ : CS) (i : Nat) (x : Int64) : Int64 := sNeed (fI σ 2 i 0) (fI σ 2 i 1) x
def gCh1 (σ : CS) (i : Nat) (b a : Int64) : CS := uL σ 1 i 6 (fL σ 1 i 6 + (gNeed σ i a - gNeed σ i b))
def gCh2 (σ : CS) (i : Nat) (b : Int64) : CS := if b = 0 then uI σ 1 i 8 (fI σ 1 i 8 + 1) else σ
def gCh3 (σ : CS) (i : Nat) (a : Int64) : CS := if a = 0 then uI σ 1 i 8 (fI σ 1 i 8 - 1) else σ
def gChg (σ : CS) (i : Nat) (b a : Int64) : CS := gCh3 (gCh2 (gCh1 σ i b a) i b) i a
def nUp (σ : CS) (i : Nat) (day : Int32) (am : Int64) : Int64 := if fI σ 3 i 3 = 0 then fL σ 3 i 1 + am * (fI σ 3 i 0).toInt64 * (day - fI σ 3 i 2).toInt64 / 3650000 else fL σ 3 i 1
def nEnd (σ : CS) (i : Nat) (day : Int32) (am : Int64) : CS := uI (uL σ 3 i 1 (nUp σ i day am)) 3 i 2 day
def nStop (σ : CS) (i : Nat) (day : Int32) (am : Int64) : CS := uI (nEnd σ i day am) 3 i 3 1
def gLost (σ : CS) (i : Nat) (x : Int64) : Int64 := if x < fL σ 1 i 5 then x else fL σ 1 i 5
def gLo1 (σ : CS) (i : Nat) (y : Int64) : CS := uL σ 1 i 5 (fL σ 1 i 5 - y)
def gLo2 (σ : CS) (i : Nat) (y : Int64) : CS := uL σ 1 i 7 (fL σ 1 i 7 + y)
def gLose (σ : CS) (i : Nat) (x : Int64) (day : Int32) : CS := if gLost σ i x ≤ 0 then σ else gLo2 (gLo1 (nEnd σ i day (fL σ 1 i 5)) i (gLost σ i x)) i (gLost σ i x)
def gShut (σ : CS) (i : Nat) (day : Int32) : CS := uI (nStop σ i day (fL σ 1 i 5)) 1 i 9 1
/-- sums of the first n -/
def sumL (f : Nat → Int64) : Nat → Int64
  | 0 => 0
  | n + 1 => sumL f n + f n
def rBeg (σ : CS) (j : Nat) (h : Int32) (d : Int64) : CS := uI (uL (uI σ 4 j 3 h) 4 j 4 d) 4 j 2 0
def rAdd (σ : CS) (j n g : Nat) (x : Int64) : CS := uI (uL (uR σ 5 j n (some g)) 6 j n x) 4 j 2 (nI n + 1)
def rTell (σ : CS) (j i : Nat) (b a : Int64) : CS := match fR σ 5 j i with
  | some g => gChg σ g b a
  | none => σ
def rBind (σ : CS) (j : Nat) : Nat → CS
  | 0 => σ
  | n + 1 => rTell (rBind σ j n) j n 0 (fL (rBind σ j n) 6 j n)
def rDrop (σ : CS) (j : Nat) : Nat → CS
  | 0 => σ
  | n + 1 => rTell (rDrop σ j n) j n (fL (rDrop σ j n) 6 j n) 0
def lMin (x y : Int64) : Int64 := if y < x then y else x
def rSh1 (σ : CS) (j n : Nat) (left : Int64) : CS := rTell σ j n (fL σ 6 j n) (fL σ 6 j n - lMin left (fL σ 6 j n))
def rSh2 (σ : CS) (j n : Nat) (less : Int64) : CS := uL σ 6 j n (fL σ 6 j n - less)
def rSh3 (σ : CS) (j n : Nat) : CS := if fL σ 6 j n = 0 then uI σ 4 j 2 (nI n) else σ
def rShr (σ : CS) (j : Nat) : Nat → Int64 → CS
  | 0, _ => σ
  | n + 1, left => if left ≤ 0 then σ else rShr (rSh3 (rSh2 (rSh1 σ j n left) j n (lMin left (fL σ 6 j n))) j n) j n (left - lMin left (fL σ 6 j n))
/-- a claim's parts: the state, what is left, what was lost -/
def rTk (σ : CS) (j : Nat) (day : Int32) (c : Int64) : Nat → CS × Int64 × Int64
  | 0 => (σ, c, 0)
  | n + 1 => match fR (rTk σ j day c n).1 5 j n with
    | some g => (gLose (rTk σ j day c n).1 g (lMin (rTk σ j day c n).2.1 (fL (rTk σ j day c n).1 6 j n)) day, (rTk σ j day c n).2.1 - lMin (rTk σ j day c n).2.1 (fL (rTk σ j day c n).1 6 j n), (rTk σ j day c n).2.2 + gLost (rTk σ j day c n).1 g (lMin (rTk σ j day c n).2.1 (fL (rTk σ j day c n).1 6 j n)))
    | none => ((rTk σ j day c n).1, (rTk σ j day c n).2.1 - lMin (rTk σ j day c n).2.1 (fL (rTk σ j day c n).1 6 j n), (rTk σ j day c n).2.2)
/-- a chain of guarantees -/
def Ch (σ : CS) : Option Nat → List Nat → Prop
  | o, [] => o = none
  | o, i :: t => o = some i ∧ i < nG σ ∧ Ch σ (fR σ 1 i 10) t
def sumMay (σ : CS) : List Nat → Int64 → Int64
  | [], v => v
  | i :: t, v => sumMay σ t (v + gMay σ i)
theorem opt_or (o : Option Nat) : o = none ∨ ∃ j, o = some j := by cases o <;> simp
theorem i64_0 {d : Int32} (h : d.toInt64 = 0) : d = 0 := by
  have h1 := congrArg Int64.toInt h
  rw [Int32.toInt_toInt64] at h1
  exact Int32.toInt_inj.mp h1
theorem sw_out3 {x : Int32} (h0 : ¬ x = 0) (h1 : ¬ x = 1) (h2 : ¬ x = 2) (h3 : ¬ x = 3) : x.toInt < 0 ∨ (3 : Int) < x.toInt := by
  have a0 := lv_neT (a := 0) h0 (by decide); have a1 := lv_neT (a := 1) h1 (by decide); have a2 := lv_neT (a := 2) h2 (by decide); have a3 := lv_neT (a := 3) h3 (by decide)
  omega
theorem sw_out4 {x : Int32} (h0 : ¬ x = 0) (h1 : ¬ x = 1) (h2 : ¬ x = 2) (h3 : ¬ x = 3) (h4 : ¬ x = 4) : x.toInt < 0 ∨ (4 : Int) < x.toInt := by
  have a0 := lv_neT (a := 0) h0 (by decide); have a1 := lv_neT (a := 1) h1 (by decide); have a2 := lv_neT (a := 2) h2 (by decide); have a3 := lv_neT (a := 3) h3 (by decide); have a4 := lv_neT (a := 4) h4 (by decide)
  omega
theorem sw_out7 {x : Int32} (h0 : ¬ x = 0) (h1 : ¬ x = 1) (h2 : ¬ x = 2) (h3 : ¬ x = 3) (h4 : ¬ x = 4) (h5 : ¬ x = 5) (h6 : ¬ x = 6) (h7 : ¬ x = 7) : x.toInt < 0 ∨ (7 : Int) < x.toInt := by
  have a0 := lv_neT (a := 0) h0 (by decide); have a1 := lv_neT (a := 1) h1 (by decide); have a2 := lv_neT (a := 2) h2 (by decide); have a3 := lv_neT (a := 3) h3 (by decide); have a4 := lv_neT (a := 4) h4 (by decide); have a5 := lv_neT (a := 5) h5 (by decide); have a6 := lv_neT (a := 6) h6 (by decide); have a7 := lv_neT (a := 7) h7 (by decide)
  omega
theorem sw_out8 {x : Int32} (h0 : ¬ x = 0) (h1 : ¬ x = 1) (h2 : ¬ x = 2) (h3 : ¬ x = 3) (h4 : ¬ x = 4) (h5 : ¬ x = 5) (h6 : ¬ x = 6) (h7 : ¬ x = 7) (h8 : ¬ x = 8) : x.toInt < 0 ∨ (8 : Int) < x.toInt := by
  have a0 := lv_neT (a := 0) h0 (by decide); have a1 := lv_neT (a := 1) h1 (by decide); have a2 := lv_neT (a := 2) h2 (by decide); have a3 := lv_neT (a := 3) h3 (by decide); have a4 := lv_neT (a := 4) h4 (by decide); have a5 := lv_neT (a := 5) h5 (by decide); have a6 := lv_neT (a := 6) h6 (by decide); have a7 := lv_neT (a := 7) h7 (by decide); have a8 := lv_neT (a := 8) h8 (by decide)
  omega
def bp (P : Prop) (d : Decidable P) : Int32 := @ite Int32 P d 1 0
theorem bp_0 {P : Prop} {d : Decidable P} : bp P d = 0 ↔ ¬ P := by unfold bp; split <;> simp [*]
theorem bp_n0 {P : Prop} {d : Decidable P} : ¬ bp P d = 0 ↔ P := by unfold bp; split <;> simp [*]
theorem bp_t {P : Prop} {d : Decidable P} (h : P) : (1 : Int32) = bp P d := by unfold bp; rw [if_pos h]
theorem bp_f {P : Prop} {d : Decidable P} (h : ¬ P) : (0 : Int32) = bp P d := by unfold bp; rw [if_neg h]
abbrev pHold (x : Int32) : Prop := ¬ x < 0 ∧ ¬ 8 ≤ x
abbrev pDesk (x : Int32) : Prop := ¬ x < 0 ∧ ¬ 4 ≤ x
abbrev pCent (x : Int64) : Prop := ¬ x < 1 ∧ ¬ 1000000000 < x
abbrev pShare (u d : Int32) : Prop := ¬ u < 0 ∧ ¬ d < 1 ∧ ¬ 100 < d ∧ ¬ d < u
theorem bp_nar {P : Prop} {d : Decidable P} : narrow .boolean (.int (bp P d)) = .int (bp P d) := by unfold bp; split <;> rfl
theorem num_in {x : Int32} {n : Nat} (h1 : ¬ x < 1) (h2 : ¬ nI n < x) (hn : n < 2 ^ 31) : ∃ i, i < n ∧ x = nI (i + 1) := by
  have h0 : ¬ x < 0 := fun h => h1 (Int32.lt_iff_toInt_lt.mpr (by have := Int32.lt_iff_toInt_lt.mp h; have a : (0 : Int32).toInt = 0 := rfl; have b : (1 : Int32).toInt = 1 := rfl; omega))
  obtain ⟨j, hj, rfl⟩ := nI_of h0
  have a1 : ¬ j < 1 := fun h => h1 ((nI_ltI (a := j) (b := 1) (by omega) (by decide)).mpr h)
  have a2 : ¬ n < j := fun h => h2 ((nI_ltI hn hj).mpr h)
  exact ⟨j - 1, by omega, by rw [show j - 1 + 1 = j by omega]⟩
theorem lp_end {x : Int32} {n k : Nat} (hn : x = nI n) (c : x ≤ nI k) (hk : k ≤ n) (h : n < 2 ^ 31) : k = n := by
  rw [hn] at c
  have := (nI_leI h (by omega)).mp c
  omega
theorem lp_lt {x : Int32} {n k : Nat} (hn : x = nI n) (c : ¬ x ≤ nI k) (h : k < 2 ^ 31) : k < n := by
  rcases Nat.lt_or_ge k n with h1 | h1
  · exact h1
  · exact absurd (by rw [hn]; exact nI_le h1 h) c
/-- the book's own part of the state is well made: n guarantees, r reservations and a draft -/
def WFc (σ : CS) (n r : Nat) : Prop := nG σ = n ∧ nR σ = r + 1 ∧ n ≤ 20 ∧ r ≤ 60 ∧ fI σ 0 0 6 = nI n ∧ fI σ 0 0 7 = nI r ∧ fR σ 0 0 5 = some r ∧ (∀ i, i < n → fR σ 7 0 i = some i) ∧ (∀ j, j < r → fR σ 7 2 j = some j) ∧ (∀ i, i < n → ∃ h, h < 8 ∧ fI σ 1 i 1 = nI h) ∧ (∀ j, j ≤ r → ∃ p, p ≤ 4 ∧ fI σ 4 j 2 = nI p ∧ ∀ k, k < p → ∃ g, fR σ 5 j k = some g ∧ g < n)
def lsAt (σ : CS) (i : Int32) : List Nat → Int32 → Int32
  | [], _ => -1
  | g :: t, a => if a = i then fI σ 1 g 0 else lsAt σ i t (a + 1)
def dLay (σ : CS) (r : Nat) : List Nat → Int64 → Nat → CS × Bool
  | [], w, _ => (σ, decide (w = 0))
  | g :: t, w, n => if w ≤ 0 then (σ, decide (w = 0)) else if lMin w (gMay σ g) ≤ 0 then dLay σ r t (w - lMin w (gMay σ g)) n else if n < 4 then dLay (rAdd σ r n g (lMin w (gMay σ g))) r t (w - lMin w (gMay σ g)) (n + 1) else (σ, false)
def pLast (σ : CS) (h g : Nat) (L : List Nat) : CS := match L.getLast? with
  | none => uR σ 7 1 h (some g)
  | some z => uR σ 1 z 10 (some g)
def pFirst (σ : CS) (h b g : Nat) : CS := uR (uR (uR σ 1 b 10 (fR σ 1 g 10)) 1 g 10 (fR σ 7 1 h)) 7 1 h (some g)
def kDraft (σ : CS) (r n : Nat) : CS := uI (uI (uR (rBind σ r n) 7 2 r (some r)) 0 0 7 (fI (uR (rBind σ r n) 7 2 r (some r)) 0 0 7 + 1)) 0 0 8 (fI (uI (uR (rBind σ r n) 7 2 r (some r)) 0 0 7 (fI (uR (rBind σ r n) 7 2 r (some r)) 0 0 7 + 1)) 0 0 8 + 1)
def rFin (σ : CS) (j : Nat) (how : Int32) : CS := uI (uI σ 4 j 5 how) 0 0 8 (fI (uI σ 4 j 5 how) 0 0 8 - 1)
theorem hold_in {x : Int32} (h : pHold x) : ∃ k : Nat, k < 8 ∧ x = nI k := by
  obtain ⟨h1, h2⟩ := h
  obtain ⟨j, hj, rfl⟩ := nI_of h1
  exact ⟨j, by
    rcases Nat.lt_or_ge j 8 with q | q
    · exact q
    · exact absurd (nI_le (a := 8) q hj) h2, rfl⟩
theorem hold_ok {k : Nat} (h : k < 8) : pHold (nI k) := ⟨nI_pos (by omega), fun q => by have := (nI_leI (a := 8) (b := k) (by decide) (by omega)).mp q; omega⟩
def gIx (x : Int32) (n : Nat) : Option Nat := if x < 1 ∨ nI n < x then none else some ((x - 1).toNatClampNeg)
theorem gIx_some {x : Int32} {n i : Nat} (hi : i < n) (hn : n < 2 ^ 30) (e : x = nI (i + 1)) : gIx x n = some i := by
  subst e
  unfold gIx
  rw [if_neg, nI_pred, nI_clamp (by omega)]
  intro h
  rcases h with h | h
  · have := (nI_ltI (a := i + 1) (b := 1) (by omega) (by decide)).mp h; omega
  · have := (nI_ltI (a := n) (b := i + 1) (by omega) (by omega)).mp h; omega
theorem gIx_none {x : Int32} {n : Nat} (h : x < 1 ∨ nI n < x) : gIx x n = none := if_pos h
def cTick (σ : CS) (x : Int32) : Int32 × CS := if x < fI σ 0 0 9 then (0, σ) else if x ≤ 100000 then (1, uI σ 0 0 9 x) else (0, σ)
def cFails (σ : CS) (x on : Int32) : Int32 × CS := if pDesk x then (if fI σ 7 3 x.toNatClampNeg = on then (0, σ) else (1, uI σ 7 3 x.toNatClampNeg on)) else (0, σ)
def cCount (σ : CS) (x : Int32) : Int32 := if ¬ x < 10 ∧ pDesk (x - 10) then fI σ 7 4 (x - 10).toNatClampNeg else if x = 0 then fI σ 0 0 6 else if x = 1 then fI σ 0 0 7 else if x = 2 then fI σ 0 0 8 else if x = 3 then fI σ 0 0 9 else -1
def cFree (σ : CS) (L : Nat → List Nat) (x : Int32) : Int64 := if pHold x then lMin (sumMay σ (L x.toNatClampNeg) 0) 2000000000 else -1
def cClose (σ : CS) (n : Nat) (x : Int32) : Int32 × CS := match gIx x n with
  | none => (0, σ)
  | some i => if fI σ 1 i 9 = 0 then (1, gShut σ i (fI σ 0 0 9)) else (0, σ)
theorem desk_in {x : Int32} (h : pDesk x) : ∃ k : Nat, k < 4 ∧ x = nI k := by
  obtain ⟨h1, h2⟩ := h
  obtain ⟨j, hj, rfl⟩ := nI_of h1
  exact ⟨j, by
    rcases Nat.lt_or_ge j 4 with q | q
    · exact q
    · exact absurd (nI_le (a := 4) q hj) h2, rfl⟩
theorem desk_vp {x : Int32} (h : pDesk x) : vp_in x 4 := by
  obtain ⟨k, hk, rfl⟩ := desk_in h
  exact vp_in_nI hk (by decide)
theorem rf_nar (C : String) (o : Option Nat) : narrow (.object C) (va_rf o) = va_rf o := by cases o <;> rfl
theorem rf_fit (C : String) (o : Option Nat) : fits (.object C) (va_rf o) = true := by cases o <;> rfl
/-- methods that throw: (0, answer, state), or (1 or 2, 0, the same state) -/
def cInterest (σ : CS) (n : Nat) (x : Int32) : Int32 × Int64 × CS := match gIx x n with
  | none => (1, 0, σ)
  | some i => (0, nUp σ i (fI σ 0 0 9) (fL σ 1 i 5), σ)
def cLook (σ : CS) (n : Nat) (x w : Int32) : Int32 × Int64 × CS := match gIx x n with
  | none => (1, 0, σ)
  | some i => if w = 0 then (0, (fI σ 1 i 1).toInt64, σ) else if w = 1 then (0, fL σ 1 i 5, σ) else if w = 2 then (0, fL σ 1 i 6, σ) else if w = 3 then (0, gUnn σ i, σ) else if w = 4 then (0, gMay σ i, σ) else if w = 5 then (0, (fI σ 1 i 8).toInt64, σ) else if w = 6 then (0, if fI σ 1 i 9 = 0 then 0 else 1, σ) else if w = 7 then (0, gRisk σ i, σ) else if w = 8 then (0, fL σ 1 i 7, σ) else (1, 0, σ)
def pN (σ : CS) (j : Nat) : Nat := (fI σ 4 j 2).toNatClampNeg
theorem pN_of {σ : CS} {j p : Nat} (h : fI σ 4 j 2 = nI p) (hp : p ≤ 4) : pN σ j = p := by unfold pN; rw [h]; exact nI_clamp (by omega)
def rGo (σ : CS) (j : Nat) (how : Int32) : CS := rFin (uI (rDrop σ j (pN σ j)) 4 j 2 0) j how
def rCov (σ : CS) (j : Nat) : Int64 := sumL (fL σ 6 j) (pN σ j)
def cEnd (σ : CS) (r : Nat) (x how : Int32) : Int32 × Int32 × CS := match gIx x r with
  | none => (1, 0, σ)
  | some j => if how = 1 then (if fI σ 4 j 5 = 0 then (0, 1, rGo σ j how) else (0, 0, σ)) else if how = 2 then (if fI σ 4 j 5 = 0 then (0, 1, rGo σ j how) else (0, 0, σ)) else (1, 0, σ)
def cReduce (σ : CS) (r : Nat) (x : Int32) (c : Int64) : Int32 × Int64 × CS := match gIx x r with
  | none => (1, 0, σ)
  | some j => if 1 ≤ c then (if fI σ 4 j 5 = 0 then (if c < rCov σ j then (0, rCov (rShr σ j (pN σ j) c) j, rShr σ j (pN σ j) c) else (0, -1, σ)) else (0, -1, σ)) else (1, 0, σ)
def cClaim (σ : CS) (r : Nat) (x : Int32) (c : Int64) : Int32 × Int64 × CS := match gIx x r with
  | none => (1, 0, σ)
  | some j => if 1 ≤ c then (if fI σ 4 j 5 = 0 then (if c ≤ rCov σ j then (0, (rTk σ j (fI σ 0 0 9) c (pN σ j)).2.2, rGo (rTk σ j (fI σ 0 0 9) c (pN σ j)).1 j 3) else (0, -1, σ)) else (0, -1, σ)) else (1, 0, σ)
abbrev pHas (σ : CS) (j : Nat) (x : Int32) : Prop := ¬ x < 0 ∧ ¬ fI σ 4 j 2 ≤ x
def oNum (σ : CS) (j : Nat) (x : Int32) : Int64 := match fR σ 5 j x.toNatClampNeg with
  | some g => (fI σ 1 g 0).toInt64
  | none => -1
def cOf (σ : CS) (r : Nat) (x w : Int32) : Int32 × Int64 × CS := match gIx x r with
  | none => (1, 0, σ)
  | some j => if pHas σ j (w - 5) then (0, oNum σ j (w - 5), σ) else if pHas σ j (w - 9) then (0, fL σ 6 j (w - 9).toNatClampNeg, σ) else if w = 0 then (0, (fI σ 4 j 3).toInt64, σ) else if w = 1 then (0, fL σ 4 j 4, σ) else if w = 2 then (0, rCov σ j, σ) else if w = 3 then (0, (fI σ 4 j 5).toInt64, σ) else if w = 4 then (0, (fI σ 4 j 2).toInt64, σ) else (1, 0, σ)
theorem has_in {σ : CS} {j p : Nat} {x : Int32} (h : pHas σ j x) (hp : fI σ 4 j 2 = nI p) (h4 : p ≤ 4) : ∃ k, k < p ∧ x = nI k := by
  obtain ⟨h1, h2⟩ := h
  obtain ⟨k, hk, rfl⟩ := nI_of h1
  exact ⟨k, by
    rcases Nat.lt_or_ge k p with q | q
    · exact q
    · exact absurd (by rw [hp]; exact nI_le q hk) h2, rfl⟩
/-! what stays when a part is told, bound or dropped -/
theorem gChg_I {σ : CS} {i : Nat} {b a : Int64} {k : Nat} (hk : k ≠ 1) : fI (gChg σ i b a) k = fI σ k := by
  unfold gChg gCh3 gCh2 gCh1
  split <;> split <;> simp [fI_uI, fI_uL, fI_uR, fL_uI, fL_uL, fL_uR, fR_uI, fR_uL, fR_uR, nG_uI, nG_uL, nG_uR, nR_uI, nR_uL, nR_uR, up3, va_up, hk]
theorem gChg_L {σ : CS} {i : Nat} {b a : Int64} {k : Nat} (hk : k ≠ 1) : fL (gChg σ i b a) k = fL σ k := by
  unfold gChg gCh3 gCh2 gCh1
  split <;> split <;> simp [fI_uI, fI_uL, fI_uR, fL_uI, fL_uL, fL_uR, fR_uI, fR_uL, fR_uR, nG_uI, nG_uL, nG_uR, nR_uI, nR_uL, nR_uR, up3, va_up, hk]
theorem gChg_R {σ : CS} {i : Nat} {b a : Int64} : fR (gChg σ i b a) = fR σ := by
  unfold gChg gCh3 gCh2 gCh1
  split <;> split <;> simp [fI_uI, fI_uL, fI_uR, fL_uI, fL_uL, fL_uR, fR_uI, fR_uL, fR_uR, nG_uI, nG_uL, nG_uR, nR_uI, nR_uL, nR_uR]
theorem gChg_G {σ : CS} {i : Nat} {b a : Int64} : nG (gChg σ i b a) = nG σ := by
  unfold gChg gCh3 gCh2 gCh1
  split <;> split <;> simp [fI_uI, fI_uL, fI_uR, fL_uI, fL_uL, fL_uR, fR_uI, fR_uL, fR_uR, nG_uI, nG_uL, nG_uR, nR_uI, nR_uL, nR_uR]
theorem gChg_N {σ : CS} {i : Nat} {b a : Int64} : nR (gChg σ i b a) = nR σ := by
  unfold gChg gCh3 gCh2 gCh1
  split <;> split <;> simp [fI_uI, fI_uL, fI_uR, fL_uI, fL_uL, fL_uR, fR_uI, fR_uL, fR_uR, nG_uI, nG_uL, nG_uR, nR_uI, nR_uL, nR_uR]
theorem rTell_I {σ : CS} {j i : Nat} {b a : Int64} {k : Nat} (hk : k ≠ 1) : fI (rTell σ j i b a) k = fI σ k := by
  unfold rTell; split
  · exact gChg_I hk
  · rfl
theorem rTell_L {σ : CS} {j i : Nat} {b a : Int64} {k : Nat} (hk : k ≠ 1) : fL (rTell σ j i b a) k = fL σ k := by
  unfold rTell; split
  · exact gChg_L hk
  · rfl
theorem rTell_R {σ : CS} {j i : Nat} {b a : Int64} : fR (rTell σ j i b a) = fR σ := by
  unfold rTell; split
  · exact gChg_R
  · rfl
theorem rTell_G {σ : CS} {j i : Nat} {b a : Int64} : nG (rTell σ j i b a) = nG σ := by
  unfold rTell; split
  · exact gChg_G
  · rfl
theorem rTell_N {σ : CS} {j i : Nat} {b a : Int64} : nR (rTell σ j i b a) = nR σ := by
  unfold rTell; split
  · exact gChg_N
  · rfl
theorem rBind_I {σ : CS} {j k : Nat} (hk : k ≠ 1) : ∀ n, fI (rBind σ j n) k = fI σ k
  | 0 => rfl
  | n + 1 => (rTell_I hk).trans (rBind_I hk n)
theorem rBind_L {σ : CS} {j k : Nat} (hk : k ≠ 1) : ∀ n, fL (rBind σ j n) k = fL σ k
  | 0 => rfl
  | n + 1 => (rTell_L hk).trans (rBind_L hk n)
theorem rBind_R {σ : CS} {j : Nat} : ∀ n, fR (rBind σ j n) = fR σ
  | 0 => rfl
  | n + 1 => rTell_R.trans (rBind_R n)
theorem rBind_G {σ : CS} {j : Nat} : ∀ n, nG (rBind σ j n) = nG σ
  | 0 => rfl
  | n + 1 => rTell_G.trans (rBind_G n)
theorem rBind_N {σ : CS} {j : Nat} : ∀ n, nR (rBind σ j n) = nR σ
  | 0 => rfl
  | n + 1 => rTell_N.trans (rBind_N n)
theorem rDrop_I {σ : CS} {j k : Nat} (hk : k ≠ 1) : ∀ n, fI (rDrop σ j n) k = fI σ k
  | 0 => rfl
  | n + 1 => (rTell_I hk).trans (rDrop_I hk n)
theorem rDrop_L {σ : CS} {j k : Nat} (hk : k ≠ 1) : ∀ n, fL (rDrop σ j n) k = fL σ k
  | 0 => rfl
  | n + 1 => (rTell_L hk).trans (rDrop_L hk n)
theorem rDrop_R {σ : CS} {j : Nat} : ∀ n, fR (rDrop σ j n) = fR σ
  | 0 => rfl
  | n + 1 => rTell_R.trans (rDrop_R n)
theorem rDrop_G {σ : CS} {j : Nat} : ∀ n, nG (rDrop σ j n) = nG σ
  | 0 => rfl
  | n + 1 => rTell_G.trans (rDrop_G n)
theorem rDrop_N {σ : CS} {j : Nat} : ∀ n, nR (rDrop σ j n) = nR σ
  | 0 => rfl
  | n + 1 => rTell_N.trans (rDrop_N n)
theorem i_m1 (x : Int32) : x + (-1) = x - 1 := by rw [Int32.sub_eq_add_neg]
theorem gLose_I {σ : CS} {i : Nat} {x : Int64} {day : Int32} {k : Nat} (h1 : k ≠ 1) (h3 : k ≠ 3) : fI (gLose σ i x day) k = fI σ k := by
  unfold gLose; split
  · rfl
  · simp [gLo1, gLo2, nEnd, fI_uI, fI_uL, fI_uR, fL_uI, fL_uL, fL_uR, fR_uI, fR_uL, fR_uR, nG_uI, nG_uL, nG_uR, nR_uI, nR_uL, nR_uR, up3, va_up, h1, h3]
theorem gLose_L {σ : CS} {i : Nat} {x : Int64} {day : Int32} {k : Nat} (h1 : k ≠ 1) (h3 : k ≠ 3) : fL (gLose σ i x day) k = fL σ k := by
  unfold gLose; split
  · rfl
  · simp [gLo1, gLo2, nEnd, fI_uI, fI_uL, fI_uR, fL_uI, fL_uL, fL_uR, fR_uI, fR_uL, fR_uR, nG_uI, nG_uL, nG_uR, nR_uI, nR_uL, nR_uR, up3, va_up, h1, h3]
theorem gLose_R {σ : CS} {i : Nat} {x : Int64} {day : Int32} : fR (gLose σ i x day) = fR σ := by
  unfold gLose; split
  · rfl
  · simp [gLo1, gLo2, nEnd, fI_uI, fI_uL, fI_uR, fL_uI, fL_uL, fL_uR, fR_uI, fR_uL, fR_uR, nG_uI, nG_uL, nG_uR, nR_uI, nR_uL, nR_uR]
theorem gLose_G {σ : CS} {i : Nat} {x : Int64} {day : Int32} : nG (gLose σ i x day) = nG σ := by
  unfold gLose; split
  · rfl
  · simp [gLo1, gLo2, nEnd, fI_uI, fI_uL, fI_uR, fL_uI, fL_uL, fL_uR, fR_uI, fR_uL, fR_uR, nG_uI, nG_uL, nG_uR, nR_uI, nR_uL, nR_uR]
theorem gLose_N {σ : CS} {i : Nat} {x : Int64} {day : Int32} : nR (gLose σ i x day) = nR σ := by
  unfold gLose; split
  · rfl
  · simp [gLo1, gLo2, nEnd, fI_uI, fI_uL, fI_uR, fL_uI, fL_uL, fL_uR, fR_uI, fR_uL, fR_uR, nG_uI, nG_uL, nG_uR, nR_uI, nR_uL, nR_uR]
theorem rTk_I {σ : CS} {j : Nat} {day : Int32} {c : Int64} {k : Nat} (h1 : k ≠ 1) (h3 : k ≠ 3) : ∀ n, fI (rTk σ j day c n).1 k = fI σ k
  | 0 => rfl
  | n + 1 => by
    unfold rTk; split
    · exact (gLose_I h1 h3).trans (rTk_I h1 h3 n)
    · exact rTk_I h1 h3 n
theorem rTk_L {σ : CS} {j : Nat} {day : Int32} {c : Int64} {k : Nat} (h1 : k ≠ 1) (h3 : k ≠ 3) : ∀ n, fL (rTk σ j day c n).1 k = fL σ k
  | 0 => rfl
  | n + 1 => by
    unfold rTk; split
    · exact (gLose_L h1 h3).trans (rTk_L h1 h3 n)
    · exact rTk_L h1 h3 n
theorem rTk_R {σ : CS} {j : Nat} {day : Int32} {c : Int64} : ∀ n, fR (rTk σ j day c n).1 = fR σ
  | 0 => rfl
  | n + 1 => by
    unfold rTk; split
    · exact gLose_R.trans (rTk_R n)
    · exact rTk_R n
theorem rTk_G {σ : CS} {j : Nat} {day : Int32} {c : Int64} : ∀ n, nG (rTk σ j day c n).1 = nG σ
  | 0 => rfl
  | n + 1 => by
    unfold rTk; split
    · exact gLose_G.trans (rTk_G n)
    · exact rTk_G n
theorem rTk_N {σ : CS} {j : Nat} {day : Int32} {c : Int64} : ∀ n, nR (rTk σ j day c n).1 = nR σ
  | 0 => rfl
  | n + 1 => by
    unfold rTk; split
    · exact gLose_N.trans (rTk_N n)
    · exact rTk_N n
theorem rTk_s {σ : CS} {j : Nat} {day : Int32} {c : Int64} {n g : Nat} (h : fR (rTk σ j day c n).1 5 j n = some g) : rTk σ j day c (n + 1) = (gLose (rTk σ j day c n).1 g (lMin (rTk σ j day c n).2.1 (fL (rTk σ j day c n).1 6 j n)) day, (rTk σ j day c n).2.1 - lMin (rTk σ j day c n).2.1 (fL (rTk σ j day c n).1 6 j n), (rTk σ j day c n).2.2 + gLost (rTk σ j day c n).1 g (lMin (rTk σ j day c n).2.1 (fL (rTk σ j day c n).1 6 j n))) := by
  rw [rTk, h]
theorem rAdd_n {σ : CS} {j n g : Nat} {x : Int64} : fI (rAdd σ j n g x) 4 j 2 = nI (n + 1) := by
  unfold rAdd; rw [fI_uI, up3_at, va_up_self, nI_1]
theorem rAdd_I {σ : CS} {j n g : Nat} {x : Int64} {k : Nat} (hk : k ≠ 4) : fI (rAdd σ j n g x) k = fI σ k := by
  unfold rAdd; simp [fI_uI, fI_uL, fI_uR, up3, va_up, hk]
theorem rAdd_R1 {σ : CS} {j n g : Nat} {x : Int64} {k : Nat} (hk : k ≠ 5) : fR (rAdd σ j n g x) k = fR σ k := by
  unfold rAdd; simp [fR_uI, fR_uL, fR_uR, up3, va_up, hk]
theorem rAdd_L {σ : CS} {j n g : Nat} {x : Int64} {k : Nat} (hk : k ≠ 6) : fL (rAdd σ j n g x) k = fL σ k := by
  unfold rAdd; simp [fL_uI, fL_uL, fL_uR, up3, va_up, hk]
theorem Ch_of {σ σ' : CS} (h1 : fR σ' 1 = fR σ 1) (h2 : nG σ' = nG σ) : ∀ (t : List Nat) (o : Option Nat), Ch σ o t → Ch σ' o t
  | [], _, h => h
  | i :: t, o, h => ⟨h.1, by rw [h2]; exact h.2.1, by rw [h1]; exact Ch_of h1 h2 t _ h.2.2⟩
theorem rBeg_n {σ : CS} {j : Nat} {h : Int32} {d : Int64} : fI (rBeg σ j h d) 4 j 2 = nI 0 := by
  unfold rBeg; rw [fI_uI, up3_at, va_up_self]; rfl
theorem rSh_R {σ : CS} {j n : Nat} {left y : Int64} : fR (rSh3 (rSh2 (rSh1 σ j n left) j n y) j n) = fR σ := by
  unfold rSh3 rSh2 rSh1; split <;> simp [fR_uI, fR_uL, rTell_R]
theorem rSh_G {σ : CS} {j n : Nat} {left y : Int64} : nG (rSh3 (rSh2 (rSh1 σ j n left) j n y) j n) = nG σ := by
  unfold rSh3 rSh2 rSh1; split <;> simp [nG_uI, nG_uL, rTell_G]
theorem rSh_N {σ : CS} {j n : Nat} {left y : Int64} : nR (rSh3 (rSh2 (rSh1 σ j n left) j n y) j n) = nR σ := by
  unfold rSh3 rSh2 rSh1; split <;> simp [nR_uI, nR_uL, rTell_N]
theorem Ch_ne {σ : CS} : ∀ (A : List Nat) (b : Nat) (t : List Nat) (o : Option Nat), Ch σ o (A ++ b :: t) → ∃ z, o = some z ∧ z < nG σ ∧ (z ∈ A ∨ z = b)
  | [], b, t, o, h => ⟨b, h.1, h.2.1, Or.inr rfl⟩
  | a :: A, b, t, o, h => ⟨a, h.1, h.2.1, Or.inl List.mem_cons_self⟩
theorem nd_ne {a b g z : Nat} {t L : List Nat} (h : (a :: t ++ b :: g :: L).Nodup) (hz : z ∈ t ∨ z = b) : z ≠ g := by
  intro e
  subst e
  have h1 : (t ++ b :: z :: L).Nodup := (List.nodup_cons.mp h).2
  rw [List.nodup_append] at h1
  rcases hz with hz | hz
  · exact h1.2.2 z hz z (List.mem_cons_of_mem _ List.mem_cons_self) rfl
  · subst hz
    exact (List.nodup_cons.mp h1.2.1).1 List.mem_cons_self
theorem rSh_p {σ : CS} {j n P : Nat} {left y : Int64} (hn : n ≤ P) (h : ∃ p, p ≤ P ∧ fI σ 4 j 2 = nI p) : ∃ p, p ≤ P ∧ fI (rSh3 (rSh2 (rSh1 σ j n left) j n y) j n) 4 j 2 = nI p := by
  unfold rSh3
  split
  · exact ⟨n, hn, by rw [fI_uI, up3_at, va_up_self]⟩
  · unfold rSh2 rSh1
    rw [fI_uL, rTell_I (by decide)]
    exact h
theorem rShr_p {j P : Nat} : ∀ (q : Nat) (σ : CS) (left : Int64), q ≤ P → (∃ p, p ≤ P ∧ fI σ 4 j 2 = nI p) → ∃ p, p ≤ P ∧ fI (rShr σ j q left) 4 j 2 = nI p
  | 0, σ, left, _, h => h
  | q + 1, σ, left, hq, h => by
    rw [rShr]
    split
    · exact h
    · exact rShr_p q _ _ (by omega) (rSh_p (by omega) h)
theorem rShr_G {j : Nat} : ∀ (q : Nat) (σ : CS) (left : Int64), nG (rShr σ j q left) = nG σ
  | 0, _, _ => rfl
  | q + 1, σ, left => by
    rw [rShr]
    split
    · rfl
    · exact (rShr_G q _ _).trans rSh_G
theorem rShr_N {j : Nat} : ∀ (q : Nat) (σ : CS) (left : Int64), nR (rShr σ j q left) = nR σ
  | 0, _, _ => rfl
  | q + 1, σ, left => by
    rw [rShr]
    split
    · rfl
    · exact (rShr_N q _ _).trans rSh_N
theorem rShr_R {j : Nat} : ∀ (q : Nat) (σ : CS) (left : Int64), fR (rShr σ j q left) = fR σ
  | 0, _, _ => rfl
  | q + 1, σ, left => by
    rw [rShr]
    split
    · rfl
    · exact (rShr_R q _ _).trans rSh_R
end
section
set_option maxHeartbeats 4000000 in
set_option maxRecDepth 100000 in
theorem k_neededFor (l : Launch) (D : va_G) (dA : Nat → ClassId) (sa : Nat → Nat) (lo : Nat) (al : Nat → Nat → Nat) (σ μ : CS) (i : Nat) (hi : i < nG σ) (x : Int64) : Met l yX2_neededFor wsX2_neededFor ({ frames := 0, cells := 0, slots := 0, locals := 0 }) (va_Pc [.ref (al 2 i), .long x] (ivP D dA sa lo al σ μ)) (vp_Sl (fun r => r = gNeed σ i x)) 0 0 (fun _ => False) := by
  refine Met.ofW (cc := cX2_neededFor) (maxL := 3) (ret := some .long) (by decide) rfl ?_
  intro p e s m args below meth c s₁ B hml hv
  obtain ⟨rfl, hI, hwd⟩ := hv
  have hx := B.exec
  have hb := B.bytes
  have hr := B.returns
  have hts : ∀ w ∈ WSall, w.before _ s = true := fun w h => atoms_spec (ws := wsX2_neededFor) B.pre w (List.mem_cons_of_mem _ h)
  have hown : s.vm.findClass RX2 = some m.cls := findClass_of_methodNamed B.named
  have hlocks := B.notSynchronized
  have hK := hwd.1
  have hS : va_S (fun q => lo ≤ q) s.heap s.heap [] := va_S.rf
  have hl := lv_entry ([.ref (al 2 i), .long x]) (n := 3) (Nat.le_of_ble_eq_true rfl)
  rw [lg_entry_eq]
  generalize (lg_sl ([.ref (al 2 i), .long x]) ++ List.replicate (3 - (lg_sl ([.ref (al 2 i), .long x])).length) Slot.unset).toArray = ls at hl ⊢
  have hl : lv_has ls 3 [(0, .ref (al 2 i)), (1, .long x)] := hl
  refine lv_aload_n hx hb dX2_neededFor_0 rfl (lv_at hl 0 rfl) ?_
  refine sx_get (ci := 2) (C := RX2) (T := TX2) (N := 2) (v := .int (fI σ 2 i 1)) hx hb hts inX2 hown hK (c2_at hI hi) rfl 1 (by decide) (hts _ w_2_43) rfl rfl dX2_neededFor_1 ?_
  refine lv_if_ne (tgt := 11) hx hb dX2_neededFor_4 (by decide) (fun c_4 => ?_) (fun c_4 => ?_)
  · refine lv_lload_n hx hb dX2_neededFor_11 rfl (lv_at hl 1 rfl) ?_
    refine lv_aload_n hx hb dX2_neededFor_12 rfl (lv_at hl 0 rfl) ?_
    refine sx_get (ci := 2) (C := RX2) (T := TX2) (N := 2) (v := .int (fI σ 2 i 0)) hx hb hts inX2 hown hK (c2_at hI hi) rfl 0 (by decide) (hts _ w_2_42) rfl rfl dX2_neededFor_13 ?_
    refine lv_i2l hx hb dX2_neededFor_16 rfl ?_
    refine lv_lmul hx hb dX2_neededFor_17 ?_
    refine lv_aload_n hx hb dX2_neededFor_18 rfl (lv_at hl 0 rfl) ?_
    refine sx_get (ci := 2) (C := RX2) (T := TX2) (N := 2) (v := .int (fI σ 2 i 1)) hx hb hts inX2 hown hK (c2_at hI hi) rfl 1 (by decide) (hts _ w_2_43) rfl rfl dX2_neededFor_19 ?_
    refine lv_i2l hx hb dX2_neededFor_22 rfl ?_
    refine lv_ladd hx hb dX2_neededFor_23 ?_
    refine lv_lconst (v := 1) hx hb dX2_neededFor_24 (by decide) ?_
    refine lv_lsub hx hb dX2_neededFor_25 ?_
    refine lv_aload_n hx hb dX2_neededFor_26 rfl (lv_at hl 0 rfl) ?_
    refine sx_get (ci := 2) (C := RX2) (T := TX2) (N := 2) (v := .int (fI σ 2 i 1)) hx hb hts inX2 hown hK (c2_at hI hi) rfl 1 (by decide) (hts _ w_2_43) rfl rfl dX2_neededFor_27 ?_
    refine lv_i2l hx hb dX2_neededFor_30 rfl ?_
    refine lv_ldiv hx hb dX2_neededFor_31 (fun h => c_4 (i64_0 h)) ?_
    exact W.lret (v := (((x * (fI σ 2 i 0).toInt64) + (fI σ 2 i 1).toInt64) - 1) / (fI σ 2 i 1).toInt64) hx hb hr (fun t ht hW => ⟨_, rfl, by simp [gNeed, sNeed, c_4], ht⟩) (fun q h => by cases h) dX2_neededFor_32
  · refine lv_lconst (v := 0) hx hb dX2_neededFor_7 (by decide) ?_
    refine lv_goto (tgt := 32) hx hb dX2_neededFor_8 (by decide) ?_
    exact W.lret (v := 0) hx hb hr (fun t ht hW => ⟨_, rfl, by simp [gNeed, sNeed, c_4], ht⟩) (fun q h => by cases h) dX2_neededFor_32

set_option maxHeartbeats 4000000 in
set_option maxRecDepth 100000 in
theorem k_mostFor (l : Launch) (D : va_G) (dA : Nat → ClassId) (sa : Nat → Nat) (lo : Nat) (al : Nat → Nat → Nat) (σ μ : CS) (i : Nat) (hi : i < nG σ) (x : Int64) : Met l yX2_mostFor wsX2_mostFor ({ frames := 0, cells := 0, slots := 0, locals := 0 }) (va_Pc [.ref (al 2 i), .long x] (ivP D dA sa lo al σ μ)) (vp_Sl (fun r => r = sMost (fI σ 2 i 0) (fI σ 2 i 1) x)) 0 0 (fun _ => False) := by
  refine Met.ofW (cc := cX2_mostFor) (maxL := 3) (ret := some .long) (by decide) rfl ?_
  intro p e s m args below meth c s₁ B hml hv
  obtain ⟨rfl, hI, hwd⟩ := hv
  have hx := B.exec
  have hb := B.bytes
  have hr := B.returns
  have hts : ∀ w ∈ WSall, w.before _ s = true := fun w h => atoms_spec (ws := wsX2_mostFor) B.pre w (List.mem_cons_of_mem _ h)
  have hown : s.vm.findClass RX2 = some m.cls := findClass_of_methodNamed B.named
  have hlocks := B.notSynchronized
  have hK := hwd.1
  have hS : va_S (fun q => lo ≤ q) s.heap s.heap [] := va_S.rf
  have hl := lv_entry ([.ref (al 2 i), .long x]) (n := 3) (Nat.le_of_ble_eq_true rfl)
  rw [lg_entry_eq]
  generalize (lg_sl ([.ref (al 2 i), .long x]) ++ List.replicate (3 - (lg_sl ([.ref (al 2 i), .long x])).length) Slot.unset).toArray = ls at hl ⊢
  have hl : lv_has ls 3 [(0, .ref (al 2 i)), (1, .long x)] := hl
  refine lv_aload_n hx hb dX2_mostFor_0 rfl (lv_at hl 0 rfl) ?_
  refine sx_get (ci := 2) (C := RX2) (T := TX2) (N := 2) (v := .int (fI σ 2 i 0)) hx hb hts inX2 hown hK (c2_at hI hi) rfl 0 (by decide) (hts _ w_2_42) rfl rfl dX2_mostFor_1 ?_
  refine lv_if_ne (tgt := 13) hx hb dX2_mostFor_4 (by decide) (fun c_4 => ?_) (fun c_4 => ?_)
  · refine lv_lload_n hx hb dX2_mostFor_13 rfl (lv_at hl 1 rfl) ?_
    refine lv_aload_n hx hb dX2_mostFor_14 rfl (lv_at hl 0 rfl) ?_
    refine sx_get (ci := 2) (C := RX2) (T := TX2) (N := 2) (v := .int (fI σ 2 i 1)) hx hb hts inX2 hown hK (c2_at hI hi) rfl 1 (by decide) (hts _ w_2_43) rfl rfl dX2_mostFor_15 ?_
    refine lv_i2l hx hb dX2_mostFor_18 rfl ?_
    refine lv_lmul hx hb dX2_mostFor_19 ?_
    refine lv_aload_n hx hb dX2_mostFor_20 rfl (lv_at hl 0 rfl) ?_
    refine sx_get (ci := 2) (C := RX2) (T := TX2) (N := 2) (v := .int (fI σ 2 i 0)) hx hb hts inX2 hown hK (c2_at hI hi) rfl 0 (by decide) (hts _ w_2_42) rfl rfl dX2_mostFor_21 ?_
    refine lv_i2l hx hb dX2_mostFor_24 rfl ?_
    refine lv_ldiv hx hb dX2_mostFor_25 (fun h => c_4 (i64_0 h)) ?_
    exact W.lret (v := (x * (fI σ 2 i 1).toInt64) / (fI σ 2 i 0).toInt64) hx hb hr (fun t ht hW => ⟨_, rfl, by simp [sMost, c_4], ht⟩) (fun q h => by cases h) dX2_mostFor_26
  · refine lv_ldc2 (v := 1000000000) hx hb hown (hts _ w_1_161) dX2_mostFor_7 ?_
    refine lv_goto (tgt := 26) hx hb dX2_mostFor_10 (by decide) ?_
    exact W.lret (v := 1000000000) hx hb hr (fun t ht hW => ⟨_, rfl, by simp [sMost, c_4], ht⟩) (fun q h => by cases h) dX2_mostFor_26

set_option maxHeartbeats 4000000 in
set_option maxRecDepth 100000 in
theorem k_upTo (l : Launch) (D : va_G) (dA : Nat → ClassId) (sa : Nat → Nat) (lo : Nat) (al : Nat → Nat → Nat) (σ μ : CS) (i : Nat) (hi : i < nG σ) (day : Int32) (am : Int64) : Met l yX3_upTo wsX3_upTo ({ frames := 0, cells := 0, slots := 0, locals := 0 }) (va_Pc [.ref (al 3 i), .int day, .long am] (ivP D dA sa lo al σ μ)) (vp_Sl (fun r => r = nUp σ i day am)) 0 0 (fun _ => False) := by
  refine Met.ofW (cc := cX3_upTo) (maxL := 4) (ret := some .long) (by decide) rfl ?_
  intro p e s m args below meth c s₁ B hml hv
  obtain ⟨rfl, hI, hwd⟩ := hv
  have hx := B.exec
  have hb := B.bytes
  have hr := B.returns
  have hts : ∀ w ∈ WSall, w.before _ s = true := fun w h => atoms_spec (ws := wsX3_upTo) B.pre w (List.mem_cons_of_mem _ h)
  have hown : s.vm.findClass RX3 = some m.cls := findClass_of_methodNamed B.named
  have hlocks := B.notSynchronized
  have hK := hwd.1
  have hS : va_S (fun q => lo ≤ q) s.heap s.heap [] := va_S.rf
  have hl := lv_entry ([.ref (al 3 i), .int day, .long am]) (n := 4) (Nat.le_of_ble_eq_true rfl)
  rw [lg_entry_eq]
  generalize (lg_sl ([.ref (al 3 i), .int day, .long am]) ++ List.replicate (4 - (lg_sl ([.ref (al 3 i), .int day, .long am])).length) Slot.unset).toArray = ls at hl ⊢
  have hl : lv_has ls 4 [(0, .ref (al 3 i)), (1, .int day), (2, .long am)] := hl
  refine lv_aload_n hx hb dX3_upTo_0 rfl (lv_at hl 0 rfl) ?_
  refine sx_get (ci := 3) (C := RX3) (T := TX3) (N := 4) (v := .int (fI σ 3 i 3)) hx hb hts inX3 hown hK (c3_at hI hi) rfl 3 (by decide) (hts _ w_2_58) rfl rfl dX3_upTo_1 ?_
  refine lv_if_eq (tgt := 14) hx hb dX3_upTo_4 (by decide) (fun c_4 => ?_) (fun c_4 => ?_)
  · refine lv_aload_n hx hb dX3_upTo_14 rfl (lv_at hl 0 rfl) ?_
    refine sx_get (ci := 3) (C := RX3) (T := TX3) (N := 4) (v := .long (fL σ 3 i 1)) hx hb hts inX3 hown hK (c3_at hI hi) rfl 1 (by decide) (hts _ w_2_56) rfl rfl dX3_upTo_15 ?_
    refine lv_lload_n hx hb dX3_upTo_18 rfl (lv_at hl 2 rfl) ?_
    refine lv_aload_n hx hb dX3_upTo_19 rfl (lv_at hl 0 rfl) ?_
    refine sx_get (ci := 3) (C := RX3) (T := TX3) (N := 4) (v := .int (fI σ 3 i 0)) hx hb hts inX3 hown hK (c3_at hI hi) rfl 0 (by decide) (hts _ w_2_55) rfl rfl dX3_upTo_20 ?_
    refine lv_i2l hx hb dX3_upTo_23 rfl ?_
    refine lv_lmul hx hb dX3_upTo_24 ?_
    refine lv_iload_n hx hb dX3_upTo_25 rfl (lv_at hl 1 rfl) ?_
    refine lv_aload_n hx hb dX3_upTo_26 rfl (lv_at hl 0 rfl) ?_
    refine sx_get (ci := 3) (C := RX3) (T := TX3) (N := 4) (v := .int (fI σ 3 i 2)) hx hb hts inX3 hown hK (c3_at hI hi) rfl 2 (by decide) (hts _ w_2_57) rfl rfl dX3_upTo_27 ?_
    refine lv_isub hx hb dX3_upTo_30 ?_
    refine lv_i2l hx hb dX3_upTo_31 rfl ?_
    refine lv_lmul hx hb dX3_upTo_32 ?_
    refine lv_ldc2 (v := 3650000) hx hb hown (hts _ w_1_122) dX3_upTo_33 ?_
    refine lv_ldiv hx hb dX3_upTo_36 (by decide) ?_
    refine lv_ladd hx hb dX3_upTo_37 ?_
    exact W.lret (v := (fL σ 3 i 1) + (((am * (fI σ 3 i 0).toInt64) * (day - (fI σ 3 i 2)).toInt64) / 3650000)) hx hb hr (fun t ht hW => ⟨_, rfl, by simp [nUp, c_4], ht⟩) (fun q h => by cases h) dX3_upTo_38
  · refine lv_aload_n hx hb dX3_upTo_7 rfl (lv_at hl 0 rfl) ?_
    refine sx_get (ci := 3) (C := RX3) (T := TX3) (N := 4) (v := .long (fL σ 3 i 1)) hx hb hts inX3 hown hK (c3_at hI hi) rfl 1 (by decide) (hts _ w_2_56) rfl rfl dX3_upTo_8 ?_
    refine lv_goto (tgt := 38) hx hb dX3_upTo_11 (by decide) ?_
    exact W.lret (v := fL σ 3 i 1) hx hb hr (fun t ht hW => ⟨_, rfl, by simp [nUp, c_4], ht⟩) (fun q h => by cases h) dX3_upTo_38

set_option maxHeartbeats 4000000 in
set_option maxRecDepth 100000 in
theorem k_endRow (l : Launch) (D : va_G) (dA : Nat → ClassId) (sa : Nat → Nat) (lo : Nat) (al : Nat → Nat → Nat) (σ μ : CS) (i : Nat) (hi : i < nG σ) (day : Int32) (am : Int64) : Met l yX3_endRow wsX3_endRow ({ frames := 1, cells := 0, slots := 0, locals := 30 }) (va_Pc [.ref (al 3 i), .int day, .long am] (ivP D dA sa lo al σ μ)) (va_Qv (fun u => u = nEnd σ i day am) (ivB D dA lo al μ) (fun q => lo ≤ q)) 0 0 (fun q => lo ≤ q) := by
  refine Met.ofW (cc := cX3_endRow) (maxL := 4) (ret := none) (by decide) rfl ?_
  intro p e s m args below meth c s₁ B hml hv
  obtain ⟨rfl, hI, hwd⟩ := hv
  have hx := B.exec
  have hb := B.bytes
  have hr := B.returns
  have hts : ∀ w ∈ WSall, w.before _ s = true := fun w h => atoms_spec (ws := wsX3_endRow) B.pre w (List.mem_cons_of_mem _ h)
  have hown : s.vm.findClass RX3 = some m.cls := findClass_of_methodNamed B.named
  have hlocks := B.notSynchronized
  have hK := hwd.1
  have hS : va_S (fun q => lo ≤ q) s.heap s.heap [] := va_S.rf
  have hl := lv_entry ([.ref (al 3 i), .int day, .long am]) (n := 4) (Nat.le_of_ble_eq_true rfl)
  rw [lg_entry_eq]
  generalize (lg_sl ([.ref (al 3 i), .int day, .long am]) ++ List.replicate (4 - (lg_sl ([.ref (al 3 i), .int day, .long am])).length) Slot.unset).toArray = ls at hl ⊢
  have hl : lv_has ls 4 [(0, .ref (al 3 i)), (1, .int day), (2, .long am)] := hl
  refine lv_aload_n hx hb dX3_endRow_0 rfl (lv_at hl 0 rfl) ?_
  refine lv_aload_n hx hb dX3_endRow_1 rfl (lv_at hl 0 rfl) ?_
  refine lv_iload_n hx hb dX3_endRow_2 rfl (lv_at hl 1 rfl) ?_
  refine lv_lload_n hx hb dX3_endRow_3 rfl (lv_at hl 2 rfl) ?_
  refine vp_callSl (W.runV (As := [.int day, .long am]) (rest := [.ref (al 3 i)]) ⟨hx, hb, hml, hown, hts⟩ (k_upTo l D dA sa lo al σ μ i hi day am) (cwV 2 hts (gdV w_1_118 w_1_119 w_1_120 w_1_11 w_1_121) rfl rfl rfl (by decide +kernel) ⟨Nat.le_of_ble_eq_true rfl, Nat.le_of_ble_eq_true rfl⟩) ⟨iv_bl, sx_recv hK (c3_at hI hi) rfl, fun U hU hW => ⟨rfl, iv_use hI hwd hS hU hW⟩⟩ rfl rfl hl.1 rfl (lv_room (Nat.le_of_ble_eq_true rfl)) dX3_endRow_4 ⟨Nat.le_of_ble_eq_true rfl, Nat.le_of_ble_eq_true rfl⟩) (fun r_4 e_4 => ?_)
  subst e_4
  refine sx_put (ci := 3) (v := .long (nUp σ i day am)) (ty := .long) (C := RX3) (T := TX3) (N := 4) hx hb hts inX3 tyX3 okX3 nmX3 hown hK hS (c3_at hI hi) (c3_lo hI hi) rfl 1 (by decide) (hts _ w_2_56) rfl rfl (by decide +kernel) rfl rfl (Nat.le_of_ble_eq_true rfl) dX3_endRow_7 (fun H locs hq => ?_)
  have hI := c3_uL (f := 1) (v := nUp σ i day am) hI hi rfl hq
  have hS := hq.2.2.2
  refine lv_aload_n hx hb dX3_endRow_10 rfl (lv_at hl 0 rfl) ?_
  refine lv_iload_n hx hb dX3_endRow_11 rfl (lv_at hl 1 rfl) ?_
  refine sx_put (ci := 3) (v := .int day) (ty := .int) (C := RX3) (T := TX3) (N := 4) hx hb hts inX3 tyX3 okX3 nmX3 hown hK hS (c3_at hI hi) (c3_lo hI hi) rfl 2 (by decide) (hts _ w_2_57) rfl rfl (by decide +kernel) rfl rfl (Nat.le_of_ble_eq_true rfl) dX3_endRow_12 (fun H locs hq => ?_)
  have hI := c3_uI (f := 2) (v := day) hI hi rfl hq
  have hS := hq.2.2.2
  exact W.vret hx hb hr (fun t ht hW => ⟨⟨uI (uL σ 3 i 1 (nUp σ i day am)) 3 i 2 day, rfl, rfl, iv_give ht hI⟩, hS.F ht⟩) hS.2.2 dX3_endRow_15

set_option maxHeartbeats 4000000 in
set_option maxRecDepth 100000 in
theorem k_stop (l : Launch) (D : va_G) (dA : Nat → ClassId) (sa : Nat → Nat) (lo : Nat) (al : Nat → Nat → Nat) (σ μ : CS) (i : Nat) (hi : i < nG σ) (day : Int32) (am : Int64) : Met l yX3_stop wsX3_stop ({ frames := 2, cells := 0, slots := 0, locals := 60 }) (va_Pc [.ref (al 3 i), .int day, .long am] (ivP D dA sa lo al σ μ)) (va_Qv (fun u => u = nStop σ i day am) (ivB D dA lo al μ) (fun q => lo ≤ q)) 0 0 (fun q => lo ≤ q) := by
  refine Met.ofW (cc := cX3_stop) (maxL := 4) (ret := none) (by decide) rfl ?_
  intro p e s m args below meth c s₁ B hml hv
  obtain ⟨rfl, hI, hwd⟩ := hv
  have hx := B.exec
  have hb := B.bytes
  have hr := B.returns
  have hts : ∀ w ∈ WSall, w.before _ s = true := fun w h => atoms_spec (ws := wsX3_stop) B.pre w (List.mem_cons_of_mem _ h)
  have hown : s.vm.findClass RX3 = some m.cls := findClass_of_methodNamed B.named
  have hlocks := B.notSynchronized
  have hK := hwd.1
  have hS : va_S (fun q => lo ≤ q) s.heap s.heap [] := va_S.rf
  have hl := lv_entry ([.ref (al 3 i), .int day, .long am]) (n := 4) (Nat.le_of_ble_eq_true rfl)
  rw [lg_entry_eq]
  generalize (lg_sl ([.ref (al 3 i), .int day, .long am]) ++ List.replicate (4 - (lg_sl ([.ref (al 3 i), .int day, .long am])).length) Slot.unset).toArray = ls at hl ⊢
  have hl : lv_has ls 4 [(0, .ref (al 3 i)), (1, .int day), (2, .long am)] := hl
  refine lv_aload_n hx hb dX3_stop_0 rfl (lv_at hl 0 rfl) ?_
  refine lv_iload_n hx hb dX3_stop_1 rfl (lv_at hl 1 rfl) ?_
  refine lv_lload_n hx hb dX3_stop_2 rfl (lv_at hl 2 rfl) ?_
  refine va_callv (va_runV (As := [.int day, .long am]) (rest := []) ⟨hx, hb, hml, hown, hts⟩ (k_endRow l D dA sa lo al σ μ i hi day am) (cwV 2 hts (gdV w_1_114 w_1_115 w_1_116 w_1_11 w_1_117) rfl rfl rfl (by decide +kernel) ⟨Nat.le_of_ble_eq_true rfl, Nat.le_of_ble_eq_true rfl⟩) ⟨iv_bl, sx_recv hK (c3_at hI hi) rfl, fun U hU hW => ⟨rfl, iv_use hI hwd hS hU hW⟩⟩ rfl rfl hl.1 rfl (lv_room (Nat.le_of_ble_eq_true rfl)) dX3_stop_3 ⟨Nat.le_of_ble_eq_true rfl, Nat.le_of_ble_eq_true rfl⟩) hS (fun q _ h => h) (fun q h => h) (fun u9 T9 H1 locs ht9 hvm9 e_3 hB9 hz9 hk9 hS => ?_)
  have hI := iv_take ht9 hB9
  clear hB9 hk9
  obtain rfl := e_3
  refine lv_aload_n hx hb dX3_stop_6 rfl (lv_at hl 0 rfl) ?_
  refine lv_iconst (v := 1) hx hb dX3_stop_7 (by decide) ?_
  refine sx_put (ci := 3) (v := .int 1) (ty := .boolean) (C := RX3) (T := TX3) (N := 4) hx hb hts inX3 tyX3 okX3 nmX3 hown hK hS (c3_at hI hi) (c3_lo hI hi) rfl 3 (by decide) (hts _ w_2_58) rfl rfl (by decide +kernel) rfl rfl (Nat.le_of_ble_eq_true rfl) dX3_stop_8 (fun H locs hq => ?_)
  have hI := c3_uI (f := 3) (v := 1) hI hi rfl hq
  have hS := hq.2.2.2
  exact W.vret hx hb hr (fun t ht hW => ⟨⟨uI (nEnd σ i day am) 3 i 3 1, rfl, rfl, iv_give ht hI⟩, hS.F ht⟩) hS.2.2 dX3_stop_11

set_option maxHeartbeats 4000000 in
set_option maxRecDepth 100000 in
theorem k_unneeded (l : Launch) (D : va_G) (dA : Nat → ClassId) (sa : Nat → Nat) (lo : Nat) (al : Nat → Nat → Nat) (σ μ : CS) (i : Nat) (hi : i < nG σ) : Met l yX1_unneeded wsX1_unneeded ({ frames := 1, cells := 0, slots := 0, locals := 30 }) (va_Pc [.ref (al 1 i)] (ivP D dA sa lo al σ μ)) (vp_Sl (fun r => r = gUnn σ i)) 0 0 (fun _ => False) := by
  refine Met.ofW (cc := cX1_unneeded) (maxL := 1) (ret := some .long) (by decide) rfl ?_
  intro p e s m args below meth c s₁ B hml hv
  obtain ⟨rfl, hI, hwd⟩ := hv
  have hx := B.exec
  have hb := B.bytes
  have hr := B.returns
  have hts : ∀ w ∈ WSall, w.before _ s = true := fun w h => atoms_spec (ws := wsX1_unneeded) B.pre w (List.mem_cons_of_mem _ h)
  have hown : s.vm.findClass RX1 = some m.cls := findClass_of_methodNamed B.named
  have hlocks := B.notSynchronized
  have hK := hwd.1
  have hS : va_S (fun q => lo ≤ q) s.heap s.heap [] := va_S.rf
  have hl := lv_entry ([.ref (al 1 i)]) (n := 1) (Nat.le_of_ble_eq_true rfl)
  rw [lg_entry_eq]
  generalize (lg_sl ([.ref (al 1 i)]) ++ List.replicate (1 - (lg_sl ([.ref (al 1 i)])).length) Slot.unset).toArray = ls at hl ⊢
  have hl : lv_has ls 1 [(0, .ref (al 1 i))] := hl
  refine lv_lconst (v := 0) hx hb dX1_unneeded_0 (by decide) ?_
  refine lv_aload_n hx hb dX1_unneeded_1 rfl (lv_at hl 0 rfl) ?_
  refine sx_get (ci := 1) (C := RX1) (T := TX1) (N := 11) (v := .long (fL σ 1 i 5)) hx hb hts inX1 hown hK (c1_at hI hi) rfl 5 (by decide) (hts _ w_2_81) rfl rfl dX1_unneeded_2 ?_
  refine lv_aload_n hx hb dX1_unneeded_5 rfl (lv_at hl 0 rfl) ?_
  refine sx_get (ci := 1) (C := RX1) (T := TX1) (N := 11) (v := .long (fL σ 1 i 6)) hx hb hts inX1 hown hK (c1_at hI hi) rfl 6 (by decide) (hts _ w_2_83) rfl rfl dX1_unneeded_6 ?_
  refine lv_lsub hx hb dX1_unneeded_9 ?_
  refine va_mmax_long hx hb (hml.trans hl.1.symm) hown (hts _ w_1_154) (hts _ w_1_155) (hts _ w_1_12) (hts _ wm_max_long) (Nat.le_of_ble_eq_true rfl) (Nat.le_of_ble_eq_true rfl) (Nat.le_of_ble_eq_true rfl) (Nat.le_of_ble_eq_true rfl) dX1_unneeded_10 ?_
  exact W.lret (v := if ((fL σ 1 i 5) - (fL σ 1 i 6)) < 0 then 0 else ((fL σ 1 i 5) - (fL σ 1 i 6))) hx hb hr (fun t ht hW => ⟨_, rfl, rfl, ht⟩) (fun q h => by cases h) dX1_unneeded_13

set_option maxHeartbeats 4000000 in
set_option maxRecDepth 100000 in
theorem k_risk (l : Launch) (D : va_G) (dA : Nat → ClassId) (sa : Nat → Nat) (lo : Nat) (al : Nat → Nat → Nat) (σ μ : CS) (i : Nat) (hi : i < nG σ) : Met l yX1_risk wsX1_risk ({ frames := 1, cells := 0, slots := 0, locals := 30 }) (va_Pc [.ref (al 1 i)] (ivP D dA sa lo al σ μ)) (vp_Sl (fun r => r = gRisk σ i)) 0 0 (fun _ => False) := by
  refine Met.ofW (cc := cX1_risk) (maxL := 1) (ret := some .long) (by decide) rfl ?_
  intro p e s m args below meth c s₁ B hml hv
  obtain ⟨rfl, hI, hwd⟩ := hv
  have hx := B.exec
  have hb := B.bytes
  have hr := B.returns
  have hts : ∀ w ∈ WSall, w.before _ s = true := fun w h => atoms_spec (ws := wsX1_risk) B.pre w (List.mem_cons_of_mem _ h)
  have hown : s.vm.findClass RX1 = some m.cls := findClass_of_methodNamed B.named
  have hlocks := B.notSynchronized
  have hK := hwd.1
  have hS : va_S (fun q => lo ≤ q) s.heap s.heap [] := va_S.rf
  have hl := lv_entry ([.ref (al 1 i)]) (n := 1) (Nat.le_of_ble_eq_true rfl)
  rw [lg_entry_eq]
  generalize (lg_sl ([.ref (al 1 i)]) ++ List.replicate (1 - (lg_sl ([.ref (al 1 i)])).length) Slot.unset).toArray = ls at hl ⊢
  have hl : lv_has ls 1 [(0, .ref (al 1 i))] := hl
  refine lv_lconst (v := 0) hx hb dX1_risk_0 (by decide) ?_
  refine lv_aload_n hx hb dX1_risk_1 rfl (lv_at hl 0 rfl) ?_
  refine sx_get (ci := 1) (C := RX1) (T := TX1) (N := 11) (v := .long (fL σ 1 i 6)) hx hb hts inX1 hown hK (c1_at hI hi) rfl 6 (by decide) (hts _ w_2_83) rfl rfl dX1_risk_2 ?_
  refine lv_aload_n hx hb dX1_risk_5 rfl (lv_at hl 0 rfl) ?_
  refine sx_get (ci := 1) (C := RX1) (T := TX1) (N := 11) (v := .long (fL σ 1 i 5)) hx hb hts inX1 hown hK (c1_at hI hi) rfl 5 (by decide) (hts _ w_2_81) rfl rfl dX1_risk_6 ?_
  refine lv_lsub hx hb dX1_risk_9 ?_
  refine va_mmax_long hx hb (hml.trans hl.1.symm) hown (hts _ w_1_154) (hts _ w_1_155) (hts _ w_1_12) (hts _ wm_max_long) (Nat.le_of_ble_eq_true rfl) (Nat.le_of_ble_eq_true rfl) (Nat.le_of_ble_eq_true rfl) (Nat.le_of_ble_eq_true rfl) dX1_risk_10 ?_
  exact W.lret (v := if ((fL σ 1 i 6) - (fL σ 1 i 5)) < 0 then 0 else ((fL σ 1 i 6) - (fL σ 1 i 5))) hx hb hr (fun t ht hW => ⟨_, rfl, rfl, ht⟩) (fun q h => by cases h) dX1_risk_13

set_option maxHeartbeats 4000000 in
set_option maxRecDepth 100000 in
theorem k_mayCover (l : Launch) (D : va_G) (dA : Nat → ClassId) (sa : Nat → Nat) (lo : Nat) (al : Nat → Nat → Nat) (σ μ : CS) (i : Nat) (hi : i < nG σ) : Met l yX1_mayCover wsX1_mayCover ({ frames := 2, cells := 0, slots := 0, locals := 60 }) (va_Pc [.ref (al 1 i)] (ivP D dA sa lo al σ μ)) (vp_Sl (fun r => r = gMay σ i)) 0 0 (fun _ => False) := by
  refine Met.ofW (cc := cX1_mayCover) (maxL := 1) (ret := some .long) (by decide) rfl ?_
  intro p e s m args below meth c s₁ B hml hv
  obtain ⟨rfl, hI, hwd⟩ := hv
  have hx := B.exec
  have hb := B.bytes
  have hr := B.returns
  have hts : ∀ w ∈ WSall, w.before _ s = true := fun w h => atoms_spec (ws := wsX1_mayCover) B.pre w (List.mem_cons_of_mem _ h)
  have hown : s.vm.findClass RX1 = some m.cls := findClass_of_methodNamed B.named
  have hlocks := B.notSynchronized
  have hK := hwd.1
  have hS : va_S (fun q => lo ≤ q) s.heap s.heap [] := va_S.rf
  have hl := lv_entry ([.ref (al 1 i)]) (n := 1) (Nat.le_of_ble_eq_true rfl)
  rw [lg_entry_eq]
  generalize (lg_sl ([.ref (al 1 i)]) ++ List.replicate (1 - (lg_sl ([.ref (al 1 i)])).length) Slot.unset).toArray = ls at hl ⊢
  have hl : lv_has ls 1 [(0, .ref (al 1 i))] := hl
  refine lv_aload_n hx hb dX1_mayCover_0 rfl (lv_at hl 0 rfl) ?_
  refine sx_get (ci := 1) (C := RX1) (T := TX1) (N := 11) (v := .int (fI σ 1 i 9)) hx hb hts inX1 hown hK (c1_at hI hi) rfl 9 (by decide) (hts _ w_2_89) rfl rfl dX1_mayCover_1 ?_
  refine lv_if_ne (tgt := 21) hx hb dX1_mayCover_4 (by decide) (fun c_4 => ?_) (fun c_4 => ?_)
  · refine lv_lconst (v := 0) hx hb dX1_mayCover_21 (by decide) ?_
    refine lv_goto (tgt := 36) hx hb dX1_mayCover_22 (by decide) ?_
    exact W.lret (v := 0) hx hb hr (fun t ht hW => ⟨_, rfl, by simp [gMay, c_4], ht⟩) (fun q h => by cases h) dX1_mayCover_36
  · refine lv_aload_n hx hb dX1_mayCover_7 rfl (lv_at hl 0 rfl) ?_
    refine sx_get (ci := 1) (C := RX1) (T := TX1) (N := 11) (v := .int (fI σ 1 i 3)) hx hb hts inX1 hown hK (c1_at hI hi) rfl 3 (by decide) (hts _ w_2_78) rfl rfl dX1_mayCover_8 ?_
    refine lv_if_eq (tgt := 25) hx hb dX1_mayCover_11 (by decide) (fun c_11 => ?_) (fun c_11 => ?_)
    · refine lv_aload_n hx hb dX1_mayCover_25 rfl (lv_at hl 0 rfl) ?_
      refine sx_get (ci := 1) (C := RX1) (T := TX1) (N := 11) (v := .ref (al 2 i)) hx hb hts inX1 hown hK (c1_at hI hi) rfl 2 (by decide) (hts _ w_2_77) rfl rfl dX1_mayCover_26 ?_
      refine lv_aload_n hx hb dX1_mayCover_29 rfl (lv_at hl 0 rfl) ?_
      refine vp_callSl (W.runV (As := []) (rest := [.ref (al 2 i)]) ⟨hx, hb, hml, hown, hts⟩ (k_unneeded l D dA sa lo al σ μ i hi ) (cwV 0 hts (gdV w_1_150 w_1_151 w_1_152 w_1_9 w_1_153) rfl rfl rfl (by decide +kernel) ⟨Nat.le_of_ble_eq_true rfl, Nat.le_of_ble_eq_true rfl⟩) ⟨iv_bl, sx_recv hK (c1_at hI hi) rfl, fun U hU hW => ⟨rfl, iv_use hI hwd hS hU hW⟩⟩ rfl rfl hl.1 rfl (lv_room (Nat.le_of_ble_eq_true rfl)) dX1_mayCover_30 ⟨Nat.le_of_ble_eq_true rfl, Nat.le_of_ble_eq_true rfl⟩) (fun r_30 e_30 => ?_)
      subst e_30
      refine vp_callSl (W.runV (As := [.long (gUnn σ i)]) (rest := []) ⟨hx, hb, hml, hown, hts⟩ (k_mostFor l D dA sa lo al σ μ i hi (gUnn σ i)) (cwV 1 hts (gdV w_1_157 w_1_158 w_1_159 w_1_10 w_1_160) rfl rfl rfl (by decide +kernel) ⟨Nat.le_of_ble_eq_true rfl, Nat.le_of_ble_eq_true rfl⟩) ⟨iv_bl, sx_recv hK (c2_at hI hi) rfl, fun U hU hW => ⟨rfl, iv_use hI hwd hS hU hW⟩⟩ rfl rfl hl.1 rfl (lv_room (Nat.le_of_ble_eq_true rfl)) dX1_mayCover_33 ⟨Nat.le_of_ble_eq_true rfl, Nat.le_of_ble_eq_true rfl⟩) (fun r_33 e_33 => ?_)
      subst e_33
      exact W.lret (v := sMost (fI σ 2 i 0) (fI σ 2 i 1) (gUnn σ i)) hx hb hr (fun t ht hW => ⟨_, rfl, by simp [gMay, c_4, c_11], ht⟩) (fun q h => by cases h) dX1_mayCover_36
    · refine lv_aload_n hx hb dX1_mayCover_14 rfl (lv_at hl 0 rfl) ?_
      refine sx_get (ci := 1) (C := RX1) (T := TX1) (N := 11) (v := .int (fI σ 1 i 8)) hx hb hts inX1 hown hK (c1_at hI hi) rfl 8 (by decide) (hts _ w_2_87) rfl rfl dX1_mayCover_15 ?_
      refine lv_if_le (tgt := 25) hx hb dX1_mayCover_18 (by decide) (fun c_18 => ?_) (fun c_18 => ?_)
      · refine lv_aload_n hx hb dX1_mayCover_25 rfl (lv_at hl 0 rfl) ?_
        refine sx_get (ci := 1) (C := RX1) (T := TX1) (N := 11) (v := .ref (al 2 i)) hx hb hts inX1 hown hK (c1_at hI hi) rfl 2 (by decide) (hts _ w_2_77) rfl rfl dX1_mayCover_26 ?_
        refine lv_aload_n hx hb dX1_mayCover_29 rfl (lv_at hl 0 rfl) ?_
        refine vp_callSl (W.runV (As := []) (rest := [.ref (al 2 i)]) ⟨hx, hb, hml, hown, hts⟩ (k_unneeded l D dA sa lo al σ μ i hi ) (cwV 0 hts (gdV w_1_150 w_1_151 w_1_152 w_1_9 w_1_153) rfl rfl rfl (by decide +kernel) ⟨Nat.le_of_ble_eq_true rfl, Nat.le_of_ble_eq_true rfl⟩) ⟨iv_bl, sx_recv hK (c1_at hI hi) rfl, fun U hU hW => ⟨rfl, iv_use hI hwd hS hU hW⟩⟩ rfl rfl hl.1 rfl (lv_room (Nat.le_of_ble_eq_true rfl)) dX1_mayCover_30 ⟨Nat.le_of_ble_eq_true rfl, Nat.le_of_ble_eq_true rfl⟩) (fun r_30 e_30 => ?_)
        subst e_30
        refine vp_callSl (W.runV (As := [.long (gUnn σ i)]) (rest := []) ⟨hx, hb, hml, hown, hts⟩ (k_mostFor l D dA sa lo al σ μ i hi (gUnn σ i)) (cwV 1 hts (gdV w_1_157 w_1_158 w_1_159 w_1_10 w_1_160) rfl rfl rfl (by decide +kernel) ⟨Nat.le_of_ble_eq_true rfl, Nat.le_of_ble_eq_true rfl⟩) ⟨iv_bl, sx_recv hK (c2_at hI hi) rfl, fun U hU hW => ⟨rfl, iv_use hI hwd hS hU hW⟩⟩ rfl rfl hl.1 rfl (lv_room (Nat.le_of_ble_eq_true rfl)) dX1_mayCover_33 ⟨Nat.le_of_ble_eq_true rfl, Nat.le_of_ble_eq_true rfl⟩) (fun r_33 e_33 => ?_)
        subst e_33
        exact W.lret (v := sMost (fI σ 2 i 0) (fI σ 2 i 1) (gUnn σ i)) hx hb hr (fun t ht hW => ⟨_, rfl, by simp [gMay, c_4, c_11, c_18], ht⟩) (fun q h => by cases h) dX1_mayCover_36
      · refine lv_lconst (v := 0) hx hb dX1_mayCover_21 (by decide) ?_
        refine lv_goto (tgt := 36) hx hb dX1_mayCover_22 (by decide) ?_
        exact W.lret (v := 0) hx hb hr (fun t ht hW => ⟨_, rfl, by simp [gMay, c_4, c_11, c_18], ht⟩) (fun q h => by cases h) dX1_mayCover_36

set_option maxHeartbeats 4000000 in
set_option maxRecDepth 100000 in
theorem k_changePart (l : Launch) (D : va_G) (dA : Nat → ClassId) (sa : Nat → Nat) (lo : Nat) (al : Nat → Nat → Nat) (σ μ : CS) (i : Nat) (hi : i < nG σ) (b a : Int64) : Met l yX1_changePart wsX1_changePart ({ frames := 1, cells := 0, slots := 0, locals := 40 }) (va_Pc [.ref (al 1 i), .long b, .long a] (ivP D dA sa lo al σ μ)) (va_Qv (fun u => u = gChg σ i b a) (ivB D dA lo al μ) (fun q => lo ≤ q)) 0 0 (fun q => lo ≤ q) := by
  refine Met.ofW (cc := cX1_changePart) (maxL := 5) (ret := none) (by decide) rfl ?_
  intro p e s m args below meth c s₁ B hml hv
  obtain ⟨rfl, hI, hwd⟩ := hv
  have hx := B.exec
  have hb := B.bytes
  have hr := B.returns
  have hts : ∀ w ∈ WSall, w.before _ s = true := fun w h => atoms_spec (ws := wsX1_changePart) B.pre w (List.mem_cons_of_mem _ h)
  have hown : s.vm.findClass RX1 = some m.cls := findClass_of_methodNamed B.named
  have hlocks := B.notSynchronized
  have hK := hwd.1
  have hS : va_S (fun q => lo ≤ q) s.heap s.heap [] := va_S.rf
  have hl := lv_entry ([.ref (al 1 i), .long b, .long a]) (n := 5) (Nat.le_of_ble_eq_true rfl)
  rw [lg_entry_eq]
  generalize (lg_sl ([.ref (al 1 i), .long b, .long a]) ++ List.replicate (5 - (lg_sl ([.ref (al 1 i), .long b, .long a])).length) Slot.unset).toArray = ls at hl ⊢
  have hl : lv_has ls 5 [(0, .ref (al 1 i)), (1, .long b), (3, .long a)] := hl
  refine lv_aload_n hx hb dX1_changePart_0 rfl (lv_at hl 0 rfl) ?_
  refine lv_dup hx hb dX1_changePart_1 rfl ?_
  refine sx_get (ci := 1) (C := RX1) (T := TX1) (N := 11) (v := .long (fL σ 1 i 6)) hx hb hts inX1 hown hK (c1_at hI hi) rfl 6 (by decide) (hts _ w_2_83) rfl rfl dX1_changePart_2 ?_
  refine lv_aload_n hx hb dX1_changePart_5 rfl (lv_at hl 0 rfl) ?_
  refine sx_get (ci := 1) (C := RX1) (T := TX1) (N := 11) (v := .ref (al 2 i)) hx hb hts inX1 hown hK (c1_at hI hi) rfl 2 (by decide) (hts _ w_2_77) rfl rfl dX1_changePart_6 ?_
  refine lv_lload_n hx hb dX1_changePart_9 rfl (lv_at hl 2 rfl) ?_
  refine vp_callSl (W.runV (As := [.long a]) (rest := [.long (fL σ 1 i 6), .ref (al 1 i)]) ⟨hx, hb, hml, hown, hts⟩ (k_neededFor l D dA sa lo al σ μ i hi a) (cwV 1 hts (gdV w_2_157 w_2_158 w_2_159 w_1_10 w_2_160) rfl rfl rfl (by decide +kernel) ⟨Nat.le_of_ble_eq_true rfl, Nat.le_of_ble_eq_true rfl⟩) ⟨iv_bl, sx_recv hK (c2_at hI hi) rfl, fun U hU hW => ⟨rfl, iv_use hI hwd hS hU hW⟩⟩ rfl rfl hl.1 rfl (lv_room (Nat.le_of_ble_eq_true rfl)) dX1_changePart_10 ⟨Nat.le_of_ble_eq_true rfl, Nat.le_of_ble_eq_true rfl⟩) (fun r_10 e_10 => ?_)
  subst e_10
  refine lv_aload_n hx hb dX1_changePart_13 rfl (lv_at hl 0 rfl) ?_
  refine sx_get (ci := 1) (C := RX1) (T := TX1) (N := 11) (v := .ref (al 2 i)) hx hb hts inX1 hown hK (c1_at hI hi) rfl 2 (by decide) (hts _ w_2_77) rfl rfl dX1_changePart_14 ?_
  refine lv_lload_n hx hb dX1_changePart_17 rfl (lv_at hl 1 rfl) ?_
  refine vp_callSl (W.runV (As := [.long b]) (rest := [.long (gNeed σ i a), .long (fL σ 1 i 6), .ref (al 1 i)]) ⟨hx, hb, hml, hown, hts⟩ (k_neededFor l D dA sa lo al σ μ i hi b) (cwV 1 hts (gdV w_2_157 w_2_158 w_2_159 w_1_10 w_2_160) rfl rfl rfl (by decide +kernel) ⟨Nat.le_of_ble_eq_true rfl, Nat.le_of_ble_eq_true rfl⟩) ⟨iv_bl, sx_recv hK (c2_at hI hi) rfl, fun U hU hW => ⟨rfl, iv_use hI hwd hS hU hW⟩⟩ rfl rfl hl.1 rfl (lv_room (Nat.le_of_ble_eq_true rfl)) dX1_changePart_18 ⟨Nat.le_of_ble_eq_true rfl, Nat.le_of_ble_eq_true rfl⟩) (fun r_18 e_18 => ?_)
  subst e_18
  refine lv_lsub hx hb dX1_changePart_21 ?_
  refine lv_ladd hx hb dX1_changePart_22 ?_
  refine sx_put (ci := 1) (v := .long ((fL σ 1 i 6) + ((gNeed σ i a) - (gNeed σ i b)))) (ty := .long) (C := RX1) (T := TX1) (N := 11) hx hb hts inX1 tyX1 okX1 nmX1 hown hK hS (c1_at hI hi) (c1_lo hI hi) rfl 6 (by decide) (hts _ w_2_83) rfl rfl (by decide +kernel) rfl rfl (Nat.le_of_ble_eq_true rfl) dX1_changePart_23 (fun H locs hq => ?_)
  have hI := c1_uL (f := 6) (v := (fL σ 1 i 6) + ((gNeed σ i a) - (gNeed σ i b))) hI hi rfl hq
  have hS := hq.2.2.2
  refine lv_lload_n hx hb dX1_changePart_26 rfl (lv_at hl 1 rfl) ?_
  refine lv_lconst (v := 0) hx hb dX1_changePart_27 (by decide) ?_
  refine W.lcmp hx hb dX1_changePart_28 ?_
  refine lv_if_ne (tgt := 42) hx hb dX1_changePart_29 (by decide) (fun c_29 => ?_) (fun c_29 => ?_)
  · have c_29 : ¬ b = 0 := fun h => c_29 ((lg_cmp_eq _ _).mpr h)
    refine lv_lload_n hx hb dX1_changePart_42 rfl (lv_at hl 2 rfl) ?_
    refine lv_lconst (v := 0) hx hb dX1_changePart_43 (by decide) ?_
    refine W.lcmp hx hb dX1_changePart_44 ?_
    refine lv_if_ne (tgt := 58) hx hb dX1_changePart_45 (by decide) (fun c_45 => ?_) (fun c_45 => ?_)
    · have c_45 : ¬ a = 0 := fun h => c_45 ((lg_cmp_eq _ _).mpr h)
      exact W.vret hx hb hr (fun t ht hW => ⟨⟨uL σ 1 i 6 ((fL σ 1 i 6) + ((gNeed σ i a) - (gNeed σ i b))), rfl, (by unfold gChg gCh3 gCh2 gCh1; simp only [if_neg c_29, if_neg c_45] <;> rfl), iv_give ht hI⟩, hS.F ht⟩) hS.2.2 dX1_changePart_58
    · have c_45 : a = 0 := (lg_cmp_eq _ _).mp c_45
      refine lv_aload_n hx hb dX1_changePart_48 rfl (lv_at hl 0 rfl) ?_
      refine lv_dup hx hb dX1_changePart_49 rfl ?_
      refine sx_get (ci := 1) (C := RX1) (T := TX1) (N := 11) (v := .int (fI σ 1 i 8)) hx hb hts inX1 hown hK (c1_at hI hi) rfl 8 (by decide) (hts _ w_2_87) rfl rfl dX1_changePart_50 ?_
      refine lv_iconst (v := 1) hx hb dX1_changePart_53 (by decide) ?_
      refine lv_isub hx hb dX1_changePart_54 ?_
      refine sx_put (ci := 1) (v := .int ((fI σ 1 i 8) - 1)) (ty := .int) (C := RX1) (T := TX1) (N := 11) hx hb hts inX1 tyX1 okX1 nmX1 hown hK hS (c1_at hI hi) (c1_lo hI hi) rfl 8 (by decide) (hts _ w_2_87) rfl rfl (by decide +kernel) rfl rfl (Nat.le_of_ble_eq_true rfl) dX1_changePart_55 (fun H locs hq => ?_)
      have hI := c1_uI (f := 8) (v := (fI σ 1 i 8) - 1) hI hi rfl hq
      have hS := hq.2.2.2
      exact W.vret hx hb hr (fun t ht hW => ⟨⟨uI (uL σ 1 i 6 ((fL σ 1 i 6) + ((gNeed σ i a) - (gNeed σ i b)))) 1 i 8 ((fI σ 1 i 8) - 1), rfl, (by unfold gChg gCh3 gCh2 gCh1; simp only [if_neg c_29, if_pos c_45] <;> rfl), iv_give ht hI⟩, hS.F ht⟩) hS.2.2 dX1_changePart_58
  · have c_29 : b = 0 := (lg_cmp_eq _ _).mp c_29
    refine lv_aload_n hx hb dX1_changePart_32 rfl (lv_at hl 0 rfl) ?_
    refine lv_dup hx hb dX1_changePart_33 rfl ?_
    refine sx_get (ci := 1) (C := RX1) (T := TX1) (N := 11) (v := .int (fI σ 1 i 8)) hx hb hts inX1 hown hK (c1_at hI hi) rfl 8 (by decide) (hts _ w_2_87) rfl rfl dX1_changePart_34 ?_
    refine lv_iconst (v := 1) hx hb dX1_changePart_37 (by decide) ?_
    refine lv_iadd hx hb dX1_changePart_38 ?_
    refine sx_put (ci := 1) (v := .int ((fI σ 1 i 8) + 1)) (ty := .int) (C := RX1) (T := TX1) (N := 11) hx hb hts inX1 tyX1 okX1 nmX1 hown hK hS (c1_at hI hi) (c1_lo hI hi) rfl 8 (by decide) (hts _ w_2_87) rfl rfl (by decide +kernel) rfl rfl (Nat.le_of_ble_eq_true rfl) dX1_changePart_39 (fun H locs hq => ?_)
    have hI := c1_uI (f := 8) (v := (fI σ 1 i 8) + 1) hI hi rfl hq
    have hS := hq.2.2.2
    refine lv_lload_n hx hb dX1_changePart_42 rfl (lv_at hl 2 rfl) ?_
    refine lv_lconst (v := 0) hx hb dX1_changePart_43 (by decide) ?_
    refine W.lcmp hx hb dX1_changePart_44 ?_
    refine lv_if_ne (tgt := 58) hx hb dX1_changePart_45 (by decide) (fun c_45 => ?_) (fun c_45 => ?_)
    · have c_45 : ¬ a = 0 := fun h => c_45 ((lg_cmp_eq _ _).mpr h)
      exact W.vret hx hb hr (fun t ht hW => ⟨⟨uI (uL σ 1 i 6 ((fL σ 1 i 6) + ((gNeed σ i a) - (gNeed σ i b)))) 1 i 8 ((fI σ 1 i 8) + 1), rfl, (by unfold gChg gCh3 gCh2 gCh1; simp only [if_pos c_29, if_neg c_45] <;> rfl), iv_give ht hI⟩, hS.F ht⟩) hS.2.2 dX1_changePart_58
    · have c_45 : a = 0 := (lg_cmp_eq _ _).mp c_45
      refine lv_aload_n hx hb dX1_changePart_48 rfl (lv_at hl 0 rfl) ?_
      refine lv_dup hx hb dX1_changePart_49 rfl ?_
      refine sx_get (ci := 1) (C := RX1) (T := TX1) (N := 11) (v := .int (fI (uI (uL σ 1 i 6 ((fL σ 1 i 6) + ((gNeed σ i a) - (gNeed σ i b)))) 1 i 8 ((fI σ 1 i 8) + 1)) 1 i 8)) hx hb hts inX1 hown hK (c1_at hI hi) rfl 8 (by decide) (hts _ w_2_87) rfl rfl dX1_changePart_50 ?_
      refine lv_iconst (v := 1) hx hb dX1_changePart_53 (by decide) ?_
      refine lv_isub hx hb dX1_changePart_54 ?_
      refine sx_put (ci := 1) (v := .int ((fI (uI (uL σ 1 i 6 ((fL σ 1 i 6) + ((gNeed σ i a) - (gNeed σ i b)))) 1 i 8 ((fI σ 1 i 8) + 1)) 1 i 8) - 1)) (ty := .int) (C := RX1) (T := TX1) (N := 11) hx hb hts inX1 tyX1 okX1 nmX1 hown hK hS (c1_at hI hi) (c1_lo hI hi) rfl 8 (by decide) (hts _ w_2_87) rfl rfl (by decide +kernel) rfl rfl (Nat.le_of_ble_eq_true rfl) dX1_changePart_55 (fun H locs hq => ?_)
      have hI := c1_uI (f := 8) (v := (fI (uI (uL σ 1 i 6 ((fL σ 1 i 6) + ((gNeed σ i a) - (gNeed σ i b)))) 1 i 8 ((fI σ 1 i 8) + 1)) 1 i 8) - 1) hI hi rfl hq
      have hS := hq.2.2.2
      exact W.vret hx hb hr (fun t ht hW => ⟨⟨uI (uI (uL σ 1 i 6 ((fL σ 1 i 6) + ((gNeed σ i a) - (gNeed σ i b)))) 1 i 8 ((fI σ 1 i 8) + 1)) 1 i 8 ((fI (uI (uL σ 1 i 6 ((fL σ 1 i 6) + ((gNeed σ i a) - (gNeed σ i b)))) 1 i 8 ((fI σ 1 i 8) + 1)) 1 i 8) - 1), rfl, (by unfold gChg gCh3 gCh2 gCh1; simp only [if_pos c_29, if_pos c_45] <;> rfl), iv_give ht hI⟩, hS.F ht⟩) hS.2.2 dX1_changePart_58

set_option maxHeartbeats 4000000 in
set_option maxRecDepth 100000 in
theorem k_loseUpTo (l : Launch) (D : va_G) (dA : Nat → ClassId) (sa : Nat → Nat) (lo : Nat) (al : Nat → Nat → Nat) (σ μ : CS) (i : Nat) (hi : i < nG σ) (x : Int64) (day : Int32) : Met l yX1_loseUpTo wsX1_loseUpTo ({ frames := 2, cells := 0, slots := 0, locals := 60 }) (va_Pc [.ref (al 1 i), .long x, .int day] (ivP D dA sa lo al σ μ)) (va_Ql (fun r u => r = gLost σ i x ∧ u = gLose σ i x day) (ivB D dA lo al μ) (fun q => lo ≤ q)) 0 0 (fun q => lo ≤ q) := by
  refine Met.ofW (cc := cX1_loseUpTo) (maxL := 6) (ret := some .long) (by decide) rfl ?_
  intro p e s m args below meth c s₁ B hml hv
  obtain ⟨rfl, hI, hwd⟩ := hv
  have hx := B.exec
  have hb := B.bytes
  have hr := B.returns
  have hts : ∀ w ∈ WSall, w.before _ s = true := fun w h => atoms_spec (ws := wsX1_loseUpTo) B.pre w (List.mem_cons_of_mem _ h)
  have hown : s.vm.findClass RX1 = some m.cls := findClass_of_methodNamed B.named
  have hlocks := B.notSynchronized
  have hK := hwd.1
  have hS : va_S (fun q => lo ≤ q) s.heap s.heap [] := va_S.rf
  have hl := lv_entry ([.ref (al 1 i), .long x, .int day]) (n := 6) (Nat.le_of_ble_eq_true rfl)
  rw [lg_entry_eq]
  generalize (lg_sl ([.ref (al 1 i), .long x, .int day]) ++ List.replicate (6 - (lg_sl ([.ref (al 1 i), .long x, .int day])).length) Slot.unset).toArray = ls at hl ⊢
  have hl : lv_has ls 6 [(0, .ref (al 1 i)), (1, .long x), (3, .int day)] := hl
  refine lv_aload_n hx hb dX1_loseUpTo_0 rfl (lv_at hl 0 rfl) ?_
  refine sx_get (ci := 1) (C := RX1) (T := TX1) (N := 11) (v := .long (fL σ 1 i 5)) hx hb hts inX1 hown hK (c1_at hI hi) rfl 5 (by decide) (hts _ w_2_81) rfl rfl dX1_loseUpTo_1 ?_
  refine lv_lload_n hx hb dX1_loseUpTo_4 rfl (lv_at hl 1 rfl) ?_
  refine va_mmin_long hx hb (hml.trans hl.1.symm) hown (hts _ w_2_213) (hts _ w_1_164) (hts _ w_1_12) (hts _ wm_min_long) (Nat.le_of_ble_eq_true rfl) (Nat.le_of_ble_eq_true rfl) (Nat.le_of_ble_eq_true rfl) (Nat.le_of_ble_eq_true rfl) dX1_loseUpTo_5 ?_
  refine lv_lstore (lv' := [(4, .long (if x < (fL σ 1 i 5) then x else (fL σ 1 i 5))), (0, .ref (al 1 i)), (1, .long x), (3, .int day)]) hx hb dX1_loseUpTo_8 hl (by decide) rfl (fun ls hl => ?_)
  refine lv_lload hx hb dX1_loseUpTo_10 (lv_at hl 0 rfl) ?_
  refine lv_lconst (v := 0) hx hb dX1_loseUpTo_12 (by decide) ?_
  refine W.lcmp hx hb dX1_loseUpTo_13 ?_
  refine lv_if_le (tgt := 51) hx hb dX1_loseUpTo_14 (by decide) (fun c_14 => ?_) (fun c_14 => ?_)
  · have c_14 : (if x < (fL σ 1 i 5) then x else (fL σ 1 i 5)) ≤ 0 := (lg_cmp_le _ _).mp c_14
    refine lv_lload hx hb dX1_loseUpTo_51 (lv_at hl 0 rfl) ?_
    exact W.lret (v := if x < (fL σ 1 i 5) then x else (fL σ 1 i 5)) hx hb hr (fun t ht hW => ⟨⟨if x < (fL σ 1 i 5) then x else (fL σ 1 i 5), σ, rfl, ⟨rfl, (by unfold gLose; rw [if_pos (show gLost σ i x ≤ 0 from c_14)] <;> rfl)⟩, iv_give ht hI⟩, hS.F ht⟩) hS.2.2 dX1_loseUpTo_53
  · have c_14 : ¬ (if x < (fL σ 1 i 5) then x else (fL σ 1 i 5)) ≤ 0 := fun h => c_14 ((lg_cmp_le _ _).mpr h)
    refine lv_aload_n hx hb dX1_loseUpTo_17 rfl (lv_at hl 1 rfl) ?_
    refine sx_get (ci := 1) (C := RX1) (T := TX1) (N := 11) (v := .ref (al 3 i)) hx hb hts inX1 hown hK (c1_at hI hi) rfl 4 (by decide) (hts _ w_2_79) rfl rfl dX1_loseUpTo_18 ?_
    refine lv_iload_n hx hb dX1_loseUpTo_21 rfl (lv_at hl 3 rfl) ?_
    refine lv_aload_n hx hb dX1_loseUpTo_22 rfl (lv_at hl 1 rfl) ?_
    refine sx_get (ci := 1) (C := RX1) (T := TX1) (N := 11) (v := .long (fL σ 1 i 5)) hx hb hts inX1 hown hK (c1_at hI hi) rfl 5 (by decide) (hts _ w_2_81) rfl rfl dX1_loseUpTo_23 ?_
    refine va_callv (va_runV (As := [.int day, .long (fL σ 1 i 5)]) (rest := []) ⟨hx, hb, hml, hown, hts⟩ (k_endRow l D dA sa lo al σ μ i hi day (fL σ 1 i 5)) (cwV 2 hts (gdV w_2_214 w_1_115 w_1_116 w_1_11 w_1_117) rfl rfl rfl (by decide +kernel) ⟨Nat.le_of_ble_eq_true rfl, Nat.le_of_ble_eq_true rfl⟩) ⟨iv_bl, sx_recv hK (c3_at hI hi) rfl, fun U hU hW => ⟨rfl, iv_use hI hwd hS hU hW⟩⟩ rfl rfl hl.1 rfl (lv_room (Nat.le_of_ble_eq_true rfl)) dX1_loseUpTo_26 ⟨Nat.le_of_ble_eq_true rfl, Nat.le_of_ble_eq_true rfl⟩) hS (fun q _ h => h) (fun q h => h) (fun u9 T9 H1 locs ht9 hvm9 e_26 hB9 hz9 hk9 hS => ?_)
    have hI := iv_take ht9 hB9
    clear hB9 hk9
    obtain rfl := e_26
    refine lv_aload_n hx hb dX1_loseUpTo_29 rfl (lv_at hl 1 rfl) ?_
    refine lv_dup hx hb dX1_loseUpTo_30 rfl ?_
    refine sx_get (ci := 1) (C := RX1) (T := TX1) (N := 11) (v := .long (fL (nEnd σ i day (fL σ 1 i 5)) 1 i 5)) hx hb hts inX1 hown hK (c1_at hI hi) rfl 5 (by decide) (hts _ w_2_81) rfl rfl dX1_loseUpTo_31 ?_
    refine lv_lload hx hb dX1_loseUpTo_34 (lv_at hl 0 rfl) ?_
    refine lv_lsub hx hb dX1_loseUpTo_36 ?_
    refine sx_put (ci := 1) (v := .long ((fL (nEnd σ i day (fL σ 1 i 5)) 1 i 5) - (if x < (fL σ 1 i 5) then x else (fL σ 1 i 5)))) (ty := .long) (C := RX1) (T := TX1) (N := 11) hx hb hts inX1 tyX1 okX1 nmX1 hown hK hS (c1_at hI hi) (c1_lo hI hi) rfl 5 (by decide) (hts _ w_2_81) rfl rfl (by decide +kernel) rfl rfl (Nat.le_of_ble_eq_true rfl) dX1_loseUpTo_37 (fun H locs hq => ?_)
    have hI := c1_uL (f := 5) (v := (fL (nEnd σ i day (fL σ 1 i 5)) 1 i 5) - (if x < (fL σ 1 i 5) then x else (fL σ 1 i 5))) hI hi rfl hq
    have hS := hq.2.2.2
    refine lv_aload_n hx hb dX1_loseUpTo_40 rfl (lv_at hl 1 rfl) ?_
    refine lv_dup hx hb dX1_loseUpTo_41 rfl ?_
    refine sx_get (ci := 1) (C := RX1) (T := TX1) (N := 11) (v := .long (fL (uL (nEnd σ i day (fL σ 1 i 5)) 1 i 5 ((fL (nEnd σ i day (fL σ 1 i 5)) 1 i 5) - (if x < (fL σ 1 i 5) then x else (fL σ 1 i 5)))) 1 i 7)) hx hb hts inX1 hown hK (c1_at hI hi) rfl 7 (by decide) (hts _ w_2_85) rfl rfl dX1_loseUpTo_42 ?_
    refine lv_lload hx hb dX1_loseUpTo_45 (lv_at hl 0 rfl) ?_
    refine lv_ladd hx hb dX1_loseUpTo_47 ?_
    refine sx_put (ci := 1) (v := .long ((fL (uL (nEnd σ i day (fL σ 1 i 5)) 1 i 5 ((fL (nEnd σ i day (fL σ 1 i 5)) 1 i 5) - (if x < (fL σ 1 i 5) then x else (fL σ 1 i 5)))) 1 i 7) + (if x < (fL σ 1 i 5) then x else (fL σ 1 i 5)))) (ty := .long) (C := RX1) (T := TX1) (N := 11) hx hb hts inX1 tyX1 okX1 nmX1 hown hK hS (c1_at hI hi) (c1_lo hI hi) rfl 7 (by decide) (hts _ w_2_85) rfl rfl (by decide +kernel) rfl rfl (Nat.le_of_ble_eq_true rfl) dX1_loseUpTo_48 (fun H locs hq => ?_)
    have hI := c1_uL (f := 7) (v := (fL (uL (nEnd σ i day (fL σ 1 i 5)) 1 i 5 ((fL (nEnd σ i day (fL σ 1 i 5)) 1 i 5) - (if x < (fL σ 1 i 5) then x else (fL σ 1 i 5)))) 1 i 7) + (if x < (fL σ 1 i 5) then x else (fL σ 1 i 5))) hI hi rfl hq
    have hS := hq.2.2.2
    refine lv_lload hx hb dX1_loseUpTo_51 (lv_at hl 0 rfl) ?_
    exact W.lret (v := if x < (fL σ 1 i 5) then x else (fL σ 1 i 5)) hx hb hr (fun t ht hW => ⟨⟨if x < (fL σ 1 i 5) then x else (fL σ 1 i 5), uL (uL (nEnd σ i day (fL σ 1 i 5)) 1 i 5 ((fL (nEnd σ i day (fL σ 1 i 5)) 1 i 5) - (if x < (fL σ 1 i 5) then x else (fL σ 1 i 5)))) 1 i 7 ((fL (uL (nEnd σ i day (fL σ 1 i 5)) 1 i 5 ((fL (nEnd σ i day (fL σ 1 i 5)) 1 i 5) - (if x < (fL σ 1 i 5) then x else (fL σ 1 i 5)))) 1 i 7) + (if x < (fL σ 1 i 5) then x else (fL σ 1 i 5))), rfl, ⟨rfl, (by unfold gLose; rw [if_neg (show ¬ gLost σ i x ≤ 0 from c_14)] <;> rfl)⟩, iv_give ht hI⟩, hS.F ht⟩) hS.2.2 dX1_loseUpTo_53

set_option maxHeartbeats 4000000 in
set_option maxRecDepth 100000 in
theorem k_shut (l : Launch) (D : va_G) (dA : Nat → ClassId) (sa : Nat → Nat) (lo : Nat) (al : Nat → Nat → Nat) (σ μ : CS) (i : Nat) (hi : i < nG σ) (day : Int32) : Met l yX1_shut wsX1_shut ({ frames := 3, cells := 0, slots := 0, locals := 90 }) (va_Pc [.ref (al 1 i), .int day] (ivP D dA sa lo al σ μ)) (va_Qv (fun u => u = gShut σ i day) (ivB D dA lo al μ) (fun q => lo ≤ q)) 0 0 (fun q => lo ≤ q) := by
  refine Met.ofW (cc := cX1_shut) (maxL := 2) (ret := none) (by decide) rfl ?_
  intro p e s m args below meth c s₁ B hml hv
  obtain ⟨rfl, hI, hwd⟩ := hv
  have hx := B.exec
  have hb := B.bytes
  have hr := B.returns
  have hts : ∀ w ∈ WSall, w.before _ s = true := fun w h => atoms_spec (ws := wsX1_shut) B.pre w (List.mem_cons_of_mem _ h)
  have hown : s.vm.findClass RX1 = some m.cls := findClass_of_methodNamed B.named
  have hlocks := B.notSynchronized
  have hK := hwd.1
  have hS : va_S (fun q => lo ≤ q) s.heap s.heap [] := va_S.rf
  have hl := lv_entry ([.ref (al 1 i), .int day]) (n := 2) (Nat.le_of_ble_eq_true rfl)
  rw [lg_entry_eq]
  generalize (lg_sl ([.ref (al 1 i), .int day]) ++ List.replicate (2 - (lg_sl ([.ref (al 1 i), .int day])).length) Slot.unset).toArray = ls at hl ⊢
  have hl : lv_has ls 2 [(0, .ref (al 1 i)), (1, .int day)] := hl
  refine lv_aload_n hx hb dX1_shut_0 rfl (lv_at hl 0 rfl) ?_
  refine sx_get (ci := 1) (C := RX1) (T := TX1) (N := 11) (v := .ref (al 3 i)) hx hb hts inX1 hown hK (c1_at hI hi) rfl 4 (by decide) (hts _ w_2_79) rfl rfl dX1_shut_1 ?_
  refine lv_iload_n hx hb dX1_shut_4 rfl (lv_at hl 1 rfl) ?_
  refine lv_aload_n hx hb dX1_shut_5 rfl (lv_at hl 0 rfl) ?_
  refine sx_get (ci := 1) (C := RX1) (T := TX1) (N := 11) (v := .long (fL σ 1 i 5)) hx hb hts inX1 hown hK (c1_at hI hi) rfl 5 (by decide) (hts _ w_2_81) rfl rfl dX1_shut_6 ?_
  refine va_callv (va_runV (As := [.int day, .long (fL σ 1 i 5)]) (rest := []) ⟨hx, hb, hml, hown, hts⟩ (k_stop l D dA sa lo al σ μ i hi day (fL σ 1 i 5)) (cwV 2 hts (gdV w_1_110 w_1_111 w_1_112 w_1_11 w_1_113) rfl rfl rfl (by decide +kernel) ⟨Nat.le_of_ble_eq_true rfl, Nat.le_of_ble_eq_true rfl⟩) ⟨iv_bl, sx_recv hK (c3_at hI hi) rfl, fun U hU hW => ⟨rfl, iv_use hI hwd hS hU hW⟩⟩ rfl rfl hl.1 rfl (lv_room (Nat.le_of_ble_eq_true rfl)) dX1_shut_9 ⟨Nat.le_of_ble_eq_true rfl, Nat.le_of_ble_eq_true rfl⟩) hS (fun q _ h => h) (fun q h => h) (fun u9 T9 H1 locs ht9 hvm9 e_9 hB9 hz9 hk9 hS => ?_)
  have hI := iv_take ht9 hB9
  clear hB9 hk9
  obtain rfl := e_9
  refine lv_aload_n hx hb dX1_shut_12 rfl (lv_at hl 0 rfl) ?_
  refine lv_iconst (v := 1) hx hb dX1_shut_13 (by decide) ?_
  refine sx_put (ci := 1) (v := .int 1) (ty := .boolean) (C := RX1) (T := TX1) (N := 11) hx hb hts inX1 tyX1 okX1 nmX1 hown hK hS (c1_at hI hi) (c1_lo hI hi) rfl 9 (by decide) (hts _ w_2_89) rfl rfl (by decide +kernel) rfl rfl (Nat.le_of_ble_eq_true rfl) dX1_shut_14 (fun H locs hq => ?_)
  have hI := c1_uI (f := 9) (v := 1) hI hi rfl hq
  have hS := hq.2.2.2
  exact W.vret hx hb hr (fun t ht hW => ⟨⟨uI (nStop σ i day (fL σ 1 i 5)) 1 i 9 1, rfl, rfl, iv_give ht hI⟩, hS.F ht⟩) hS.2.2 dX1_shut_17
end
section
set_option maxHeartbeats 4000000 in
set_option maxRecDepth 100000 in
theorem k_beginFor (l : Launch) (D : va_G) (dA : Nat → ClassId) (sa : Nat → Nat) (lo : Nat) (al : Nat → Nat → Nat) (σ μ : CS) (j : Nat) (hj : j < nR σ) (h : Int32) (d : Int64) : Met l yX4_beginFor wsX4_beginFor ({ frames := 0, cells := 0, slots := 0, locals := 0 }) (va_Pc [.ref (al 4 j), .int h, .long d] (ivP D dA sa lo al σ μ)) (va_Qv (fun u => u = rBeg σ j h d) (ivB D dA lo al μ) (fun q => lo ≤ q)) 0 0 (fun q => lo ≤ q) := by
  refine Met.ofW (cc := cX4_beginFor) (maxL := 4) (ret := none) (by decide) rfl ?_
  intro p e s m args below meth c s₁ B hml hv
  obtain ⟨rfl, hI, hwd⟩ := hv
  have hx := B.exec
  have hb := B.bytes
  have hr := B.returns
  have hts : ∀ w ∈ WSall, w.before _ s = true := fun w h => atoms_spec (ws := wsX4_beginFor) B.pre w (List.mem_cons_of_mem _ h)
  have hown : s.vm.findClass RX4 = some m.cls := findClass_of_methodNamed B.named
  have hlocks := B.notSynchronized
  have hK := hwd.1
  have hS : va_S (fun q => lo ≤ q) s.heap s.heap [] := va_S.rf
  have hl := lv_entry ([.ref (al 4 j), .int h, .long d]) (n := 4) (Nat.le_of_ble_eq_true rfl)
  rw [lg_entry_eq]
  generalize (lg_sl ([.ref (al 4 j), .int h, .long d]) ++ List.replicate (4 - (lg_sl ([.ref (al 4 j), .int h, .long d])).length) Slot.unset).toArray = ls at hl ⊢
  have hl : lv_has ls 4 [(0, .ref (al 4 j)), (1, .int h), (2, .long d)] := hl
  refine lv_aload_n hx hb dX4_beginFor_0 rfl (lv_at hl 0 rfl) ?_
  refine lv_iload_n hx hb dX4_beginFor_1 rfl (lv_at hl 1 rfl) ?_
  refine sx_put (ci := 4) (v := .int h) (ty := .int) (C := RX4) (T := TX4) (N := 6) hx hb hts inX4 tyX4 okX4 nmX4 hown hK hS (c4_at hI hj) (c4_lo hI hj) rfl 3 (by decide) (hts _ w_1_37) rfl rfl (by decide +kernel) rfl rfl (Nat.le_of_ble_eq_true rfl) dX4_beginFor_2 (fun H locs hq => ?_)
  have hI := c4_uI (f := 3) (v := h) hI hj rfl hq
  have hS := hq.2.2.2
  refine lv_aload_n hx hb dX4_beginFor_5 rfl (lv_at hl 0 rfl) ?_
  refine lv_lload_n hx hb dX4_beginFor_6 rfl (lv_at hl 2 rfl) ?_
  refine sx_put (ci := 4) (v := .long d) (ty := .long) (C := RX4) (T := TX4) (N := 6) hx hb hts inX4 tyX4 okX4 nmX4 hown hK hS (c4_at hI hj) (c4_lo hI hj) rfl 4 (by decide) (hts _ w_1_39) rfl rfl (by decide +kernel) rfl rfl (Nat.le_of_ble_eq_true rfl) dX4_beginFor_7 (fun H locs hq => ?_)
  have hI := c4_uL (f := 4) (v := d) hI hj rfl hq
  have hS := hq.2.2.2
  refine lv_aload_n hx hb dX4_beginFor_10 rfl (lv_at hl 0 rfl) ?_
  refine lv_iconst (v := 0) hx hb dX4_beginFor_11 (by decide) ?_
  refine sx_put (ci := 4) (v := .int 0) (ty := .int) (C := RX4) (T := TX4) (N := 6) hx hb hts inX4 tyX4 okX4 nmX4 hown hK hS (c4_at hI hj) (c4_lo hI hj) rfl 2 (by decide) (hts _ w_1_35) rfl rfl (by decide +kernel) rfl rfl (Nat.le_of_ble_eq_true rfl) dX4_beginFor_12 (fun H locs hq => ?_)
  have hI := c4_uI (f := 2) (v := 0) hI hj rfl hq
  have hS := hq.2.2.2
  exact W.vret hx hb hr (fun t ht hW => ⟨⟨uI (uL (uI σ 4 j 3 h) 4 j 4 d) 4 j 2 0, rfl, rfl, iv_give ht hI⟩, hS.F ht⟩) hS.2.2 dX4_beginFor_15

set_option maxHeartbeats 4000000 in
set_option maxRecDepth 100000 in
theorem k_addPart (l : Launch) (D : va_G) (dA : Nat → ClassId) (sa : Nat → Nat) (lo : Nat) (al : Nat → Nat → Nat) (σ μ : CS) (j : Nat) (hj : j < nR σ) (g n : Nat) (hg : g < nG σ) (hn : fI σ 4 j 2 = nI n) (hn4 : n ≤ 4) (x : Int64) : Met l yX4_addPart wsX4_addPart ({ frames := 0, cells := 0, slots := 0, locals := 0 }) (va_Pc [.ref (al 4 j), .ref (al 1 g), .long x] (ivP D dA sa lo al σ μ)) (va_Qi (fun r u => if n < 4 then r = 1 ∧ u = rAdd σ j n g x else r = 0 ∧ u = σ) (ivB D dA lo al μ) (fun q => lo ≤ q)) 0 0 (fun q => lo ≤ q) := by
  refine Met.ofW (cc := cX4_addPart) (maxL := 4) (ret := some .boolean) (by decide) rfl ?_
  intro p e s m args below meth c s₁ B hml hv
  obtain ⟨rfl, hI, hwd⟩ := hv
  have hx := B.exec
  have hb := B.bytes
  have hr := B.returns
  have hts : ∀ w ∈ WSall, w.before _ s = true := fun w h => atoms_spec (ws := wsX4_addPart) B.pre w (List.mem_cons_of_mem _ h)
  have hown : s.vm.findClass RX4 = some m.cls := findClass_of_methodNamed B.named
  have hlocks := B.notSynchronized
  have hK := hwd.1
  have hS : va_S (fun q => lo ≤ q) s.heap s.heap [] := va_S.rf
  have hl := lv_entry ([.ref (al 4 j), .ref (al 1 g), .long x]) (n := 4) (Nat.le_of_ble_eq_true rfl)
  rw [lg_entry_eq]
  generalize (lg_sl ([.ref (al 4 j), .ref (al 1 g), .long x]) ++ List.replicate (4 - (lg_sl ([.ref (al 4 j), .ref (al 1 g), .long x])).length) Slot.unset).toArray = ls at hl ⊢
  have hl : lv_has ls 4 [(0, .ref (al 4 j)), (1, .ref (al 1 g)), (2, .long x)] := hl
  refine lv_aload_n hx hb dX4_addPart_0 rfl (lv_at hl 0 rfl) ?_
  refine sx_get (ci := 4) (C := RX4) (T := TX4) (N := 6) (v := .int (fI σ 4 j 2)) hx hb hts inX4 hown hK (c4_at hI hj) rfl 2 (by decide) (hts _ w_1_35) rfl rfl dX4_addPart_1 ?_
  refine lv_iconst (v := 4) hx hb dX4_addPart_4 (by decide) ?_
  refine lv_icmp_lt (tgt := 10) hx hb dX4_addPart_5 (by decide) (fun c_5 => ?_) (fun c_5 => ?_)
  · have h4 : n < 4 := by
      rw [hn] at c_5
      exact (nI_ltI (by omega) (by decide)).mp c_5
    have hcn : (fI σ 4 j 2).toNatClampNeg = n := by rw [hn]; exact nI_clamp (by omega)
    refine lv_aload_n hx hb dX4_addPart_10 rfl (lv_at hl 0 rfl) ?_
    refine sx_get (ci := 4) (C := RX4) (T := TX4) (N := 6) (v := .ref (al 5 j)) hx hb hts inX4 hown hK (c4_at hI hj) rfl 0 (by decide) (hts _ w_1_32) rfl rfl dX4_addPart_11 ?_
    refine lv_aload_n hx hb dX4_addPart_14 rfl (lv_at hl 0 rfl) ?_
    refine sx_get (ci := 4) (C := RX4) (T := TX4) (N := 6) (v := .int (fI σ 4 j 2)) hx hb hts inX4 hown hK (c4_at hI hj) rfl 2 (by decide) (hts _ w_1_35) rfl rfl dX4_addPart_15 ?_
    refine lv_aload_n hx hb dX4_addPart_18 rfl (lv_at hl 1 rfl) ?_
    refine sx_astq (ci := 1) (r := (RX1, TX1, 11)) hx hb hK hS (c5_at hI hj) (c5_lo hI hj) 3 rfl (c1_at hI hg) rfl (by rw [hn]; exact vp_in_nI h4 (by decide)) dX4_addPart_19 (fun H locs hq => ?_)
    rw [hcn] at hq
    have hI := c5_uR (f := n) (v := g) hI hj hq
    have hS := hq.2.2.2
    refine lv_aload_n hx hb dX4_addPart_20 rfl (lv_at hl 0 rfl) ?_
    refine sx_get (ci := 4) (C := RX4) (T := TX4) (N := 6) (v := .ref (al 6 j)) hx hb hts inX4 hown hK (c4_at hI hj) rfl 1 (by decide) (hts _ w_1_33) rfl rfl dX4_addPart_21 ?_
    refine lv_aload_n hx hb dX4_addPart_24 rfl (lv_at hl 0 rfl) ?_
    refine sx_get (ci := 4) (C := RX4) (T := TX4) (N := 6) (v := .int (fI σ 4 j 2)) hx hb hts inX4 hown hK (c4_at hI hj) rfl 2 (by decide) (hts _ w_1_35) rfl rfl dX4_addPart_25 ?_
    refine lv_lload_n hx hb dX4_addPart_28 rfl (lv_at hl 2 rfl) ?_
    refine sx_last hx hb hK hS (c6_at hI hj) (c6_lo hI hj) 1 rfl (by rw [hn]; exact vp_in_nI h4 (by decide)) dX4_addPart_29 (fun H locs hq => ?_)
    rw [hcn] at hq
    have hI := c6_uL (f := n) (v := x) hI hj hq
    have hS := hq.2.2.2
    refine lv_aload_n hx hb dX4_addPart_30 rfl (lv_at hl 0 rfl) ?_
    refine lv_dup hx hb dX4_addPart_31 rfl ?_
    refine sx_get (ci := 4) (C := RX4) (T := TX4) (N := 6) (v := .int (fI σ 4 j 2)) hx hb hts inX4 hown hK (c4_at hI hj) rfl 2 (by decide) (hts _ w_1_35) rfl rfl dX4_addPart_32 ?_
    refine lv_iconst (v := 1) hx hb dX4_addPart_35 (by decide) ?_
    refine lv_iadd hx hb dX4_addPart_36 ?_
    refine sx_put (ci := 4) (v := .int ((fI σ 4 j 2) + 1)) (ty := .int) (C := RX4) (T := TX4) (N := 6) hx hb hts inX4 tyX4 okX4 nmX4 hown hK hS (c4_at hI hj) (c4_lo hI hj) rfl 2 (by decide) (hts _ w_1_35) rfl rfl (by decide +kernel) rfl rfl (Nat.le_of_ble_eq_true rfl) dX4_addPart_37 (fun H locs hq => ?_)
    have hI := c4_uI (f := 2) (v := (fI σ 4 j 2) + 1) hI hj rfl hq
    have hS := hq.2.2.2
    refine lv_iconst (v := 1) hx hb dX4_addPart_40 (by decide) ?_
    exact W.zret (v := 1) hx hb hr rfl (fun t ht hW => ⟨⟨1, uI (uL (uR σ 5 j n (some g)) 6 j n x) 4 j 2 ((fI σ 4 j 2) + 1), rfl, (Eq.mpr (if_pos h4) ⟨rfl, by simp only [rAdd, hn]⟩), iv_give ht hI⟩, hS.F ht⟩) hS.2.2 dX4_addPart_41
  · refine lv_iconst (v := 0) hx hb dX4_addPart_8 (by decide) ?_
    exact W.zret (v := 0) hx hb hr rfl (fun t ht hW => ⟨⟨0, σ, rfl, (by have h4 : ¬ n < 4 := fun h => c_5 (by rw [hn]; exact (nI_ltI (by omega) (by decide)).mpr h); exact Eq.mpr (if_neg h4) ⟨rfl, rfl⟩), iv_give ht hI⟩, hS.F ht⟩) hS.2.2 dX4_addPart_9

set_option maxHeartbeats 4000000 in
set_option maxRecDepth 100000 in
theorem k_hasPart (l : Launch) (D : va_G) (dA : Nat → ClassId) (sa : Nat → Nat) (lo : Nat) (al : Nat → Nat → Nat) (σ μ : CS) (j : Nat) (hj : j < nR σ) (x : Int32) : Met l yX4_hasPart wsX4_hasPart ({ frames := 0, cells := 0, slots := 0, locals := 0 }) (va_Pc [.ref (al 4 j), .int x] (ivP D dA sa lo al σ μ)) (vp_Si (fun r => r = bp (pHas σ j x) inferInstance)) 0 0 (fun _ => False) := by
  refine Met.ofW (cc := cX4_hasPart) (maxL := 2) (ret := some .boolean) (by decide) rfl ?_
  intro p e s m args below meth c s₁ B hml hv
  obtain ⟨rfl, hI, hwd⟩ := hv
  have hx := B.exec
  have hb := B.bytes
  have hr := B.returns
  have hts : ∀ w ∈ WSall, w.before _ s = true := fun w h => atoms_spec (ws := wsX4_hasPart) B.pre w (List.mem_cons_of_mem _ h)
  have hown : s.vm.findClass RX4 = some m.cls := findClass_of_methodNamed B.named
  have hlocks := B.notSynchronized
  have hK := hwd.1
  have hS : va_S (fun q => lo ≤ q) s.heap s.heap [] := va_S.rf
  have hl := lv_entry ([.ref (al 4 j), .int x]) (n := 2) (Nat.le_of_ble_eq_true rfl)
  rw [lg_entry_eq]
  generalize (lg_sl ([.ref (al 4 j), .int x]) ++ List.replicate (2 - (lg_sl ([.ref (al 4 j), .int x])).length) Slot.unset).toArray = ls at hl ⊢
  have hl : lv_has ls 2 [(0, .ref (al 4 j)), (1, .int x)] := hl
  refine lv_iload_n hx hb dX4_hasPart_0 rfl (lv_at hl 1 rfl) ?_
  refine lv_if_lt (tgt := 16) hx hb dX4_hasPart_1 (by decide) (fun c_1 => ?_) (fun c_1 => ?_)
  · refine lv_iconst (v := 0) hx hb dX4_hasPart_16 (by decide) ?_
    exact W.zret (v := 0) hx hb hr rfl (fun t ht hW => ⟨_, rfl, (bp_f (fun h => h.1 c_1)), ht⟩) (fun q h => by cases h) dX4_hasPart_17
  · refine lv_iload_n hx hb dX4_hasPart_4 rfl (lv_at hl 1 rfl) ?_
    refine lv_aload_n hx hb dX4_hasPart_5 rfl (lv_at hl 0 rfl) ?_
    refine sx_get (ci := 4) (C := RX4) (T := TX4) (N := 6) (v := .int (fI σ 4 j 2)) hx hb hts inX4 hown hK (c4_at hI hj) rfl 2 (by decide) (hts _ w_1_35) rfl rfl dX4_hasPart_6 ?_
    refine lv_icmp_ge (tgt := 16) hx hb dX4_hasPart_9 (by decide) (fun c_9 => ?_) (fun c_9 => ?_)
    · refine lv_iconst (v := 0) hx hb dX4_hasPart_16 (by decide) ?_
      exact W.zret (v := 0) hx hb hr rfl (fun t ht hW => ⟨_, rfl, (bp_f (fun h => h.2 c_9)), ht⟩) (fun q h => by cases h) dX4_hasPart_17
    · refine lv_iconst (v := 1) hx hb dX4_hasPart_12 (by decide) ?_
      refine lv_goto (tgt := 17) hx hb dX4_hasPart_13 (by decide) ?_
      exact W.zret (v := 1) hx hb hr rfl (fun t ht hW => ⟨_, rfl, (bp_t ⟨c_1, c_9⟩), ht⟩) (fun q h => by cases h) dX4_hasPart_17

set_option maxHeartbeats 4000000 in
set_option maxRecDepth 100000 in
theorem k_numberOfPart (l : Launch) (D : va_G) (dA : Nat → ClassId) (sa : Nat → Nat) (lo : Nat) (al : Nat → Nat → Nat) (σ μ : CS) (j : Nat) (hj : j < nR σ) (k g : Nat) (hk : k < 4) (hg : fR σ 5 j k = some g) (hgn : g < nG σ) : Met l yX4_numberOfPart wsX4_numberOfPart ({ frames := 0, cells := 0, slots := 0, locals := 0 }) (va_Pc [.ref (al 4 j), .int (nI k)] (ivP D dA sa lo al σ μ)) (vp_Si (fun r => r = fI σ 1 g 0)) 0 0 (fun _ => False) := by
  refine Met.ofW (cc := cX4_numberOfPart) (maxL := 3) (ret := some .int) (by decide) rfl ?_
  intro p e s m args below meth c s₁ B hml hv
  obtain ⟨rfl, hI, hwd⟩ := hv
  have hx := B.exec
  have hb := B.bytes
  have hr := B.returns
  have hts : ∀ w ∈ WSall, w.before _ s = true := fun w h => atoms_spec (ws := wsX4_numberOfPart) B.pre w (List.mem_cons_of_mem _ h)
  have hown : s.vm.findClass RX4 = some m.cls := findClass_of_methodNamed B.named
  have hlocks := B.notSynchronized
  have hK := hwd.1
  have hS : va_S (fun q => lo ≤ q) s.heap s.heap [] := va_S.rf
  have hl := lv_entry ([.ref (al 4 j), .int (nI k)]) (n := 3) (Nat.le_of_ble_eq_true rfl)
  rw [lg_entry_eq]
  generalize (lg_sl ([.ref (al 4 j), .int (nI k)]) ++ List.replicate (3 - (lg_sl ([.ref (al 4 j), .int (nI k)])).length) Slot.unset).toArray = ls at hl ⊢
  have hl : lv_has ls 3 [(0, .ref (al 4 j)), (1, .int (nI k))] := hl
  have hck : (nI k).toNatClampNeg = k := nI_clamp (by omega)
  refine lv_aload_n hx hb dX4_numberOfPart_0 rfl (lv_at hl 0 rfl) ?_
  refine sx_get (ci := 4) (C := RX4) (T := TX4) (N := 6) (v := .ref (al 5 j)) hx hb hts inX4 hown hK (c4_at hI hj) rfl 0 (by decide) (hts _ w_1_32) rfl rfl dX4_numberOfPart_1 ?_
  refine lv_iload_n hx hb dX4_numberOfPart_4 rfl (lv_at hl 1 rfl) ?_
  refine sx_aldq hx hb hK (c5_at hI hj) 3 rfl (vp_in_nI hk (by decide)) dX4_numberOfPart_5 ?_
  rw [hck]
  refine W.eq (g2 := F0 m 6 ls (.ref (al 1 g) :: [])) (congrArg (fun z => F0 m 6 ls (va_rf (Option.map (al 1) z) :: [])) hg) ?_
  refine lv_astore_n (lv' := [(2, .ref (al 1 g)), (0, .ref (al 4 j)), (1, .int (nI k))]) hx hb dX4_numberOfPart_6 rfl hl (by decide) rfl (fun ls hl => ?_)
  refine lv_aload_n hx hb dX4_numberOfPart_7 rfl (lv_at hl 0 rfl) ?_
  refine lv_ifnonnull (tgt := 15) hx hb dX4_numberOfPart_8 (by decide) ?_
  refine lv_aload_n hx hb dX4_numberOfPart_15 rfl (lv_at hl 0 rfl) ?_
  refine sx_getN (ci := 1) (C := RX1) (T := TX1) (N := 11) (v := .int (fI σ 1 g 0)) hx hb hts inX1 hown hK (c1_at hI hgn) rfl 0 (by decide) (va_Nw.use rfl (wd_n hwd (.fieldLinkNest "GuaranteeBook$Reservation" 35 "GuaranteeBook$Guarantee" "number" "I" "GuaranteeBook") (List.mem_of_getElem? (i := 11) rfl))) rfl rfl dX4_numberOfPart_16 ?_
  exact W.iret (v := fI σ 1 g 0) hx hb hr (fun t ht hW => ⟨_, rfl, rfl, ht⟩) (fun q h => by cases h) dX4_numberOfPart_19

set_option maxHeartbeats 4000000 in
set_option maxRecDepth 100000 in
theorem k_covered (l : Launch) (D : va_G) (dA : Nat → ClassId) (sa : Nat → Nat) (lo : Nat) (al : Nat → Nat → Nat) (σ μ : CS) (j : Nat) (hj : j < nR σ) (n : Nat) (hn : fI σ 4 j 2 = nI n) (hn4 : n ≤ 4) : Met l yX4_covered wsX4_covered ({ frames := 0, cells := 0, slots := 0, locals := 0 }) (va_Pc [.ref (al 4 j)] (ivP D dA sa lo al σ μ)) (vp_Sl (fun r => r = sumL (fL σ 6 j) n)) 0 0 (fun _ => False) := by
  refine Met.ofW (cc := cX4_covered) (maxL := 4) (ret := some .long) (by decide) rfl ?_
  intro p e s m args below meth c s₁ B hml hv
  obtain ⟨rfl, hI, hwd⟩ := hv
  have hx := B.exec
  have hb := B.bytes
  have hr := B.returns
  have hts : ∀ w ∈ WSall, w.before _ s = true := fun w h => atoms_spec (ws := wsX4_covered) B.pre w (List.mem_cons_of_mem _ h)
  have hown : s.vm.findClass RX4 = some m.cls := findClass_of_methodNamed B.named
  have hlocks := B.notSynchronized
  have hK := hwd.1
  have hS : va_S (fun q => lo ≤ q) s.heap s.heap [] := va_S.rf
  have hl := lv_entry ([.ref (al 4 j)]) (n := 4) (Nat.le_of_ble_eq_true rfl)
  rw [lg_entry_eq]
  generalize (lg_sl ([.ref (al 4 j)]) ++ List.replicate (4 - (lg_sl ([.ref (al 4 j)])).length) Slot.unset).toArray = ls at hl ⊢
  have hl : lv_has ls 4 [(0, .ref (al 4 j))] := hl
  refine lv_lconst (v := 0) hx hb dX4_covered_0 (by decide) ?_
  refine lv_lstore_n (lv' := [(1, .long 0), (0, .ref (al 4 j))]) hx hb dX4_covered_1 rfl hl (by decide) rfl (fun ls hl => ?_)
  refine lv_iconst (v := 0) hx hb dX4_covered_2 (by decide) ?_
  refine lv_istore_n (lv' := [(3, .int 0), (1, .long 0), (0, .ref (al 4 j))]) hx hb dX4_covered_3 rfl hl (by decide) rfl (fun ls hl => ?_)
  refine w_loopP (hd := 4) (stk := []) (X := Nat) (fun k => n - k) (fun k ls => (k ≤ n) ∧ lv_has ls 4 [(3, .int (nI k)), (1, .long (sumL (fL σ 6 j) k)), (0, .ref (al 4 j))]) (fun k ls hk ih_4 => ?_) 0 ls ⟨Nat.zero_le _, (by have h9 := lv_sub hl [0, 1, 2] rfl; rw [← nI_0] at h9; exact h9)⟩
  obtain ⟨hk, hl⟩ := hk
  have hl : lv_has ls 4 [(3, .int (nI k)), (1, .long (sumL (fL σ 6 j) k)), (0, .ref (al 4 j))] := hl
  refine lv_iload_n hx hb dX4_covered_4 rfl (lv_at hl 0 rfl) ?_
  refine lv_aload_n hx hb dX4_covered_5 rfl (lv_at hl 2 rfl) ?_
  refine sx_get (ci := 4) (C := RX4) (T := TX4) (N := 6) (v := .int (fI σ 4 j 2)) hx hb hts inX4 hown hK (c4_at hI hj) rfl 2 (by decide) (hts _ w_1_35) rfl rfl dX4_covered_6 ?_
  refine lv_icmp_ge (tgt := 27) hx hb dX4_covered_9 (by decide) (fun c_9 => ?_) (fun c_9 => ?_)
  · refine lv_lload_n hx hb dX4_covered_27 rfl (lv_at hl 1 rfl) ?_
    exact W.lret (v := sumL (fL σ 6 j) k) hx hb hr (fun t ht hW => ⟨_, rfl, (by have h := lp_end hn c_9 hk (by omega); subst h; rfl), ht⟩) (fun q h => by cases h) dX4_covered_28
  · have hlt : k < n := lp_lt hn c_9 (by omega)
    have hck : (nI k).toNatClampNeg = k := nI_clamp (by omega)
    refine lv_lload_n hx hb dX4_covered_12 rfl (lv_at hl 1 rfl) ?_
    refine lv_aload_n hx hb dX4_covered_13 rfl (lv_at hl 2 rfl) ?_
    refine sx_get (ci := 4) (C := RX4) (T := TX4) (N := 6) (v := .ref (al 6 j)) hx hb hts inX4 hown hK (c4_at hI hj) rfl 1 (by decide) (hts _ w_1_33) rfl rfl dX4_covered_14 ?_
    refine lv_iload_n hx hb dX4_covered_17 rfl (lv_at hl 0 rfl) ?_
    refine sx_lald hx hb hK (c6_at hI hj) 1 rfl (vp_in_nI (show k < 4 by omega) (by decide)) dX4_covered_18 ?_
    rw [hck]
    refine lv_ladd hx hb dX4_covered_19 ?_
    refine lv_lstore_n (lv' := [(1, .long ((sumL (fL σ 6 j) k) + (fL σ 6 j k))), (3, .int (nI k)), (0, .ref (al 4 j))]) hx hb dX4_covered_20 rfl hl (by decide) rfl (fun ls hl => ?_)
    refine lv_iinc (v := (nI k) + 1) (lv' := [(3, .int ((nI k) + 1)), (1, .long ((sumL (fL σ 6 j) k) + (fL σ 6 j k))), (0, .ref (al 4 j))]) hx hb dX4_covered_21 hl (k := 1) rfl rfl (by decide) rfl (fun ls hl => ?_)
    refine lv_goto (tgt := 4) hx hb dX4_covered_24 (by decide) ?_
    exact ih_4 (k + 1) ls (by omega) ⟨hlt, (by have h9 := lv_sub hl [0, 1, 2] rfl; rw [nI_1] at h9; exact h9)⟩

set_option maxHeartbeats 4000000 in
set_option maxRecDepth 100000 in
theorem k_tell (l : Launch) (D : va_G) (dA : Nat → ClassId) (sa : Nat → Nat) (lo : Nat) (al : Nat → Nat → Nat) (σ μ : CS) (j : Nat) (hj : j < nR σ) (k g : Nat) (hk : k < 4) (hg : fR σ 5 j k = some g) (hgn : g < nG σ) (b a : Int64) : Met l yX4_tellGuarantee wsX4_tellGuarantee ({ frames := 2, cells := 0, slots := 0, locals := 70 }) (va_Pc [.ref (al 4 j), .int (nI k), .long b, .long a] (ivP D dA sa lo al σ μ)) (va_Qv (fun u => u = rTell σ j k b a) (ivB D dA lo al μ) (fun q => lo ≤ q)) 0 0 (fun q => lo ≤ q) := by
  refine Met.ofW (cc := cX4_tellGuarantee) (maxL := 7) (ret := none) (by decide) rfl ?_
  intro p e s m args below meth c s₁ B hml hv
  obtain ⟨rfl, hI, hwd⟩ := hv
  have hx := B.exec
  have hb := B.bytes
  have hr := B.returns
  have hts : ∀ w ∈ WSall, w.before _ s = true := fun w h => atoms_spec (ws := wsX4_tellGuarantee) B.pre w (List.mem_cons_of_mem _ h)
  have hown : s.vm.findClass RX4 = some m.cls := findClass_of_methodNamed B.named
  have hlocks := B.notSynchronized
  have hK := hwd.1
  have hS : va_S (fun q => lo ≤ q) s.heap s.heap [] := va_S.rf
  have hl := lv_entry ([.ref (al 4 j), .int (nI k), .long b, .long a]) (n := 7) (Nat.le_of_ble_eq_true rfl)
  rw [lg_entry_eq]
  generalize (lg_sl ([.ref (al 4 j), .int (nI k), .long b, .long a]) ++ List.replicate (7 - (lg_sl ([.ref (al 4 j), .int (nI k), .long b, .long a])).length) Slot.unset).toArray = ls at hl ⊢
  have hl : lv_has ls 7 [(0, .ref (al 4 j)), (1, .int (nI k)), (2, .long b), (4, .long a)] := hl
  have hck : (nI k).toNatClampNeg = k := nI_clamp (by omega)
  refine lv_aload_n hx hb dX4_tellGuarantee_0 rfl (lv_at hl 0 rfl) ?_
  refine sx_get (ci := 4) (C := RX4) (T := TX4) (N := 6) (v := .ref (al 5 j)) hx hb hts inX4 hown hK (c4_at hI hj) rfl 0 (by decide) (hts _ w_1_32) rfl rfl dX4_tellGuarantee_1 ?_
  refine lv_iload_n hx hb dX4_tellGuarantee_4 rfl (lv_at hl 1 rfl) ?_
  refine sx_aldq hx hb hK (c5_at hI hj) 3 rfl (vp_in_nI hk (by decide)) dX4_tellGuarantee_5 ?_
  rw [hck]
  refine W.eq (g2 := F0 m 6 ls (.ref (al 1 g) :: [])) (congrArg (fun z => F0 m 6 ls (va_rf (Option.map (al 1) z) :: [])) hg) ?_
  refine lv_astore (lv' := [(6, .ref (al 1 g)), (0, .ref (al 4 j)), (1, .int (nI k)), (2, .long b), (4, .long a)]) hx hb dX4_tellGuarantee_6 hl (by decide) rfl (fun ls hl => ?_)
  refine lv_aload hx hb dX4_tellGuarantee_8 (lv_at hl 0 rfl) ?_
  refine lv_ifnull hx hb dX4_tellGuarantee_10 ?_
  refine lv_aload hx hb dX4_tellGuarantee_13 (lv_at hl 0 rfl) ?_
  refine lv_lload_n hx hb dX4_tellGuarantee_15 rfl (lv_at hl 3 rfl) ?_
  refine lv_lload hx hb dX4_tellGuarantee_16 (lv_at hl 4 rfl) ?_
  refine va_callv (va_runV (As := [.long b, .long a]) (rest := []) ⟨hx, hb, hml, hown, hts⟩ (k_changePart l D dA sa lo al σ μ g hgn b a) (cwV 2 hts (gdV w_2_153 w_2_154 w_2_155 w_1_9 w_2_156) rfl rfl rfl (by decide +kernel) ⟨Nat.le_of_ble_eq_true rfl, Nat.le_of_ble_eq_true rfl⟩) ⟨iv_bl, sx_recv hK (c1_at hI hgn) rfl, fun U hU hW => ⟨rfl, iv_use hI hwd hS hU hW⟩⟩ rfl rfl hl.1 rfl (lv_room (Nat.le_of_ble_eq_true rfl)) dX4_tellGuarantee_18 ⟨Nat.le_of_ble_eq_true rfl, Nat.le_of_ble_eq_true rfl⟩) hS (fun q _ h => h) (fun q h => h) (fun u9 T9 H1 locs ht9 hvm9 e_18 hB9 hz9 hk9 hS => ?_)
  have hI := iv_take ht9 hB9
  clear hB9 hk9
  obtain rfl := e_18
  exact W.vret hx hb hr (fun t ht hW => ⟨⟨gChg σ g b a, rfl, (by simp [rTell, hg]), iv_give ht hI⟩, hS.F ht⟩) hS.2.2 dX4_tellGuarantee_21

set_option maxHeartbeats 4000000 in
set_option maxRecDepth 100000 in
theorem k_bindParts (l : Launch) (D : va_G) (dA : Nat → ClassId) (sa : Nat → Nat) (lo : Nat) (al : Nat → Nat → Nat) (σ μ : CS) (j : Nat) (hj : j < nR σ) (n : Nat) (hn : fI σ 4 j 2 = nI n) (hn4 : n ≤ 4) (hp : ∀ k, k < n → ∃ g, fR σ 5 j k = some g ∧ g < nG σ) : Met l yX4_bindParts wsX4_bindParts ({ frames := 3, cells := 0, slots := 0, locals := 120 }) (va_Pc [.ref (al 4 j)] (ivP D dA sa lo al σ μ)) (va_Qv (fun u => u = rBind σ j n) (ivB D dA lo al μ) (fun q => lo ≤ q)) 0 0 (fun q => lo ≤ q) := by
  refine Met.ofW (cc := cX4_bindParts) (maxL := 2) (ret := none) (by decide) rfl ?_
  intro p e s m args below meth c s₁ B hml hv
  obtain ⟨rfl, hI, hwd⟩ := hv
  have hx := B.exec
  have hb := B.bytes
  have hr := B.returns
  have hts : ∀ w ∈ WSall, w.before _ s = true := fun w h => atoms_spec (ws := wsX4_bindParts) B.pre w (List.mem_cons_of_mem _ h)
  have hown : s.vm.findClass RX4 = some m.cls := findClass_of_methodNamed B.named
  have hlocks := B.notSynchronized
  have hK := hwd.1
  have hS : va_S (fun q => lo ≤ q) s.heap s.heap [] := va_S.rf
  have hl := lv_entry ([.ref (al 4 j)]) (n := 2) (Nat.le_of_ble_eq_true rfl)
  rw [lg_entry_eq]
  generalize (lg_sl ([.ref (al 4 j)]) ++ List.replicate (2 - (lg_sl ([.ref (al 4 j)])).length) Slot.unset).toArray = ls at hl ⊢
  have hl : lv_has ls 2 [(0, .ref (al 4 j))] := hl
  refine lv_iconst (v := 0) hx hb dX4_bindParts_0 (by decide) ?_
  refine lv_istore_n (lv' := [(1, .int 0), (0, .ref (al 4 j))]) hx hb dX4_bindParts_1 rfl hl (by decide) rfl (fun ls hl => ?_)
  refine w_loop (hd := 2) (stk := []) (X := Nat) (fun k => n - k) (fun k ls H locs => Inv D dA lo al (rBind σ j k) μ H ∧ va_S (fun q => lo ≤ q) s.heap H locs ∧ (k ≤ n) ∧ lv_has ls 2 [(1, .int (nI k)), (0, .ref (al 4 j))]) (fun k ls H locs hk ih_2 => ?_) 0 ls _ _ ⟨hI, hS, Nat.zero_le _, (by have h9 := lv_sub hl [0, 1] rfl; rw [← nI_0] at h9; exact h9)⟩
  obtain ⟨hI, hS, hk, hl⟩ := hk
  have hl : lv_has ls 2 [(1, .int (nI k)), (0, .ref (al 4 j))] := hl
  have hjk : j < nR (rBind σ j k) := by rw [rBind_N]; exact hj
  have hnk : fI (rBind σ j k) 4 j 2 = nI n := by rw [rBind_I (by decide)]; exact hn
  refine lv_iload_n hx hb dX4_bindParts_2 rfl (lv_at hl 0 rfl) ?_
  refine lv_aload_n hx hb dX4_bindParts_3 rfl (lv_at hl 1 rfl) ?_
  refine sx_get (ci := 4) (C := RX4) (T := TX4) (N := 6) (v := .int (fI (rBind σ j k) 4 j 2)) hx hb hts inX4 hown hK (c4_at hI hjk) rfl 2 (by decide) (hts _ w_1_35) rfl rfl dX4_bindParts_4 ?_
  refine lv_icmp_ge (tgt := 28) hx hb dX4_bindParts_7 (by decide) (fun c_7 => ?_) (fun c_7 => ?_)
  · exact W.vret hx hb hr (fun t ht hW => ⟨⟨rBind σ j k, rfl, (by have h := lp_end hnk c_7 hk (by omega); subst h; rfl), iv_give ht hI⟩, hS.F ht⟩) hS.2.2 dX4_bindParts_28
  · have hlt : k < n := lp_lt hnk c_7 (by omega)
    have hck : (nI k).toNatClampNeg = k := nI_clamp (by omega)
    obtain ⟨g, hg, hgn⟩ := hp k hlt
    have hg : fR (rBind σ j k) 5 j k = some g := by rw [rBind_R]; exact hg
    have hgn : g < nG (rBind σ j k) := by rw [rBind_G]; exact hgn
    refine lv_aload_n hx hb dX4_bindParts_10 rfl (lv_at hl 1 rfl) ?_
    refine lv_iload_n hx hb dX4_bindParts_11 rfl (lv_at hl 0 rfl) ?_
    refine lv_lconst (v := 0) hx hb dX4_bindParts_12 (by decide) ?_
    refine lv_aload_n hx hb dX4_bindParts_13 rfl (lv_at hl 1 rfl) ?_
    refine sx_get (ci := 4) (C := RX4) (T := TX4) (N := 6) (v := .ref (al 6 j)) hx hb hts inX4 hown hK (c4_at hI hjk) rfl 1 (by decide) (hts _ w_1_33) rfl rfl dX4_bindParts_14 ?_
    refine lv_iload_n hx hb dX4_bindParts_17 rfl (lv_at hl 0 rfl) ?_
    refine sx_lald hx hb hK (c6_at hI hjk) 1 rfl (vp_in_nI (show k < 4 by omega) (by decide)) dX4_bindParts_18 ?_
    rw [hck]
    refine va_callv (va_runV (As := [.int (nI k), .long 0, .long (fL (rBind σ j k) 6 j k)]) (rest := []) ⟨hx, hb, hml, hown, hts⟩ (k_tell l D dA sa lo al (rBind σ j k) μ j hjk k _ (by omega) hg hgn 0 (fL (rBind σ j k) 6 j k)) (cwV 3 hts (gdV w_2_149 w_2_151 wp_7 w_1_2 w_2_152) rfl rfl rfl (by decide +kernel) ⟨Nat.le_of_ble_eq_true rfl, Nat.le_of_ble_eq_true rfl⟩) ⟨iv_bl, sx_recv hK (c4_at hI hjk) rfl, fun U hU hW => ⟨rfl, iv_use hI hwd hS hU hW⟩⟩ rfl rfl hl.1 rfl (lv_room (Nat.le_of_ble_eq_true rfl)) dX4_bindParts_19 ⟨Nat.le_of_ble_eq_true rfl, Nat.le_of_ble_eq_true rfl⟩) hS (fun q _ h => h) (fun q h => h) (fun u9 T9 H1 locs ht9 hvm9 e_19 hB9 hz9 hk9 hS => ?_)
    have hI := iv_take ht9 hB9
    clear hB9 hk9
    obtain rfl := e_19
    refine lv_iinc (v := (nI k) + 1) (lv' := [(1, .int ((nI k) + 1)), (0, .ref (al 4 j))]) hx hb dX4_bindParts_22 hl (k := 0) rfl rfl (by decide) rfl (fun ls hl => ?_)
    refine lv_goto (tgt := 2) hx hb dX4_bindParts_25 (by decide) ?_
    exact ih_2 (k + 1) ls _ _ (by omega) ⟨hI, hS, hlt, (by have h9 := lv_sub hl [0, 1] rfl; rw [nI_1] at h9; exact h9)⟩

set_option maxHeartbeats 4000000 in
set_option maxRecDepth 100000 in
theorem k_dropParts (l : Launch) (D : va_G) (dA : Nat → ClassId) (sa : Nat → Nat) (lo : Nat) (al : Nat → Nat → Nat) (σ μ : CS) (j : Nat) (hj : j < nR σ) (n : Nat) (hn : fI σ 4 j 2 = nI n) (hn4 : n ≤ 4) (hp : ∀ k, k < n → ∃ g, fR σ 5 j k = some g ∧ g < nG σ) : Met l yX4_dropParts wsX4_dropParts ({ frames := 3, cells := 0, slots := 0, locals := 120 }) (va_Pc [.ref (al 4 j)] (ivP D dA sa lo al σ μ)) (va_Qv (fun u => u = uI (rDrop σ j n) 4 j 2 0) (ivB D dA lo al μ) (fun q => lo ≤ q)) 0 0 (fun q => lo ≤ q) := by
  refine Met.ofW (cc := cX4_dropParts) (maxL := 2) (ret := none) (by decide) rfl ?_
  intro p e s m args below meth c s₁ B hml hv
  obtain ⟨rfl, hI, hwd⟩ := hv
  have hx := B.exec
  have hb := B.bytes
  have hr := B.returns
  have hts : ∀ w ∈ WSall, w.before _ s = true := fun w h => atoms_spec (ws := wsX4_dropParts) B.pre w (List.mem_cons_of_mem _ h)
  have hown : s.vm.findClass RX4 = some m.cls := findClass_of_methodNamed B.named
  have hlocks := B.notSynchronized
  have hK := hwd.1
  have hS : va_S (fun q => lo ≤ q) s.heap s.heap [] := va_S.rf
  have hl := lv_entry ([.ref (al 4 j)]) (n := 2) (Nat.le_of_ble_eq_true rfl)
  rw [lg_entry_eq]
  generalize (lg_sl ([.ref (al 4 j)]) ++ List.replicate (2 - (lg_sl ([.ref (al 4 j)])).length) Slot.unset).toArray = ls at hl ⊢
  have hl : lv_has ls 2 [(0, .ref (al 4 j))] := hl
  refine lv_iconst (v := 0) hx hb dX4_dropParts_0 (by decide) ?_
  refine lv_istore_n (lv' := [(1, .int 0), (0, .ref (al 4 j))]) hx hb dX4_dropParts_1 rfl hl (by decide) rfl (fun ls hl => ?_)
  refine w_loop (hd := 2) (stk := []) (X := Nat) (fun k => n - k) (fun k ls H locs => Inv D dA lo al (rDrop σ j k) μ H ∧ va_S (fun q => lo ≤ q) s.heap H locs ∧ (k ≤ n) ∧ lv_has ls 2 [(1, .int (nI k)), (0, .ref (al 4 j))]) (fun k ls H locs hk ih_2 => ?_) 0 ls _ _ ⟨hI, hS, Nat.zero_le _, (by have h9 := lv_sub hl [0, 1] rfl; rw [← nI_0] at h9; exact h9)⟩
  obtain ⟨hI, hS, hk, hl⟩ := hk
  have hl : lv_has ls 2 [(1, .int (nI k)), (0, .ref (al 4 j))] := hl
  have hjk : j < nR (rDrop σ j k) := by rw [rDrop_N]; exact hj
  have hnk : fI (rDrop σ j k) 4 j 2 = nI n := by rw [rDrop_I (by decide)]; exact hn
  refine lv_iload_n hx hb dX4_dropParts_2 rfl (lv_at hl 0 rfl) ?_
  refine lv_aload_n hx hb dX4_dropParts_3 rfl (lv_at hl 1 rfl) ?_
  refine sx_get (ci := 4) (C := RX4) (T := TX4) (N := 6) (v := .int (fI (rDrop σ j k) 4 j 2)) hx hb hts inX4 hown hK (c4_at hI hjk) rfl 2 (by decide) (hts _ w_1_35) rfl rfl dX4_dropParts_4 ?_
  refine lv_icmp_ge (tgt := 28) hx hb dX4_dropParts_7 (by decide) (fun c_7 => ?_) (fun c_7 => ?_)
  · refine lv_aload_n hx hb dX4_dropParts_28 rfl (lv_at hl 1 rfl) ?_
    refine lv_iconst (v := 0) hx hb dX4_dropParts_29 (by decide) ?_
    refine sx_put (ci := 4) (v := .int 0) (ty := .int) (C := RX4) (T := TX4) (N := 6) hx hb hts inX4 tyX4 okX4 nmX4 hown hK hS (c4_at hI hjk) (c4_lo hI hjk) rfl 2 (by decide) (hts _ w_1_35) rfl rfl (by decide +kernel) rfl rfl (Nat.le_of_ble_eq_true rfl) dX4_dropParts_30 (fun H locs hq => ?_)
    have hI := c4_uI (f := 2) (v := 0) hI hjk rfl hq
    have hS := hq.2.2.2
    exact W.vret hx hb hr (fun t ht hW => ⟨⟨uI (rDrop σ j k) 4 j 2 0, rfl, (by have h := lp_end hnk c_7 hk (by omega); subst h; rfl), iv_give ht hI⟩, hS.F ht⟩) hS.2.2 dX4_dropParts_33
  · have hlt : k < n := lp_lt hnk c_7 (by omega)
    have hck : (nI k).toNatClampNeg = k := nI_clamp (by omega)
    obtain ⟨g, hg, hgn⟩ := hp k hlt
    have hg : fR (rDrop σ j k) 5 j k = some g := by rw [rDrop_R]; exact hg
    have hgn : g < nG (rDrop σ j k) := by rw [rDrop_G]; exact hgn
    refine lv_aload_n hx hb dX4_dropParts_10 rfl (lv_at hl 1 rfl) ?_
    refine lv_iload_n hx hb dX4_dropParts_11 rfl (lv_at hl 0 rfl) ?_
    refine lv_aload_n hx hb dX4_dropParts_12 rfl (lv_at hl 1 rfl) ?_
    refine sx_get (ci := 4) (C := RX4) (T := TX4) (N := 6) (v := .ref (al 6 j)) hx hb hts inX4 hown hK (c4_at hI hjk) rfl 1 (by decide) (hts _ w_1_33) rfl rfl dX4_dropParts_13 ?_
    refine lv_iload_n hx hb dX4_dropParts_16 rfl (lv_at hl 0 rfl) ?_
    refine sx_lald hx hb hK (c6_at hI hjk) 1 rfl (vp_in_nI (show k < 4 by omega) (by decide)) dX4_dropParts_17 ?_
    rw [hck]
    refine lv_lconst (v := 0) hx hb dX4_dropParts_18 (by decide) ?_
    refine va_callv (va_runV (As := [.int (nI k), .long (fL (rDrop σ j k) 6 j k), .long 0]) (rest := []) ⟨hx, hb, hml, hown, hts⟩ (k_tell l D dA sa lo al (rDrop σ j k) μ j hjk k _ (by omega) hg hgn (fL (rDrop σ j k) 6 j k) 0) (cwV 3 hts (gdV w_2_149 w_2_151 wp_7 w_1_2 w_2_152) rfl rfl rfl (by decide +kernel) ⟨Nat.le_of_ble_eq_true rfl, Nat.le_of_ble_eq_true rfl⟩) ⟨iv_bl, sx_recv hK (c4_at hI hjk) rfl, fun U hU hW => ⟨rfl, iv_use hI hwd hS hU hW⟩⟩ rfl rfl hl.1 rfl (lv_room (Nat.le_of_ble_eq_true rfl)) dX4_dropParts_19 ⟨Nat.le_of_ble_eq_true rfl, Nat.le_of_ble_eq_true rfl⟩) hS (fun q _ h => h) (fun q h => h) (fun u9 T9 H1 locs ht9 hvm9 e_19 hB9 hz9 hk9 hS => ?_)
    have hI := iv_take ht9 hB9
    clear hB9 hk9
    obtain rfl := e_19
    refine lv_iinc (v := (nI k) + 1) (lv' := [(1, .int ((nI k) + 1)), (0, .ref (al 4 j))]) hx hb dX4_dropParts_22 hl (k := 0) rfl rfl (by decide) rfl (fun ls hl => ?_)
    refine lv_goto (tgt := 2) hx hb dX4_dropParts_25 (by decide) ?_
    exact ih_2 (k + 1) ls _ _ (by omega) ⟨hI, hS, hlt, (by have h9 := lv_sub hl [0, 1] rfl; rw [nI_1] at h9; exact h9)⟩

set_option maxHeartbeats 4000000 in
set_option maxRecDepth 100000 in
theorem k_take (l : Launch) (D : va_G) (dA : Nat → ClassId) (sa : Nat → Nat) (lo : Nat) (al : Nat → Nat → Nat) (σ μ : CS) (j : Nat) (hj : j < nR σ) (n : Nat) (hn : fI σ 4 j 2 = nI n) (hn4 : n ≤ 4) (hp : ∀ k, k < n → ∃ g, fR σ 5 j k = some g ∧ g < nG σ) (x : Int64) (day : Int32) : Met l yX4_takeFromAmounts wsX4_takeFromAmounts ({ frames := 3, cells := 0, slots := 0, locals := 100 }) (va_Pc [.ref (al 4 j), .long x, .int day] (ivP D dA sa lo al σ μ)) (va_Ql (fun r u => r = (rTk σ j day x n).2.2 ∧ u = (rTk σ j day x n).1) (ivB D dA lo al μ) (fun q => lo ≤ q)) 0 0 (fun q => lo ≤ q) := by
  refine Met.ofW (cc := cX4_takeFromAmounts) (maxL := 12) (ret := some .long) (by decide) rfl ?_
  intro p e s m args below meth c s₁ B hml hv
  obtain ⟨rfl, hI, hwd⟩ := hv
  have hx := B.exec
  have hb := B.bytes
  have hr := B.returns
  have hts : ∀ w ∈ WSall, w.before _ s = true := fun w h => atoms_spec (ws := wsX4_takeFromAmounts) B.pre w (List.mem_cons_of_mem _ h)
  have hown : s.vm.findClass RX4 = some m.cls := findClass_of_methodNamed B.named
  have hlocks := B.notSynchronized
  have hK := hwd.1
  have hS : va_S (fun q => lo ≤ q) s.heap s.heap [] := va_S.rf
  have hl := lv_entry ([.ref (al 4 j), .long x, .int day]) (n := 12) (Nat.le_of_ble_eq_true rfl)
  rw [lg_entry_eq]
  generalize (lg_sl ([.ref (al 4 j), .long x, .int day]) ++ List.replicate (12 - (lg_sl ([.ref (al 4 j), .long x, .int day])).length) Slot.unset).toArray = ls at hl ⊢
  have hl : lv_has ls 12 [(0, .ref (al 4 j)), (1, .long x), (3, .int day)] := hl
  refine lv_lload_n hx hb dX4_takeFromAmounts_0 rfl (lv_at hl 1 rfl) ?_
  refine lv_lstore (lv' := [(4, .long x), (0, .ref (al 4 j)), (1, .long x), (3, .int day)]) hx hb dX4_takeFromAmounts_1 hl (by decide) rfl (fun ls hl => ?_)
  refine lv_lconst (v := 0) hx hb dX4_takeFromAmounts_3 (by decide) ?_
  refine lv_lstore (lv' := [(6, .long 0), (4, .long x), (0, .ref (al 4 j)), (1, .long x), (3, .int day)]) hx hb dX4_takeFromAmounts_4 hl (by decide) rfl (fun ls hl => ?_)
  refine lv_iconst (v := 0) hx hb dX4_takeFromAmounts_6 (by decide) ?_
  refine lv_istore (lv' := [(8, .int 0), (6, .long 0), (4, .long x), (0, .ref (al 4 j)), (1, .long x), (3, .int day)]) hx hb dX4_takeFromAmounts_7 hl (by decide) rfl (fun ls hl => ?_)
  refine w_loop (hd := 9) (stk := []) (X := Nat) (fun k => n - k) (fun k ls H locs => Inv D dA lo al ((rTk σ j day x k).1) μ H ∧ va_S (fun q => lo ≤ q) s.heap H locs ∧ (k ≤ n) ∧ lv_has ls 12 [(8, .int (nI k)), (6, .long (rTk σ j day x k).2.2), (4, .long (rTk σ j day x k).2.1), (3, .int day), (0, .ref (al 4 j))]) (fun k ls H locs hk ih_9 => ?_) 0 ls _ _ ⟨hI, hS, Nat.zero_le _, (by have h9 := lv_sub hl [0, 1, 2, 5, 3] rfl; rw [← nI_0] at h9; exact h9)⟩
  obtain ⟨hI, hS, hk, hl⟩ := hk
  have hl : lv_has ls 12 [(8, .int (nI k)), (6, .long (rTk σ j day x k).2.2), (4, .long (rTk σ j day x k).2.1), (3, .int day), (0, .ref (al 4 j))] := hl
  have hjk : j < nR (rTk σ j day x k).1 := by rw [rTk_N]; exact hj
  have hnk : fI (rTk σ j day x k).1 4 j 2 = nI n := by rw [rTk_I (by decide) (by decide)]; exact hn
  refine lv_iload hx hb dX4_takeFromAmounts_9 (lv_at hl 0 rfl) ?_
  refine lv_aload_n hx hb dX4_takeFromAmounts_11 rfl (lv_at hl 4 rfl) ?_
  refine sx_get (ci := 4) (C := RX4) (T := TX4) (N := 6) (v := .int (fI (rTk σ j day x k).1 4 j 2)) hx hb hts inX4 hown hK (c4_at hI hjk) rfl 2 (by decide) (hts _ w_1_35) rfl rfl dX4_takeFromAmounts_12 ?_
  refine lv_icmp_ge (tgt := 72) hx hb dX4_takeFromAmounts_15 (by decide) (fun c_15 => ?_) (fun c_15 => ?_)
  · refine lv_lload hx hb dX4_takeFromAmounts_72 (lv_at hl 1 rfl) ?_
    exact W.lret (v := (rTk σ j day x k).2.2) hx hb hr (fun t ht hW => ⟨⟨(rTk σ j day x k).2.2, (rTk σ j day x k).1, rfl, (by have h := lp_end hnk c_15 hk (by omega); subst h; exact ⟨rfl, rfl⟩), iv_give ht hI⟩, hS.F ht⟩) hS.2.2 dX4_takeFromAmounts_74
  · have hlt : k < n := lp_lt hnk c_15 (by omega)
    have hck : (nI k).toNatClampNeg = k := nI_clamp (by omega)
    obtain ⟨g, hg, hgn⟩ := hp k hlt
    have hg : fR (rTk σ j day x k).1 5 j k = some g := by rw [rTk_R]; exact hg
    have hgn : g < nG (rTk σ j day x k).1 := by rw [rTk_G]; exact hgn
    have htk := rTk_s hg
    have hl1 : (rTk σ j day x k).2.1 - lMin (rTk σ j day x k).2.1 (fL (rTk σ j day x k).1 6 j k) = (rTk σ j day x (k + 1)).2.1 := by rw [htk]
    have hl2 : (rTk σ j day x k).2.2 + gLost (rTk σ j day x k).1 g (lMin (rTk σ j day x k).2.1 (fL (rTk σ j day x k).1 6 j k)) = (rTk σ j day x (k + 1)).2.2 := by rw [htk]
    refine lv_aload_n hx hb dX4_takeFromAmounts_18 rfl (lv_at hl 4 rfl) ?_
    refine sx_get (ci := 4) (C := RX4) (T := TX4) (N := 6) (v := .ref (al 5 j)) hx hb hts inX4 hown hK (c4_at hI hjk) rfl 0 (by decide) (hts _ w_1_32) rfl rfl dX4_takeFromAmounts_19 ?_
    refine lv_iload hx hb dX4_takeFromAmounts_22 (lv_at hl 0 rfl) ?_
    refine sx_aldq hx hb hK (c5_at hI hjk) 3 rfl (vp_in_nI (show k < 4 by omega) (by decide)) dX4_takeFromAmounts_24 ?_
    rw [hck]
    refine W.eq (g2 := F0 m 25 ls (.ref (al 1 g) :: [])) (congrArg (fun z => F0 m 25 ls (va_rf (Option.map (al 1) z) :: [])) hg) ?_
    refine lv_astore (lv' := [(9, .ref (al 1 g)), (8, .int (nI k)), (6, .long (rTk σ j day x k).2.2), (4, .long (rTk σ j day x k).2.1), (3, .int day), (0, .ref (al 4 j))]) hx hb dX4_takeFromAmounts_25 hl (by decide) rfl (fun ls hl => ?_)
    refine lv_lload hx hb dX4_takeFromAmounts_27 (lv_at hl 3 rfl) ?_
    refine lv_aload_n hx hb dX4_takeFromAmounts_29 rfl (lv_at hl 5 rfl) ?_
    refine sx_get (ci := 4) (C := RX4) (T := TX4) (N := 6) (v := .ref (al 6 j)) hx hb hts inX4 hown hK (c4_at hI hjk) rfl 1 (by decide) (hts _ w_1_33) rfl rfl dX4_takeFromAmounts_30 ?_
    refine lv_iload hx hb dX4_takeFromAmounts_33 (lv_at hl 1 rfl) ?_
    refine sx_lald hx hb hK (c6_at hI hjk) 1 rfl (vp_in_nI (show k < 4 by omega) (by decide)) dX4_takeFromAmounts_35 ?_
    rw [hck]
    refine va_mmin_long hx hb (hml.trans hl.1.symm) hown (hts _ w_2_197) (hts _ w_1_164) (hts _ w_1_12) (hts _ wm_min_long) (Nat.le_of_ble_eq_true rfl) (Nat.le_of_ble_eq_true rfl) (Nat.le_of_ble_eq_true rfl) (Nat.le_of_ble_eq_true rfl) dX4_takeFromAmounts_36 ?_
    refine W.eq (g2 := F0 m 39 ls (.long (lMin (rTk σ j day x k).2.1 (fL (rTk σ j day x k).1 6 j k)) :: [])) rfl ?_
    refine lv_lstore (lv' := [(10, .long (lMin (rTk σ j day x k).2.1 (fL (rTk σ j day x k).1 6 j k))), (9, .ref (al 1 g)), (8, .int (nI k)), (6, .long (rTk σ j day x k).2.2), (4, .long (rTk σ j day x k).2.1), (3, .int day), (0, .ref (al 4 j))]) hx hb dX4_takeFromAmounts_39 hl (by decide) rfl (fun ls hl => ?_)
    refine lv_lload hx hb dX4_takeFromAmounts_41 (lv_at hl 4 rfl) ?_
    refine lv_lload hx hb dX4_takeFromAmounts_43 (lv_at hl 0 rfl) ?_
    refine lv_lsub hx hb dX4_takeFromAmounts_45 ?_
    refine lv_lstore (lv' := [(4, .long ((rTk σ j day x k).2.1 - (lMin (rTk σ j day x k).2.1 (fL (rTk σ j day x k).1 6 j k)))), (10, .long (lMin (rTk σ j day x k).2.1 (fL (rTk σ j day x k).1 6 j k))), (9, .ref (al 1 g)), (8, .int (nI k)), (6, .long (rTk σ j day x k).2.2), (3, .int day), (0, .ref (al 4 j))]) hx hb dX4_takeFromAmounts_46 hl (by decide) rfl (fun ls hl => ?_)
    refine lv_aload hx hb dX4_takeFromAmounts_48 (lv_at hl 2 rfl) ?_
    refine lv_ifnull hx hb dX4_takeFromAmounts_50 ?_
    refine lv_lload hx hb dX4_takeFromAmounts_53 (lv_at hl 4 rfl) ?_
    refine lv_aload hx hb dX4_takeFromAmounts_55 (lv_at hl 2 rfl) ?_
    refine lv_lload hx hb dX4_takeFromAmounts_57 (lv_at hl 1 rfl) ?_
    refine lv_iload_n hx hb dX4_takeFromAmounts_59 rfl (lv_at hl 5 rfl) ?_
    refine va_calll (va_runV (As := [.long (lMin (rTk σ j day x k).2.1 (fL (rTk σ j day x k).1 6 j k)), .int day]) (rest := [.long (rTk σ j day x k).2.2]) ⟨hx, hb, hml, hown, hts⟩ (k_loseUpTo l D dA sa lo al (rTk σ j day x k).1 μ g hgn (lMin (rTk σ j day x k).2.1 (fL (rTk σ j day x k).1 6 j k)) day) (cwV 2 hts (gdV w_2_209 w_2_210 w_2_211 w_1_9 w_2_212) rfl rfl rfl (by decide +kernel) ⟨Nat.le_of_ble_eq_true rfl, Nat.le_of_ble_eq_true rfl⟩) ⟨iv_bl, sx_recv hK (c1_at hI hgn) rfl, fun U hU hW => ⟨rfl, iv_use hI hwd hS hU hW⟩⟩ rfl rfl hl.1 rfl (lv_room (Nat.le_of_ble_eq_true rfl)) dX4_takeFromAmounts_60 ⟨Nat.le_of_ble_eq_true rfl, Nat.le_of_ble_eq_true rfl⟩) hS (fun q _ h => h) (fun q h => h) (fun r_60 u9 T9 H1 locs ht9 hvm9 e_60 hB9 hz9 hk9 hS => ?_)
    have hI := iv_take ht9 hB9
    clear hB9 hk9
    obtain ⟨rfl, rfl⟩ := e_60
    refine lv_ladd hx hb dX4_takeFromAmounts_63 ?_
    refine lv_lstore (lv' := [(6, .long ((rTk σ j day x k).2.2 + (gLost (rTk σ j day x k).1 g (lMin (rTk σ j day x k).2.1 (fL (rTk σ j day x k).1 6 j k))))), (4, .long ((rTk σ j day x k).2.1 - (lMin (rTk σ j day x k).2.1 (fL (rTk σ j day x k).1 6 j k)))), (10, .long (lMin (rTk σ j day x k).2.1 (fL (rTk σ j day x k).1 6 j k))), (9, .ref (al 1 g)), (8, .int (nI k)), (3, .int day), (0, .ref (al 4 j))]) hx hb dX4_takeFromAmounts_64 hl (by decide) rfl (fun ls hl => ?_)
    refine lv_iinc (v := (nI k) + 1) (lv' := [(8, .int ((nI k) + 1)), (6, .long ((rTk σ j day x k).2.2 + (gLost (rTk σ j day x k).1 g (lMin (rTk σ j day x k).2.1 (fL (rTk σ j day x k).1 6 j k))))), (4, .long ((rTk σ j day x k).2.1 - (lMin (rTk σ j day x k).2.1 (fL (rTk σ j day x k).1 6 j k)))), (10, .long (lMin (rTk σ j day x k).2.1 (fL (rTk σ j day x k).1 6 j k))), (9, .ref (al 1 g)), (3, .int day), (0, .ref (al 4 j))]) hx hb dX4_takeFromAmounts_66 hl (k := 4) rfl rfl (by decide) rfl (fun ls hl => ?_)
    refine lv_goto (tgt := 9) hx hb dX4_takeFromAmounts_69 (by decide) ?_
    exact ih_9 (k + 1) ls _ _ (by omega) ⟨(by rw [htk]; exact hI), hS, hlt, (by have h9 := lv_sub hl [0, 1, 2, 5, 6] rfl; rw [nI_1, hl1, hl2] at h9; exact h9)⟩
end
section
set_option maxHeartbeats 4000000 in
set_option maxRecDepth 100000 in
theorem k_isHolder (l : Launch) (D : va_G) (dA : Nat → ClassId) (sa : Nat → Nat) (lo : Nat) (al : Nat → Nat → Nat) (σ μ : CS) (x : Int32) : Met l yX0_isHolder wsX0_isHolder ({ frames := 0, cells := 0, slots := 0, locals := 0 }) (va_Pc [.int x] (ivP D dA sa lo al σ μ)) (vp_Si (fun r => r = bp (pHold x) inferInstance)) 0 0 (fun _ => False) := by
  refine Met.ofW (cc := cX0_isHolder) (maxL := 1) (ret := some .boolean) (by decide) rfl ?_
  intro p e s m args below meth c s₁ B hml hv
  obtain ⟨rfl, hI, hwd⟩ := hv
  have hx := B.exec
  have hb := B.bytes
  have hr := B.returns
  have hts : ∀ w ∈ WSall, w.before _ s = true := fun w h => atoms_spec (ws := wsX0_isHolder) B.pre w (List.mem_cons_of_mem _ h)
  have hown : s.vm.findClass RX0 = some m.cls := findClass_of_methodNamed B.named
  have hlocks := B.notSynchronized
  have hK := hwd.1
  have hS : va_S (fun q => lo ≤ q) s.heap s.heap [] := va_S.rf
  have hl := lv_entry ([.int x]) (n := 1) (Nat.le_of_ble_eq_true rfl)
  rw [lg_entry_eq]
  generalize (lg_sl ([.int x]) ++ List.replicate (1 - (lg_sl ([.int x])).length) Slot.unset).toArray = ls at hl ⊢
  have hl : lv_has ls 1 [(0, .int x)] := hl
  refine lv_iload_n hx hb dX0_isHolder_0 rfl (lv_at hl 0 rfl) ?_
  refine lv_if_lt (tgt := 14) hx hb dX0_isHolder_1 (by decide) (fun c_1 => ?_) (fun c_1 => ?_)
  · refine lv_iconst (v := 0) hx hb dX0_isHolder_14 (by decide) ?_
    exact W.zret (v := 0) hx hb hr rfl (fun t ht hW => ⟨_, rfl, (bp_f (fun h => h.1 c_1)), ht⟩) (fun q h => by cases h) dX0_isHolder_15
  · refine lv_iload_n hx hb dX0_isHolder_4 rfl (lv_at hl 0 rfl) ?_
    refine lv_bipush (v := 8) hx hb dX0_isHolder_5 (by decide) ?_
    refine lv_icmp_ge (tgt := 14) hx hb dX0_isHolder_7 (by decide) (fun c_7 => ?_) (fun c_7 => ?_)
    · refine lv_iconst (v := 0) hx hb dX0_isHolder_14 (by decide) ?_
      exact W.zret (v := 0) hx hb hr rfl (fun t ht hW => ⟨_, rfl, (bp_f (fun h => h.2 c_7)), ht⟩) (fun q h => by cases h) dX0_isHolder_15
    · refine lv_iconst (v := 1) hx hb dX0_isHolder_10 (by decide) ?_
      refine lv_goto (tgt := 15) hx hb dX0_isHolder_11 (by decide) ?_
      exact W.zret (v := 1) hx hb hr rfl (fun t ht hW => ⟨_, rfl, (bp_t ⟨c_1, c_7⟩), ht⟩) (fun q h => by cases h) dX0_isHolder_15

set_option maxHeartbeats 4000000 in
set_option maxRecDepth 100000 in
theorem k_isDesk (l : Launch) (D : va_G) (dA : Nat → ClassId) (sa : Nat → Nat) (lo : Nat) (al : Nat → Nat → Nat) (σ μ : CS) (x : Int32) : Met l yX0_isDesk wsX0_isDesk ({ frames := 0, cells := 0, slots := 0, locals := 0 }) (va_Pc [.int x] (ivP D dA sa lo al σ μ)) (vp_Si (fun r => r = bp (pDesk x) inferInstance)) 0 0 (fun _ => False) := by
  refine Met.ofW (cc := cX0_isDesk) (maxL := 1) (ret := some .boolean) (by decide) rfl ?_
  intro p e s m args below meth c s₁ B hml hv
  obtain ⟨rfl, hI, hwd⟩ := hv
  have hx := B.exec
  have hb := B.bytes
  have hr := B.returns
  have hts : ∀ w ∈ WSall, w.before _ s = true := fun w h => atoms_spec (ws := wsX0_isDesk) B.pre w (List.mem_cons_of_mem _ h)
  have hown : s.vm.findClass RX0 = some m.cls := findClass_of_methodNamed B.named
  have hlocks := B.notSynchronized
  have hK := hwd.1
  have hS : va_S (fun q => lo ≤ q) s.heap s.heap [] := va_S.rf
  have hl := lv_entry ([.int x]) (n := 1) (Nat.le_of_ble_eq_true rfl)
  rw [lg_entry_eq]
  generalize (lg_sl ([.int x]) ++ List.replicate (1 - (lg_sl ([.int x])).length) Slot.unset).toArray = ls at hl ⊢
  have hl : lv_has ls 1 [(0, .int x)] := hl
  refine lv_iload_n hx hb dX0_isDesk_0 rfl (lv_at hl 0 rfl) ?_
  refine lv_if_lt (tgt := 13) hx hb dX0_isDesk_1 (by decide) (fun c_1 => ?_) (fun c_1 => ?_)
  · refine lv_iconst (v := 0) hx hb dX0_isDesk_13 (by decide) ?_
    exact W.zret (v := 0) hx hb hr rfl (fun t ht hW => ⟨_, rfl, (bp_f (fun h => h.1 c_1)), ht⟩) (fun q h => by cases h) dX0_isDesk_14
  · refine lv_iload_n hx hb dX0_isDesk_4 rfl (lv_at hl 0 rfl) ?_
    refine lv_iconst (v := 4) hx hb dX0_isDesk_5 (by decide) ?_
    refine lv_icmp_ge (tgt := 13) hx hb dX0_isDesk_6 (by decide) (fun c_6 => ?_) (fun c_6 => ?_)
    · refine lv_iconst (v := 0) hx hb dX0_isDesk_13 (by decide) ?_
      exact W.zret (v := 0) hx hb hr rfl (fun t ht hW => ⟨_, rfl, (bp_f (fun h => h.2 c_6)), ht⟩) (fun q h => by cases h) dX0_isDesk_14
    · refine lv_iconst (v := 1) hx hb dX0_isDesk_9 (by decide) ?_
      refine lv_goto (tgt := 14) hx hb dX0_isDesk_10 (by decide) ?_
      exact W.zret (v := 1) hx hb hr rfl (fun t ht hW => ⟨_, rfl, (bp_t ⟨c_1, c_6⟩), ht⟩) (fun q h => by cases h) dX0_isDesk_14

set_option maxHeartbeats 4000000 in
set_option maxRecDepth 100000 in
theorem k_isCents (l : Launch) (D : va_G) (dA : Nat → ClassId) (sa : Nat → Nat) (lo : Nat) (al : Nat → Nat → Nat) (σ μ : CS) (x : Int64) : Met l yX0_isCents wsX0_isCents ({ frames := 0, cells := 0, slots := 0, locals := 0 }) (va_Pc [.long x] (ivP D dA sa lo al σ μ)) (vp_Si (fun r => r = bp (pCent x) inferInstance)) 0 0 (fun _ => False) := by
  refine Met.ofW (cc := cX0_isCents) (maxL := 2) (ret := some .boolean) (by decide) rfl ?_
  intro p e s m args below meth c s₁ B hml hv
  obtain ⟨rfl, hI, hwd⟩ := hv
  have hx := B.exec
  have hb := B.bytes
  have hr := B.returns
  have hts : ∀ w ∈ WSall, w.before _ s = true := fun w h => atoms_spec (ws := wsX0_isCents) B.pre w (List.mem_cons_of_mem _ h)
  have hown : s.vm.findClass RX0 = some m.cls := findClass_of_methodNamed B.named
  have hlocks := B.notSynchronized
  have hK := hwd.1
  have hS : va_S (fun q => lo ≤ q) s.heap s.heap [] := va_S.rf
  have hl := lv_entry ([.long x]) (n := 2) (Nat.le_of_ble_eq_true rfl)
  rw [lg_entry_eq]
  generalize (lg_sl ([.long x]) ++ List.replicate (2 - (lg_sl ([.long x])).length) Slot.unset).toArray = ls at hl ⊢
  have hl : lv_has ls 2 [(0, .long x)] := hl
  refine lv_lload_n hx hb dX0_isCents_0 rfl (lv_at hl 0 rfl) ?_
  refine lv_lconst (v := 1) hx hb dX0_isCents_1 (by decide) ?_
  refine W.lcmp hx hb dX0_isCents_2 ?_
  refine lv_if_lt (tgt := 18) hx hb dX0_isCents_3 (by decide) (fun c_3 => ?_) (fun c_3 => ?_)
  · have c_3 : x < 1 := (lg_cmp_lt _ _).mp c_3
    refine lv_iconst (v := 0) hx hb dX0_isCents_18 (by decide) ?_
    exact W.zret (v := 0) hx hb hr rfl (fun t ht hW => ⟨_, rfl, (bp_f (fun h => h.1 c_3)), ht⟩) (fun q h => by cases h) dX0_isCents_19
  · have c_3 : ¬ x < 1 := fun h => c_3 ((lg_cmp_lt _ _).mpr h)
    refine lv_lload_n hx hb dX0_isCents_6 rfl (lv_at hl 0 rfl) ?_
    refine lv_ldc2 (v := 1000000000) hx hb hown (hts _ w_1_187) dX0_isCents_7 ?_
    refine W.lcmp hx hb dX0_isCents_10 ?_
    refine lv_if_gt (tgt := 18) hx hb dX0_isCents_11 (by decide) (fun c_11 => ?_) (fun c_11 => ?_)
    · have c_11 : 1000000000 < x := (lg_cmp_gt _ _).mp c_11
      refine lv_iconst (v := 0) hx hb dX0_isCents_18 (by decide) ?_
      exact W.zret (v := 0) hx hb hr rfl (fun t ht hW => ⟨_, rfl, (bp_f (fun h => h.2 c_11)), ht⟩) (fun q h => by cases h) dX0_isCents_19
    · have c_11 : ¬ 1000000000 < x := fun h => c_11 ((lg_cmp_gt _ _).mpr h)
      refine lv_iconst (v := 1) hx hb dX0_isCents_14 (by decide) ?_
      refine lv_goto (tgt := 19) hx hb dX0_isCents_15 (by decide) ?_
      exact W.zret (v := 1) hx hb hr rfl (fun t ht hW => ⟨_, rfl, (bp_t ⟨c_3, c_11⟩), ht⟩) (fun q h => by cases h) dX0_isCents_19

set_option maxHeartbeats 4000000 in
set_option maxRecDepth 100000 in
theorem k_isShare (l : Launch) (D : va_G) (dA : Nat → ClassId) (sa : Nat → Nat) (lo : Nat) (al : Nat → Nat → Nat) (σ μ : CS) (u d : Int32) : Met l yX0_isShare wsX0_isShare ({ frames := 0, cells := 0, slots := 0, locals := 0 }) (va_Pc [.int u, .int d] (ivP D dA sa lo al σ μ)) (vp_Si (fun r => r = bp (pShare u d) inferInstance)) 0 0 (fun _ => False) := by
  refine Met.ofW (cc := cX0_isShare) (maxL := 2) (ret := some .boolean) (by decide) rfl ?_
  intro p e s m args below meth c s₁ B hml hv
  obtain ⟨rfl, hI, hwd⟩ := hv
  have hx := B.exec
  have hb := B.bytes
  have hr := B.returns
  have hts : ∀ w ∈ WSall, w.before _ s = true := fun w h => atoms_spec (ws := wsX0_isShare) B.pre w (List.mem_cons_of_mem _ h)
  have hown : s.vm.findClass RX0 = some m.cls := findClass_of_methodNamed B.named
  have hlocks := B.notSynchronized
  have hK := hwd.1
  have hS : va_S (fun q => lo ≤ q) s.heap s.heap [] := va_S.rf
  have hl := lv_entry ([.int u, .int d]) (n := 2) (Nat.le_of_ble_eq_true rfl)
  rw [lg_entry_eq]
  generalize (lg_sl ([.int u, .int d]) ++ List.replicate (2 - (lg_sl ([.int u, .int d])).length) Slot.unset).toArray = ls at hl ⊢
  have hl : lv_has ls 2 [(0, .int u), (1, .int d)] := hl
  refine lv_iload_n hx hb dX0_isShare_0 rfl (lv_at hl 0 rfl) ?_
  refine lv_if_lt (tgt := 24) hx hb dX0_isShare_1 (by decide) (fun c_1 => ?_) (fun c_1 => ?_)
  · refine lv_iconst (v := 0) hx hb dX0_isShare_24 (by decide) ?_
    exact W.zret (v := 0) hx hb hr rfl (fun t ht hW => ⟨_, rfl, (bp_f (fun h => h.1 c_1)), ht⟩) (fun q h => by cases h) dX0_isShare_25
  · refine lv_iload_n hx hb dX0_isShare_4 rfl (lv_at hl 1 rfl) ?_
    refine lv_iconst (v := 1) hx hb dX0_isShare_5 (by decide) ?_
    refine lv_icmp_lt (tgt := 24) hx hb dX0_isShare_6 (by decide) (fun c_6 => ?_) (fun c_6 => ?_)
    · refine lv_iconst (v := 0) hx hb dX0_isShare_24 (by decide) ?_
      exact W.zret (v := 0) hx hb hr rfl (fun t ht hW => ⟨_, rfl, (bp_f (fun h => h.2.1 c_6)), ht⟩) (fun q h => by cases h) dX0_isShare_25
    · refine lv_iload_n hx hb dX0_isShare_9 rfl (lv_at hl 1 rfl) ?_
      refine lv_bipush (v := 100) hx hb dX0_isShare_10 (by decide) ?_
      refine lv_icmp_gt (tgt := 24) hx hb dX0_isShare_12 (by decide) (fun c_12 => ?_) (fun c_12 => ?_)
      · refine lv_iconst (v := 0) hx hb dX0_isShare_24 (by decide) ?_
        exact W.zret (v := 0) hx hb hr rfl (fun t ht hW => ⟨_, rfl, (bp_f (fun h => h.2.2.1 c_12)), ht⟩) (fun q h => by cases h) dX0_isShare_25
      · refine lv_iload_n hx hb dX0_isShare_15 rfl (lv_at hl 0 rfl) ?_
        refine lv_iload_n hx hb dX0_isShare_16 rfl (lv_at hl 1 rfl) ?_
        refine lv_icmp_gt (tgt := 24) hx hb dX0_isShare_17 (by decide) (fun c_17 => ?_) (fun c_17 => ?_)
        · refine lv_iconst (v := 0) hx hb dX0_isShare_24 (by decide) ?_
          exact W.zret (v := 0) hx hb hr rfl (fun t ht hW => ⟨_, rfl, (bp_f (fun h => h.2.2.2 c_17)), ht⟩) (fun q h => by cases h) dX0_isShare_25
        · refine lv_iconst (v := 1) hx hb dX0_isShare_20 (by decide) ?_
          refine lv_goto (tgt := 25) hx hb dX0_isShare_21 (by decide) ?_
          exact W.zret (v := 1) hx hb hr rfl (fun t ht hW => ⟨_, rfl, (bp_t ⟨c_1, c_6, c_12, c_17⟩), ht⟩) (fun q h => by cases h) dX0_isShare_25

set_option maxHeartbeats 4000000 in
set_option maxRecDepth 100000 in
theorem k_guaranteeNumbered (l : Launch) (D : va_G) (dA : Nat → ClassId) (sa : Nat → Nat) (lo : Nat) (al : Nat → Nat → Nat) (σ μ : CS) (x : Int32) (n : Nat) (hn : fI σ 0 0 6 = nI n) (hn9 : n ≤ 20) (hg : ∀ i, i < n → fR σ 7 0 i = some i) : Met l yX0_guaranteeNumbered wsX0_guaranteeNumbered ({ frames := 0, cells := 0, slots := 0, locals := 0 }) (va_Pc [.ref (al 0 0), .int x] (ivP D dA sa lo al σ μ)) (va_Sq (fun r => (∃ i, i < n ∧ x = nI (i + 1) ∧ r = some (al 1 i)) ∨ ((x < 1 ∨ nI n < x) ∧ r = none))) 0 0 (fun _ => False) := by
  refine Met.ofW (cc := cX0_guaranteeNumbered) (maxL := 2) (ret := some (.object "GuaranteeBook$Guarantee")) (by decide) rfl ?_
  intro p e s m args below meth c s₁ B hml hv
  obtain ⟨rfl, hI, hwd⟩ := hv
  have hx := B.exec
  have hb := B.bytes
  have hr := B.returns
  have hts : ∀ w ∈ WSall, w.before _ s = true := fun w h => atoms_spec (ws := wsX0_guaranteeNumbered) B.pre w (List.mem_cons_of_mem _ h)
  have hown : s.vm.findClass RX0 = some m.cls := findClass_of_methodNamed B.named
  have hlocks := B.notSynchronized
  have hK := hwd.1
  have hS : va_S (fun q => lo ≤ q) s.heap s.heap [] := va_S.rf
  have hl := lv_entry ([.ref (al 0 0), .int x]) (n := 2) (Nat.le_of_ble_eq_true rfl)
  rw [lg_entry_eq]
  generalize (lg_sl ([.ref (al 0 0), .int x]) ++ List.replicate (2 - (lg_sl ([.ref (al 0 0), .int x])).length) Slot.unset).toArray = ls at hl ⊢
  have hl : lv_has ls 2 [(0, .ref (al 0 0)), (1, .int x)] := hl
  refine lv_iload_n hx hb dX0_guaranteeNumbered_0 rfl (lv_at hl 1 rfl) ?_
  refine lv_iconst (v := 1) hx hb dX0_guaranteeNumbered_1 (by decide) ?_
  refine lv_icmp_lt (tgt := 24) hx hb dX0_guaranteeNumbered_2 (by decide) (fun c_2 => ?_) (fun c_2 => ?_)
  · refine lv_null hx hb dX0_guaranteeNumbered_24 ?_
    exact W.aret (v := .null) hx hb hr (Or.inl ⟨_, rfl⟩) (Or.inl rfl) (fun t ht hW => ⟨none, rfl, (Or.inr ⟨Or.inl c_2, rfl⟩), ht⟩) (fun q h => by cases h) dX0_guaranteeNumbered_25
  · refine lv_iload_n hx hb dX0_guaranteeNumbered_5 rfl (lv_at hl 1 rfl) ?_
    refine lv_aload_n hx hb dX0_guaranteeNumbered_6 rfl (lv_at hl 0 rfl) ?_
    refine sx_get (ci := 0) (C := RX0) (T := TX0) (N := 10) (v := .int (fI σ 0 0 6)) hx hb hts inX0 hown hK (c0_at hI) rfl 6 (by decide) (hts _ w_1_65) rfl rfl dX0_guaranteeNumbered_7 ?_
    refine lv_icmp_gt (tgt := 24) hx hb dX0_guaranteeNumbered_10 (by decide) (fun c_10 => ?_) (fun c_10 => ?_)
    · refine lv_null hx hb dX0_guaranteeNumbered_24 ?_
      exact W.aret (v := .null) hx hb hr (Or.inl ⟨_, rfl⟩) (Or.inl rfl) (fun t ht hW => ⟨none, rfl, (Or.inr ⟨Or.inr (by rw [← hn]; exact c_10), rfl⟩), ht⟩) (fun q h => by cases h) dX0_guaranteeNumbered_25
    · rw [hn] at c_10
      obtain ⟨i, hi, ex⟩ := num_in c_2 c_10 (by omega)
      have hci : (x - 1).toNatClampNeg = i := by rw [ex, nI_pred]; exact nI_clamp (by omega)
      have hin : vp_in (x - 1) 20 := by rw [ex, nI_pred]; exact vp_in_nI (by omega) (by decide)
      refine lv_aload_n hx hb dX0_guaranteeNumbered_13 rfl (lv_at hl 0 rfl) ?_
      refine sx_get (ci := 0) (C := RX0) (T := TX0) (N := 10) (v := .ref (al 7 0)) hx hb hts inX0 hown hK (c0_at hI) rfl 0 (by decide) (hts _ w_1_59) rfl rfl dX0_guaranteeNumbered_14 ?_
      refine lv_iload_n hx hb dX0_guaranteeNumbered_17 rfl (lv_at hl 1 rfl) ?_
      refine lv_iconst (v := 1) hx hb dX0_guaranteeNumbered_18 (by decide) ?_
      refine lv_isub hx hb dX0_guaranteeNumbered_19 ?_
      refine sx_aldq hx hb hK (c7_0_at hI) 3 rfl hin dX0_guaranteeNumbered_20 ?_
      rw [hci]
      refine W.eq (g2 := F0 m 21 ls (.ref (al 1 i) :: [])) (congrArg (fun z => F0 m 21 ls (va_rf (Option.map (al 1) z) :: [])) (hg i hi)) ?_
      refine lv_goto (tgt := 25) hx hb dX0_guaranteeNumbered_21 (by decide) ?_
      exact W.aret (v := .ref (al 1 i)) hx hb hr (Or.inl ⟨_, rfl⟩) (Or.inr ⟨_, rfl⟩) (fun t ht hW => ⟨(some (al 1 i)), rfl, (Or.inl ⟨i, hi, ex, rfl⟩), ht⟩) (fun q h => by cases h) dX0_guaranteeNumbered_25

set_option maxHeartbeats 4000000 in
set_option maxRecDepth 100000 in
theorem k_reservationNumbered (l : Launch) (D : va_G) (dA : Nat → ClassId) (sa : Nat → Nat) (lo : Nat) (al : Nat → Nat → Nat) (σ μ : CS) (x : Int32) (n : Nat) (hn : fI σ 0 0 7 = nI n) (hn9 : n ≤ 60) (hg : ∀ i, i < n → fR σ 7 2 i = some i) : Met l yX0_reservationNumbered wsX0_reservationNumbered ({ frames := 0, cells := 0, slots := 0, locals := 0 }) (va_Pc [.ref (al 0 0), .int x] (ivP D dA sa lo al σ μ)) (va_Sq (fun r => (∃ i, i < n ∧ x = nI (i + 1) ∧ r = some (al 4 i)) ∨ ((x < 1 ∨ nI n < x) ∧ r = none))) 0 0 (fun _ => False) := by
  refine Met.ofW (cc := cX0_reservationNumbered) (maxL := 2) (ret := some (.object "GuaranteeBook$Reservation")) (by decide) rfl ?_
  intro p e s m args below meth c s₁ B hml hv
  obtain ⟨rfl, hI, hwd⟩ := hv
  have hx := B.exec
  have hb := B.bytes
  have hr := B.returns
  have hts : ∀ w ∈ WSall, w.before _ s = true := fun w h => atoms_spec (ws := wsX0_reservationNumbered) B.pre w (List.mem_cons_of_mem _ h)
  have hown : s.vm.findClass RX0 = some m.cls := findClass_of_methodNamed B.named
  have hlocks := B.notSynchronized
  have hK := hwd.1
  have hS : va_S (fun q => lo ≤ q) s.heap s.heap [] := va_S.rf
  have hl := lv_entry ([.ref (al 0 0), .int x]) (n := 2) (Nat.le_of_ble_eq_true rfl)
  rw [lg_entry_eq]
  generalize (lg_sl ([.ref (al 0 0), .int x]) ++ List.replicate (2 - (lg_sl ([.ref (al 0 0), .int x])).length) Slot.unset).toArray = ls at hl ⊢
  have hl : lv_has ls 2 [(0, .ref (al 0 0)), (1, .int x)] := hl
  refine lv_iload_n hx hb dX0_reservationNumbered_0 rfl (lv_at hl 1 rfl) ?_
  refine lv_iconst (v := 1) hx hb dX0_reservationNumbered_1 (by decide) ?_
  refine lv_icmp_lt (tgt := 24) hx hb dX0_reservationNumbered_2 (by decide) (fun c_2 => ?_) (fun c_2 => ?_)
  · refine lv_null hx hb dX0_reservationNumbered_24 ?_
    exact W.aret (v := .null) hx hb hr (Or.inl ⟨_, rfl⟩) (Or.inl rfl) (fun t ht hW => ⟨none, rfl, (Or.inr ⟨Or.inl c_2, rfl⟩), ht⟩) (fun q h => by cases h) dX0_reservationNumbered_25
  · refine lv_iload_n hx hb dX0_reservationNumbered_5 rfl (lv_at hl 1 rfl) ?_
    refine lv_aload_n hx hb dX0_reservationNumbered_6 rfl (lv_at hl 0 rfl) ?_
    refine sx_get (ci := 0) (C := RX0) (T := TX0) (N := 10) (v := .int (fI σ 0 0 7)) hx hb hts inX0 hown hK (c0_at hI) rfl 7 (by decide) (hts _ w_1_66) rfl rfl dX0_reservationNumbered_7 ?_
    refine lv_icmp_gt (tgt := 24) hx hb dX0_reservationNumbered_10 (by decide) (fun c_10 => ?_) (fun c_10 => ?_)
    · refine lv_null hx hb dX0_reservationNumbered_24 ?_
      exact W.aret (v := .null) hx hb hr (Or.inl ⟨_, rfl⟩) (Or.inl rfl) (fun t ht hW => ⟨none, rfl, (Or.inr ⟨Or.inr (by rw [← hn]; exact c_10), rfl⟩), ht⟩) (fun q h => by cases h) dX0_reservationNumbered_25
    · rw [hn] at c_10
      obtain ⟨i, hi, ex⟩ := num_in c_2 c_10 (by omega)
      have hci : (x - 1).toNatClampNeg = i := by rw [ex, nI_pred]; exact nI_clamp (by omega)
      have hin : vp_in (x - 1) 60 := by rw [ex, nI_pred]; exact vp_in_nI (by omega) (by decide)
      refine lv_aload_n hx hb dX0_reservationNumbered_13 rfl (lv_at hl 0 rfl) ?_
      refine sx_get (ci := 0) (C := RX0) (T := TX0) (N := 10) (v := .ref (al 7 2)) hx hb hts inX0 hown hK (c0_at hI) rfl 2 (by decide) (hts _ w_1_61) rfl rfl dX0_reservationNumbered_14 ?_
      refine lv_iload_n hx hb dX0_reservationNumbered_17 rfl (lv_at hl 1 rfl) ?_
      refine lv_iconst (v := 1) hx hb dX0_reservationNumbered_18 (by decide) ?_
      refine lv_isub hx hb dX0_reservationNumbered_19 ?_
      refine sx_aldq hx hb hK (c7_2_at hI) 4 rfl hin dX0_reservationNumbered_20 ?_
      rw [hci]
      refine W.eq (g2 := F0 m 21 ls (.ref (al 4 i) :: [])) (congrArg (fun z => F0 m 21 ls (va_rf (Option.map (al 4) z) :: [])) (hg i hi)) ?_
      refine lv_goto (tgt := 25) hx hb dX0_reservationNumbered_21 (by decide) ?_
      exact W.aret (v := .ref (al 4 i)) hx hb hr (Or.inl ⟨_, rfl⟩) (Or.inr ⟨_, rfl⟩) (fun t ht hW => ⟨(some (al 4 i)), rfl, (Or.inl ⟨i, hi, ex, rfl⟩), ht⟩) (fun q h => by cases h) dX0_reservationNumbered_25
end
section
set_option maxHeartbeats 4000000 in
set_option maxRecDepth 100000 in
theorem k_mayCoverTogether (l : Launch) (D : va_G) (dA : Nat → ClassId) (sa : Nat → Nat) (lo : Nat) (al : Nat → Nat → Nat) (σ μ : CS) (h : Nat) (hh : h < 8) (L : List Nat) (hc : Ch σ (fR σ 7 1 h) L) : Met l yX0_mayCoverTogether wsX0_mayCoverTogether ({ frames := 3, cells := 0, slots := 0, locals := 90 }) (va_Pc [.ref (al 0 0), .int (nI h)] (ivP D dA sa lo al σ μ)) (vp_Sl (fun r => r = lMin (sumMay σ L 0) 2000000000)) 0 0 (fun _ => False) := by
  refine Met.ofW (cc := cX0_mayCoverTogether) (maxL := 5) (ret := some .long) (by decide) rfl ?_
  intro p e s m args below meth c s₁ B hml hv
  obtain ⟨rfl, hI, hwd⟩ := hv
  have hx := B.exec
  have hb := B.bytes
  have hr := B.returns
  have hts : ∀ w ∈ WSall, w.before _ s = true := fun w h => atoms_spec (ws := wsX0_mayCoverTogether) B.pre w (List.mem_cons_of_mem _ h)
  have hown : s.vm.findClass RX0 = some m.cls := findClass_of_methodNamed B.named
  have hlocks := B.notSynchronized
  have hK := hwd.1
  have hS : va_S (fun q => lo ≤ q) s.heap s.heap [] := va_S.rf
  have hl := lv_entry ([.ref (al 0 0), .int (nI h)]) (n := 5) (Nat.le_of_ble_eq_true rfl)
  rw [lg_entry_eq]
  generalize (lg_sl ([.ref (al 0 0), .int (nI h)]) ++ List.replicate (5 - (lg_sl ([.ref (al 0 0), .int (nI h)])).length) Slot.unset).toArray = ls at hl ⊢
  have hl : lv_has ls 5 [(0, .ref (al 0 0)), (1, .int (nI h))] := hl
  have hch8 : (nI h).toNatClampNeg = h := nI_clamp (by omega)
  refine lv_lconst (v := 0) hx hb dX0_mayCoverTogether_0 (by decide) ?_
  refine lv_lstore_n (lv' := [(2, .long 0), (0, .ref (al 0 0)), (1, .int (nI h))]) hx hb dX0_mayCoverTogether_1 rfl hl (by decide) rfl (fun ls hl => ?_)
  refine lv_aload_n hx hb dX0_mayCoverTogether_2 rfl (lv_at hl 1 rfl) ?_
  refine sx_get (ci := 0) (C := RX0) (T := TX0) (N := 10) (v := .ref (al 7 1)) hx hb hts inX0 hown hK (c0_at hI) rfl 1 (by decide) (hts _ w_1_60) rfl rfl dX0_mayCoverTogether_3 ?_
  refine lv_iload_n hx hb dX0_mayCoverTogether_6 rfl (lv_at hl 2 rfl) ?_
  refine sx_aldq hx hb hK (c7_1_at hI) 3 rfl (vp_in_nI hh (by decide)) dX0_mayCoverTogether_7 ?_
  rw [hch8]
  refine sx_astore (lv' := [(4, va_rf (Option.map (al 1) (fR σ 7 1 h))), (2, .long 0), (0, .ref (al 0 0)), (1, .int (nI h))]) hx hb dX0_mayCoverTogether_8 hl (by decide) rfl (fun ls hl => ?_)
  refine w_loopP (hd := 10) (stk := []) (X := Option Nat × List Nat × Int64) (fun xx => match xx with | (o, t, v) => t.length) (fun xx ls => match xx with | (o, t, v) => (Ch σ o t ∧ sumMay σ t v = sumMay σ L 0) ∧ lv_has ls 5 [(4, va_rf (o.map (al 1))), (2, .long v), (0, .ref (al 0 0))]) (fun xx ls hk ih => ?_) (fR σ 7 1 h, L, 0) ls ⟨⟨hc, rfl⟩, lv_sub hl [0, 1, 2] rfl⟩
  obtain ⟨o, t, v⟩ := xx
  obtain ⟨hk, hl⟩ := hk
  cases t with
  | nil =>
    obtain ⟨rfl, hk⟩ := hk
    have hl : lv_has ls 5 [(4, .null), (2, .long v), (0, .ref (al 0 0))] := hl
    refine lv_aloadN hx hb dX0_mayCoverTogether_10 (lv_at hl 0 rfl) ?_
    refine lv_ifnullN (tgt := 33) hx hb dX0_mayCoverTogether_12 (by decide) ?_
    refine lv_lload_n hx hb dX0_mayCoverTogether_33 rfl (lv_at hl 1 rfl) ?_
    refine lv_ldc2 (v := 2000000000) hx hb hown (hts _ w_1_162) dX0_mayCoverTogether_34 ?_
    refine va_mmin_long hx hb (hml.trans hl.1.symm) hown (hts _ w_1_163) (hts _ w_1_164) (hts _ w_1_12) (hts _ wm_min_long) (Nat.le_of_ble_eq_true rfl) (Nat.le_of_ble_eq_true rfl) (Nat.le_of_ble_eq_true rfl) (Nat.le_of_ble_eq_true rfl) dX0_mayCoverTogether_37 ?_
    exact W.lret (v := if 2000000000 < v then 2000000000 else v) hx hb hr (fun t ht hW => ⟨_, rfl, (by have hk : v = sumMay σ L 0 := hk; rw [← hk] <;> rfl), ht⟩) (fun q h => by cases h) dX0_mayCoverTogether_40
  | cons g t =>
    obtain ⟨⟨rfl, hg, hch⟩, hk⟩ := hk
    have hl : lv_has ls 5 [(4, .ref (al 1 g)), (2, .long v), (0, .ref (al 0 0))] := hl
    refine lv_aload hx hb dX0_mayCoverTogether_10 (lv_at hl 0 rfl) ?_
    refine lv_ifnull hx hb dX0_mayCoverTogether_12 ?_
    refine lv_lload_n hx hb dX0_mayCoverTogether_15 rfl (lv_at hl 1 rfl) ?_
    refine lv_aload hx hb dX0_mayCoverTogether_16 (lv_at hl 0 rfl) ?_
    refine vp_callSl (W.runV (As := []) (rest := [.long v]) ⟨hx, hb, hml, hown, hts⟩ (k_mayCover l D dA sa lo al σ μ g hg ) (cwV 0 hts (gdV w_1_146 w_1_147 w_1_148 w_1_9 w_1_149) rfl rfl rfl (by decide +kernel) ⟨Nat.le_of_ble_eq_true rfl, Nat.le_of_ble_eq_true rfl⟩) ⟨iv_bl, sx_recv hK (c1_at hI hg) rfl, fun U hU hW => ⟨rfl, iv_use hI hwd hS hU hW⟩⟩ rfl rfl hl.1 rfl (lv_room (Nat.le_of_ble_eq_true rfl)) dX0_mayCoverTogether_18 ⟨Nat.le_of_ble_eq_true rfl, Nat.le_of_ble_eq_true rfl⟩) (fun r_18 e_18 => ?_)
    subst e_18
    refine lv_ladd hx hb dX0_mayCoverTogether_21 ?_
    refine lv_lstore_n (lv' := [(2, .long (v + (gMay σ g))), (4, .ref (al 1 g)), (0, .ref (al 0 0))]) hx hb dX0_mayCoverTogether_22 rfl hl (by decide) rfl (fun ls hl => ?_)
    refine lv_aload hx hb dX0_mayCoverTogether_23 (lv_at hl 1 rfl) ?_
    refine sx_getN (ci := 1) (C := RX1) (T := TX1) (N := 11) (v := va_rf (Option.map (al 1) (fR σ 1 g 10))) hx hb hts inX1 hown hK (c1_at hI hg) rfl 10 (by decide) (va_Nw.use rfl (wd_n hwd (.fieldLinkNest "GuaranteeBook" 175 "GuaranteeBook$Guarantee" "next" "LGuaranteeBook$Guarantee;" "GuaranteeBook") (List.mem_of_getElem? (i := 20) rfl))) rfl rfl dX0_mayCoverTogether_25 ?_
    refine sx_astore (lv' := [(4, va_rf (Option.map (al 1) (fR σ 1 g 10))), (2, .long (v + (gMay σ g))), (0, .ref (al 0 0))]) hx hb dX0_mayCoverTogether_28 hl (by decide) rfl (fun ls hl => ?_)
    refine lv_goto (tgt := 10) hx hb dX0_mayCoverTogether_30 (by decide) ?_
    exact ih (fR σ 1 g 10, t, v + (gMay σ g)) ls (by simp only [List.length_cons]; omega) ⟨⟨hch, hk⟩, lv_sub hl [0, 1, 2] rfl⟩

set_option maxHeartbeats 4000000 in
set_option maxRecDepth 100000 in
theorem k_list (l : Launch) (D : va_G) (dA : Nat → ClassId) (sa : Nat → Nat) (lo : Nat) (al : Nat → Nat → Nat) (σ μ : CS) (x i : Int32) (L : Nat → List Nat) (hL : ∀ h, h < 8 → Ch σ (fR σ 7 1 h) (L h)) : Met l yX0_list wsX0_list ({ frames := 1, cells := 0, slots := 0, locals := 30 }) (va_Pc [.ref (al 0 0), .int x, .int i] (ivP D dA sa lo al σ μ)) (vp_Si (fun r => r = if pHold x ∧ 0 ≤ i then lsAt σ i (L x.toNatClampNeg) 0 else -1)) 0 0 (fun _ => False) := by
  refine Met.ofW (cc := cX0_list) (maxL := 5) (ret := some .int) (by decide) rfl ?_
  intro p e s m args below meth c s₁ B hml hv
  obtain ⟨rfl, hI, hwd⟩ := hv
  have hx := B.exec
  have hb := B.bytes
  have hr := B.returns
  have hts : ∀ w ∈ WSall, w.before _ s = true := fun w h => atoms_spec (ws := wsX0_list) B.pre w (List.mem_cons_of_mem _ h)
  have hown : s.vm.findClass RX0 = some m.cls := findClass_of_methodNamed B.named
  have hlocks := B.notSynchronized
  have hK := hwd.1
  have hS : va_S (fun q => lo ≤ q) s.heap s.heap [] := va_S.rf
  have hl := lv_entry ([.ref (al 0 0), .int x, .int i]) (n := 5) (Nat.le_of_ble_eq_true rfl)
  rw [lg_entry_eq]
  generalize (lg_sl ([.ref (al 0 0), .int x, .int i]) ++ List.replicate (5 - (lg_sl ([.ref (al 0 0), .int x, .int i])).length) Slot.unset).toArray = ls at hl ⊢
  have hl : lv_has ls 5 [(0, .ref (al 0 0)), (1, .int x), (2, .int i)] := hl
  refine lv_iload_n hx hb dX0_list_0 rfl (lv_at hl 1 rfl) ?_
  refine vp_callSi (W.runS (As := [.int x]) (rest := []) ⟨hx, hb, hml, hown, hts⟩ (k_isHolder l D dA sa lo al σ μ x) (cwS 1 hts (gdS w_1_139 w_1_140 w_1_1 w_1_141) rfl rfl rfl (by decide +kernel) ⟨Nat.le_of_ble_eq_true rfl, Nat.le_of_ble_eq_true rfl⟩) ⟨iv_bl, fun U hU hW => ⟨rfl, iv_use hI hwd hS hU hW⟩⟩ rfl rfl hl.1 rfl (lv_room (Nat.le_of_ble_eq_true rfl)) dX0_list_1 ⟨Nat.le_of_ble_eq_true rfl, Nat.le_of_ble_eq_true rfl⟩) (fun r_1 e_1 => ?_)
  subst e_1
  refine lv_if_eq (tgt := 11) hx hb dX0_list_4 (by decide) (fun c_4 => ?_) (fun c_4 => ?_)
  · have c_4 := bp_0.mp c_4
    refine lv_iconst (v := (-1)) hx hb dX0_list_11 (by decide) ?_
    exact W.iret (v := (-1)) hx hb hr (fun t ht hW => ⟨_, rfl, (by rw [if_neg (fun h => c_4 h.1)]), ht⟩) (fun q h => by cases h) dX0_list_12
  · have c_4 := bp_n0.mp c_4
    refine lv_iload_n hx hb dX0_list_7 rfl (lv_at hl 2 rfl) ?_
    refine lv_if_ge (tgt := 13) hx hb dX0_list_8 (by decide) (fun c_8 => ?_) (fun c_8 => ?_)
    · obtain ⟨h, hh, rfl⟩ := hold_in c_4
      have hch8 : (nI h).toNatClampNeg = h := nI_clamp (by omega)
      have hc := hL h hh
      have hl : lv_has ls 5 [(0, .ref (al 0 0)), (1, .int (nI h)), (2, .int i)] := hl
      refine lv_iconst (v := 0) hx hb dX0_list_13 (by decide) ?_
      refine lv_istore_n (lv' := [(3, .int 0), (0, .ref (al 0 0)), (1, .int (nI h)), (2, .int i)]) hx hb dX0_list_14 rfl hl (by decide) rfl (fun ls hl => ?_)
      refine lv_aload_n hx hb dX0_list_15 rfl (lv_at hl 1 rfl) ?_
      refine sx_get (ci := 0) (C := RX0) (T := TX0) (N := 10) (v := .ref (al 7 1)) hx hb hts inX0 hown hK (c0_at hI) rfl 1 (by decide) (hts _ w_1_60) rfl rfl dX0_list_16 ?_
      refine lv_iload_n hx hb dX0_list_19 rfl (lv_at hl 2 rfl) ?_
      refine sx_aldq hx hb hK (c7_1_at hI) 3 rfl (vp_in_nI hh (by decide)) dX0_list_20 ?_
      rw [hch8]
      refine sx_astore (lv' := [(4, va_rf (Option.map (al 1) (fR σ 7 1 h))), (3, .int 0), (0, .ref (al 0 0)), (1, .int (nI h)), (2, .int i)]) hx hb dX0_list_21 hl (by decide) rfl (fun ls hl => ?_)
      refine w_loopP (hd := 23) (stk := []) (X := Option Nat × List Nat × Int32) (fun xx => match xx with | (o, t, a) => t.length) (fun xx ls => match xx with | (o, t, a) => (Ch σ o t ∧ lsAt σ i t a = lsAt σ i (L h) 0) ∧ lv_has ls 5 [(4, va_rf (o.map (al 1))), (3, .int a), (2, .int i), (0, .ref (al 0 0))]) (fun xx ls hk ih => ?_) (fR σ 7 1 h, L h, 0) ls ⟨⟨hc, rfl⟩, lv_sub hl [0, 1, 4, 2] rfl⟩
      obtain ⟨o, t, a⟩ := xx
      obtain ⟨hk, hl⟩ := hk
      cases t with
      | nil =>
        obtain ⟨rfl, hk⟩ := hk
        have hl : lv_has ls 5 [(4, .null), (3, .int a), (2, .int i), (0, .ref (al 0 0))] := hl
        refine lv_aloadN hx hb dX0_list_23 (lv_at hl 0 rfl) ?_
        refine lv_ifnullN (tgt := 52) hx hb dX0_list_25 (by decide) ?_
        refine lv_iconst (v := (-1)) hx hb dX0_list_52 (by decide) ?_
        exact W.iret (v := (-1)) hx hb hr (fun t ht hW => ⟨_, rfl, (by rw [if_pos ⟨hold_ok hh, c_8⟩]; exact hk), ht⟩) (fun q h => by cases h) dX0_list_53
      | cons g t =>
        obtain ⟨⟨rfl, hg, hch⟩, hk⟩ := hk
        have hl : lv_has ls 5 [(4, .ref (al 1 g)), (3, .int a), (2, .int i), (0, .ref (al 0 0))] := hl
        refine lv_aload hx hb dX0_list_23 (lv_at hl 0 rfl) ?_
        refine lv_ifnull hx hb dX0_list_25 ?_
        refine lv_iload_n hx hb dX0_list_28 rfl (lv_at hl 1 rfl) ?_
        refine lv_iload_n hx hb dX0_list_29 rfl (lv_at hl 2 rfl) ?_
        refine lv_icmp_ne (tgt := 39) hx hb dX0_list_30 (by decide) (fun c_30 => ?_) (fun c_30 => ?_)
        · refine lv_iinc (v := a + 1) (lv' := [(3, .int (a + 1)), (4, .ref (al 1 g)), (2, .int i), (0, .ref (al 0 0))]) hx hb dX0_list_39 hl (k := 1) rfl rfl (by decide) rfl (fun ls hl => ?_)
          refine lv_aload hx hb dX0_list_42 (lv_at hl 1 rfl) ?_
          refine sx_getN (ci := 1) (C := RX1) (T := TX1) (N := 11) (v := va_rf (Option.map (al 1) (fR σ 1 g 10))) hx hb hts inX1 hown hK (c1_at hI hg) rfl 10 (by decide) (va_Nw.use rfl (wd_n hwd (.fieldLinkNest "GuaranteeBook" 175 "GuaranteeBook$Guarantee" "next" "LGuaranteeBook$Guarantee;" "GuaranteeBook") (List.mem_of_getElem? (i := 20) rfl))) rfl rfl dX0_list_44 ?_
          refine sx_astore (lv' := [(4, va_rf (Option.map (al 1) (fR σ 1 g 10))), (3, .int (a + 1)), (2, .int i), (0, .ref (al 0 0))]) hx hb dX0_list_47 hl (by decide) rfl (fun ls hl => ?_)
          refine lv_goto (tgt := 23) hx hb dX0_list_49 (by decide) ?_
          exact ih (fR σ 1 g 10, t, a + 1) ls (by simp only [List.length_cons]; omega) ⟨⟨hch, (by rw [lsAt, if_neg c_30] at hk; exact hk)⟩, lv_sub hl [0, 1, 2, 3] rfl⟩
        · refine lv_aload hx hb dX0_list_33 (lv_at hl 0 rfl) ?_
          refine sx_getN (ci := 1) (C := RX1) (T := TX1) (N := 11) (v := .int (fI σ 1 g 0)) hx hb hts inX1 hown hK (c1_at hI hg) rfl 0 (by decide) (va_Nw.use rfl (wd_n hwd (.fieldLinkNest "GuaranteeBook" 172 "GuaranteeBook$Guarantee" "number" "I" "GuaranteeBook") (List.mem_of_getElem? (i := 12) rfl))) rfl rfl dX0_list_35 ?_
          exact W.iret (v := fI σ 1 g 0) hx hb hr (fun t ht hW => ⟨_, rfl, (by rw [if_pos ⟨hold_ok hh, c_8⟩]; rw [lsAt, if_pos c_30] at hk; exact hk), ht⟩) (fun q h => by cases h) dX0_list_38
    · refine lv_iconst (v := (-1)) hx hb dX0_list_11 (by decide) ?_
      exact W.iret (v := (-1)) hx hb hr (fun t ht hW => ⟨_, rfl, (by rw [if_neg (fun h => c_8 h.2)]), ht⟩) (fun q h => by cases h) dX0_list_12

set_option maxHeartbeats 4000000 in
set_option maxRecDepth 100000 in
theorem k_tick (l : Launch) (D : va_G) (dA : Nat → ClassId) (sa : Nat → Nat) (lo : Nat) (al : Nat → Nat → Nat) (σ μ : CS) (x : Int32) : Met l yX0_tick wsX0_tick ({ frames := 0, cells := 0, slots := 0, locals := 0 }) (va_Pc [.ref (al 0 0), .int x] (ivP D dA sa lo al σ μ)) (va_Qi (fun r u => (r, u) = cTick σ x) (ivB D dA lo al μ) (fun q => lo ≤ q)) 0 0 (fun q => lo ≤ q) := by
  refine Met.ofW (cc := cX0_tick) (maxL := 2) (ret := some .boolean) (by decide) rfl ?_
  intro p e s m args below meth c s₁ B hml hv
  obtain ⟨rfl, hI, hwd⟩ := hv
  have hx := B.exec
  have hb := B.bytes
  have hr := B.returns
  have hts : ∀ w ∈ WSall, w.before _ s = true := fun w h => atoms_spec (ws := wsX0_tick) B.pre w (List.mem_cons_of_mem _ h)
  have hown : s.vm.findClass RX0 = some m.cls := findClass_of_methodNamed B.named
  have hlocks := B.notSynchronized
  have hK := hwd.1
  have hS : va_S (fun q => lo ≤ q) s.heap s.heap [] := va_S.rf
  have hl := lv_entry ([.ref (al 0 0), .int x]) (n := 2) (Nat.le_of_ble_eq_true rfl)
  rw [lg_entry_eq]
  generalize (lg_sl ([.ref (al 0 0), .int x]) ++ List.replicate (2 - (lg_sl ([.ref (al 0 0), .int x])).length) Slot.unset).toArray = ls at hl ⊢
  have hl : lv_has ls 2 [(0, .ref (al 0 0)), (1, .int x)] := hl
  refine lv_iload_n hx hb dX0_tick_0 rfl (lv_at hl 1 rfl) ?_
  refine lv_aload_n hx hb dX0_tick_1 rfl (lv_at hl 0 rfl) ?_
  refine sx_get (ci := 0) (C := RX0) (T := TX0) (N := 10) (v := .int (fI σ 0 0 9)) hx hb hts inX0 hown hK (c0_at hI) rfl 9 (by decide) (hts _ w_1_68) rfl rfl dX0_tick_2 ?_
  refine lv_icmp_lt (tgt := 14) hx hb dX0_tick_5 (by decide) (fun c_5 => ?_) (fun c_5 => ?_)
  · refine lv_iconst (v := 0) hx hb dX0_tick_14 (by decide) ?_
    exact W.zret (v := 0) hx hb hr rfl (fun t ht hW => ⟨⟨0, σ, rfl, (by unfold cTick; simp only [if_pos c_5]), iv_give ht hI⟩, hS.F ht⟩) hS.2.2 dX0_tick_15
  · refine lv_iload_n hx hb dX0_tick_8 rfl (lv_at hl 1 rfl) ?_
    refine lv_ldc (v := 100000) hx hb hown (hts _ w_1_134) dX0_tick_9 ?_
    refine lv_icmp_le (tgt := 16) hx hb dX0_tick_11 (by decide) (fun c_11 => ?_) (fun c_11 => ?_)
    · refine lv_aload_n hx hb dX0_tick_16 rfl (lv_at hl 0 rfl) ?_
      refine lv_iload_n hx hb dX0_tick_17 rfl (lv_at hl 1 rfl) ?_
      refine sx_put (ci := 0) (v := .int x) (ty := .int) (C := RX0) (T := TX0) (N := 10) hx hb hts inX0 tyX0 okX0 nmX0 hown hK hS (c0_at hI) (c0_lo hI) rfl 9 (by decide) (hts _ w_1_68) rfl rfl (by decide +kernel) rfl rfl (Nat.le_of_ble_eq_true rfl) dX0_tick_18 (fun H locs hq => ?_)
      have hI := c0_uI (f := 9) (v := x) hI rfl hq
      have hS := hq.2.2.2
      refine lv_iconst (v := 1) hx hb dX0_tick_21 (by decide) ?_
      exact W.zret (v := 1) hx hb hr rfl (fun t ht hW => ⟨⟨1, uI σ 0 0 9 x, rfl, (by unfold cTick; simp only [if_neg c_5, if_pos c_11]), iv_give ht hI⟩, hS.F ht⟩) hS.2.2 dX0_tick_22
    · refine lv_iconst (v := 0) hx hb dX0_tick_14 (by decide) ?_
      exact W.zret (v := 0) hx hb hr rfl (fun t ht hW => ⟨⟨0, σ, rfl, (by unfold cTick; simp only [if_neg c_5, if_neg c_11]), iv_give ht hI⟩, hS.F ht⟩) hS.2.2 dX0_tick_15

set_option maxHeartbeats 4000000 in
set_option maxRecDepth 100000 in
theorem k_fails (l : Launch) (D : va_G) (dA : Nat → ClassId) (sa : Nat → Nat) (lo : Nat) (al : Nat → Nat → Nat) (σ μ : CS) (x on : Int32) (hon : on = 0 ∨ on = 1) : Met l yX0_fails wsX0_fails ({ frames := 1, cells := 0, slots := 0, locals := 30 }) (va_Pc [.ref (al 0 0), .int x, .int on] (ivP D dA sa lo al σ μ)) (va_Qi (fun r u => (r, u) = cFails σ x on) (ivB D dA lo al μ) (fun q => lo ≤ q)) 0 0 (fun q => lo ≤ q) := by
  refine Met.ofW (cc := cX0_fails) (maxL := 3) (ret := some .boolean) (by decide) rfl ?_
  intro p e s m args below meth c s₁ B hml hv
  obtain ⟨rfl, hI, hwd⟩ := hv
  have hx := B.exec
  have hb := B.bytes
  have hr := B.returns
  have hts : ∀ w ∈ WSall, w.before _ s = true := fun w h => atoms_spec (ws := wsX0_fails) B.pre w (List.mem_cons_of_mem _ h)
  have hown : s.vm.findClass RX0 = some m.cls := findClass_of_methodNamed B.named
  have hlocks := B.notSynchronized
  have hK := hwd.1
  have hS : va_S (fun q => lo ≤ q) s.heap s.heap [] := va_S.rf
  have hl := lv_entry ([.ref (al 0 0), .int x, .int on]) (n := 3) (Nat.le_of_ble_eq_true rfl)
  rw [lg_entry_eq]
  generalize (lg_sl ([.ref (al 0 0), .int x, .int on]) ++ List.replicate (3 - (lg_sl ([.ref (al 0 0), .int x, .int on])).length) Slot.unset).toArray = ls at hl ⊢
  have hl : lv_has ls 3 [(0, .ref (al 0 0)), (1, .int x), (2, .int on)] := hl
  refine lv_iload_n hx hb dX0_fails_0 rfl (lv_at hl 1 rfl) ?_
  refine vp_callSi (W.runS (As := [.int x]) (rest := []) ⟨hx, hb, hml, hown, hts⟩ (k_isDesk l D dA sa lo al σ μ x) (cwS 1 hts (gdS w_1_127 w_1_128 w_1_1 w_1_129) rfl rfl rfl (by decide +kernel) ⟨Nat.le_of_ble_eq_true rfl, Nat.le_of_ble_eq_true rfl⟩) ⟨iv_bl, fun U hU hW => ⟨rfl, iv_use hI hwd hS hU hW⟩⟩ rfl rfl hl.1 rfl (lv_room (Nat.le_of_ble_eq_true rfl)) dX0_fails_1 ⟨Nat.le_of_ble_eq_true rfl, Nat.le_of_ble_eq_true rfl⟩) (fun r_1 e_1 => ?_)
  subst e_1
  refine lv_if_eq (tgt := 17) hx hb dX0_fails_4 (by decide) (fun c_4 => ?_) (fun c_4 => ?_)
  · have c_4 := bp_0.mp c_4
    refine lv_iconst (v := 0) hx hb dX0_fails_17 (by decide) ?_
    exact W.zret (v := 0) hx hb hr rfl (fun t ht hW => ⟨⟨0, σ, rfl, (by unfold cFails; simp only [if_neg c_4]), iv_give ht hI⟩, hS.F ht⟩) hS.2.2 dX0_fails_18
  · have c_4 := bp_n0.mp c_4
    refine lv_aload_n hx hb dX0_fails_7 rfl (lv_at hl 0 rfl) ?_
    refine sx_get (ci := 0) (C := RX0) (T := TX0) (N := 10) (v := .ref (al 7 3)) hx hb hts inX0 hown hK (c0_at hI) rfl 3 (by decide) (hts _ w_1_62) rfl rfl dX0_fails_8 ?_
    refine lv_iload_n hx hb dX0_fails_11 rfl (lv_at hl 1 rfl) ?_
    refine sx_zald hx hb hK (c7_3_at hI) 2 rfl (desk_vp c_4) dX0_fails_12 ?_
    refine lv_iload_n hx hb dX0_fails_13 rfl (lv_at hl 2 rfl) ?_
    refine lv_icmp_ne (tgt := 19) hx hb dX0_fails_14 (by decide) (fun c_14 => ?_) (fun c_14 => ?_)
    · refine lv_aload_n hx hb dX0_fails_19 rfl (lv_at hl 0 rfl) ?_
      refine sx_get (ci := 0) (C := RX0) (T := TX0) (N := 10) (v := .ref (al 7 3)) hx hb hts inX0 hown hK (c0_at hI) rfl 3 (by decide) (hts _ w_1_62) rfl rfl dX0_fails_20 ?_
      refine lv_iload_n hx hb dX0_fails_23 rfl (lv_at hl 1 rfl) ?_
      refine lv_iload_n hx hb dX0_fails_24 rfl (lv_at hl 2 rfl) ?_
      refine sx_zast hx hb hK hS (c7_3_at hI) (c7_3_lo hI) 2 rfl (desk_vp c_4) dX0_fails_25 (fun H locs hq => ?_)
      rw [(show vp_nar .boolean on = on by rcases hon with rfl | rfl <;> rfl)] at hq
      have hI := c7_3_uI (f := x.toNatClampNeg) (v := on) hI hq
      have hS := hq.2.2.2
      refine lv_iconst (v := 1) hx hb dX0_fails_26 (by decide) ?_
      exact W.zret (v := 1) hx hb hr rfl (fun t ht hW => ⟨⟨1, uI σ 7 3 x.toNatClampNeg on, rfl, (by unfold cFails; simp only [if_pos c_4, if_neg c_14]), iv_give ht hI⟩, hS.F ht⟩) hS.2.2 dX0_fails_27
    · refine lv_iconst (v := 0) hx hb dX0_fails_17 (by decide) ?_
      exact W.zret (v := 0) hx hb hr rfl (fun t ht hW => ⟨⟨0, σ, rfl, (by unfold cFails; simp only [if_pos c_4, if_pos c_14]), iv_give ht hI⟩, hS.F ht⟩) hS.2.2 dX0_fails_18

set_option maxHeartbeats 4000000 in
set_option maxRecDepth 100000 in
theorem k_count (l : Launch) (D : va_G) (dA : Nat → ClassId) (sa : Nat → Nat) (lo : Nat) (al : Nat → Nat → Nat) (σ μ : CS) (x : Int32) : Met l yX0_count wsX0_count ({ frames := 1, cells := 0, slots := 0, locals := 30 }) (va_Pc [.ref (al 0 0), .int x] (ivP D dA sa lo al σ μ)) (vp_Si (fun r => r = cCount σ x)) 0 0 (fun _ => False) := by
  refine Met.ofW (cc := cX0_count) (maxL := 2) (ret := some .int) (by decide) rfl ?_
  intro p e s m args below meth c s₁ B hml hv
  obtain ⟨rfl, hI, hwd⟩ := hv
  have hx := B.exec
  have hb := B.bytes
  have hr := B.returns
  have hts : ∀ w ∈ WSall, w.before _ s = true := fun w h => atoms_spec (ws := wsX0_count) B.pre w (List.mem_cons_of_mem _ h)
  have hown : s.vm.findClass RX0 = some m.cls := findClass_of_methodNamed B.named
  have hlocks := B.notSynchronized
  have hK := hwd.1
  have hS : va_S (fun q => lo ≤ q) s.heap s.heap [] := va_S.rf
  have hl := lv_entry ([.ref (al 0 0), .int x]) (n := 2) (Nat.le_of_ble_eq_true rfl)
  rw [lg_entry_eq]
  generalize (lg_sl ([.ref (al 0 0), .int x]) ++ List.replicate (2 - (lg_sl ([.ref (al 0 0), .int x])).length) Slot.unset).toArray = ls at hl ⊢
  have hl : lv_has ls 2 [(0, .ref (al 0 0)), (1, .int x)] := hl
  refine lv_iload_n hx hb dX0_count_0 rfl (lv_at hl 1 rfl) ?_
  refine lv_bipush (v := 10) hx hb dX0_count_1 (by decide) ?_
  refine lv_icmp_lt (tgt := 26) hx hb dX0_count_3 (by decide) (fun c_3 => ?_) (fun c_3 => ?_)
  · refine lv_iload_n hx hb dX0_count_26 rfl (lv_at hl 1 rfl) ?_
    by_cases c_27_0 : x = 0
    · refine lv_tableIn (tgt := 56) hx hb dX0_count_27 (by rw [c_27_0]; decide) (by rw [c_27_0]; decide) (by rw [c_27_0]; rfl) (by decide) ?_
      refine lv_aload_n hx hb dX0_count_56 rfl (lv_at hl 0 rfl) ?_
      refine sx_get (ci := 0) (C := RX0) (T := TX0) (N := 10) (v := .int (fI σ 0 0 6)) hx hb hts inX0 hown hK (c0_at hI) rfl 6 (by decide) (hts _ w_1_65) rfl rfl dX0_count_57 ?_
      exact W.iret (v := fI σ 0 0 6) hx hb hr (fun t ht hW => ⟨_, rfl, (by unfold cCount; simp only [if_neg (show ¬ (¬ x < 10 ∧ pDesk (x - 10)) from fun h => h.1 c_3), if_pos c_27_0]), ht⟩) (fun q h => by cases h) dX0_count_60
    by_cases c_27_1 : x = 1
    · refine lv_tableIn (tgt := 61) hx hb dX0_count_27 (by rw [c_27_1]; decide) (by rw [c_27_1]; decide) (by rw [c_27_1]; rfl) (by decide) ?_
      refine lv_aload_n hx hb dX0_count_61 rfl (lv_at hl 0 rfl) ?_
      refine sx_get (ci := 0) (C := RX0) (T := TX0) (N := 10) (v := .int (fI σ 0 0 7)) hx hb hts inX0 hown hK (c0_at hI) rfl 7 (by decide) (hts _ w_1_66) rfl rfl dX0_count_62 ?_
      exact W.iret (v := fI σ 0 0 7) hx hb hr (fun t ht hW => ⟨_, rfl, (by unfold cCount; simp only [if_neg (show ¬ (¬ x < 10 ∧ pDesk (x - 10)) from fun h => h.1 c_3), if_neg c_27_0, if_pos c_27_1]), ht⟩) (fun q h => by cases h) dX0_count_65
    by_cases c_27_2 : x = 2
    · refine lv_tableIn (tgt := 66) hx hb dX0_count_27 (by rw [c_27_2]; decide) (by rw [c_27_2]; decide) (by rw [c_27_2]; rfl) (by decide) ?_
      refine lv_aload_n hx hb dX0_count_66 rfl (lv_at hl 0 rfl) ?_
      refine sx_get (ci := 0) (C := RX0) (T := TX0) (N := 10) (v := .int (fI σ 0 0 8)) hx hb hts inX0 hown hK (c0_at hI) rfl 8 (by decide) (hts _ w_1_67) rfl rfl dX0_count_67 ?_
      exact W.iret (v := fI σ 0 0 8) hx hb hr (fun t ht hW => ⟨_, rfl, (by unfold cCount; simp only [if_neg (show ¬ (¬ x < 10 ∧ pDesk (x - 10)) from fun h => h.1 c_3), if_neg c_27_0, if_neg c_27_1, if_pos c_27_2]), ht⟩) (fun q h => by cases h) dX0_count_70
    by_cases c_27_3 : x = 3
    · refine lv_tableIn (tgt := 71) hx hb dX0_count_27 (by rw [c_27_3]; decide) (by rw [c_27_3]; decide) (by rw [c_27_3]; rfl) (by decide) ?_
      refine lv_aload_n hx hb dX0_count_71 rfl (lv_at hl 0 rfl) ?_
      refine sx_get (ci := 0) (C := RX0) (T := TX0) (N := 10) (v := .int (fI σ 0 0 9)) hx hb hts inX0 hown hK (c0_at hI) rfl 9 (by decide) (hts _ w_1_68) rfl rfl dX0_count_72 ?_
      exact W.iret (v := fI σ 0 0 9) hx hb hr (fun t ht hW => ⟨_, rfl, (by unfold cCount; simp only [if_neg (show ¬ (¬ x < 10 ∧ pDesk (x - 10)) from fun h => h.1 c_3), if_neg c_27_0, if_neg c_27_1, if_neg c_27_2, if_pos c_27_3]), ht⟩) (fun q h => by cases h) dX0_count_75
    refine lv_tableOut (tgt := 76) hx hb dX0_count_27 (sw_out3 c_27_0 c_27_1 c_27_2 c_27_3) (by decide) ?_
    refine lv_iconst (v := (-1)) hx hb dX0_count_76 (by decide) ?_
    exact W.iret (v := (-1)) hx hb hr (fun t ht hW => ⟨_, rfl, (by unfold cCount; simp only [if_neg (show ¬ (¬ x < 10 ∧ pDesk (x - 10)) from fun h => h.1 c_3), if_neg c_27_0, if_neg c_27_1, if_neg c_27_2, if_neg c_27_3]), ht⟩) (fun q h => by cases h) dX0_count_77
  · refine lv_iload_n hx hb dX0_count_6 rfl (lv_at hl 1 rfl) ?_
    refine lv_bipush (v := 10) hx hb dX0_count_7 (by decide) ?_
    refine lv_isub hx hb dX0_count_9 ?_
    refine vp_callSi (W.runS (As := [.int (x - 10)]) (rest := []) ⟨hx, hb, hml, hown, hts⟩ (k_isDesk l D dA sa lo al σ μ (x - 10)) (cwS 1 hts (gdS w_1_127 w_1_128 w_1_1 w_1_129) rfl rfl rfl (by decide +kernel) ⟨Nat.le_of_ble_eq_true rfl, Nat.le_of_ble_eq_true rfl⟩) ⟨iv_bl, fun U hU hW => ⟨rfl, iv_use hI hwd hS hU hW⟩⟩ rfl rfl hl.1 rfl (lv_room (Nat.le_of_ble_eq_true rfl)) dX0_count_10 ⟨Nat.le_of_ble_eq_true rfl, Nat.le_of_ble_eq_true rfl⟩) (fun r_10 e_10 => ?_)
    subst e_10
    refine lv_if_eq (tgt := 26) hx hb dX0_count_13 (by decide) (fun c_13 => ?_) (fun c_13 => ?_)
    · have c_13 := bp_0.mp c_13
      refine lv_iload_n hx hb dX0_count_26 rfl (lv_at hl 1 rfl) ?_
      by_cases c_27_0 : x = 0
      · refine lv_tableIn (tgt := 56) hx hb dX0_count_27 (by rw [c_27_0]; decide) (by rw [c_27_0]; decide) (by rw [c_27_0]; rfl) (by decide) ?_
        refine lv_aload_n hx hb dX0_count_56 rfl (lv_at hl 0 rfl) ?_
        refine sx_get (ci := 0) (C := RX0) (T := TX0) (N := 10) (v := .int (fI σ 0 0 6)) hx hb hts inX0 hown hK (c0_at hI) rfl 6 (by decide) (hts _ w_1_65) rfl rfl dX0_count_57 ?_
        exact W.iret (v := fI σ 0 0 6) hx hb hr (fun t ht hW => ⟨_, rfl, (by unfold cCount; simp only [if_neg (show ¬ (¬ x < 10 ∧ pDesk (x - 10)) from fun h => c_13 h.2), if_pos c_27_0]), ht⟩) (fun q h => by cases h) dX0_count_60
      by_cases c_27_1 : x = 1
      · refine lv_tableIn (tgt := 61) hx hb dX0_count_27 (by rw [c_27_1]; decide) (by rw [c_27_1]; decide) (by rw [c_27_1]; rfl) (by decide) ?_
        refine lv_aload_n hx hb dX0_count_61 rfl (lv_at hl 0 rfl) ?_
        refine sx_get (ci := 0) (C := RX0) (T := TX0) (N := 10) (v := .int (fI σ 0 0 7)) hx hb hts inX0 hown hK (c0_at hI) rfl 7 (by decide) (hts _ w_1_66) rfl rfl dX0_count_62 ?_
        exact W.iret (v := fI σ 0 0 7) hx hb hr (fun t ht hW => ⟨_, rfl, (by unfold cCount; simp only [if_neg (show ¬ (¬ x < 10 ∧ pDesk (x - 10)) from fun h => c_13 h.2), if_neg c_27_0, if_pos c_27_1]), ht⟩) (fun q h => by cases h) dX0_count_65
      by_cases c_27_2 : x = 2
      · refine lv_tableIn (tgt := 66) hx hb dX0_count_27 (by rw [c_27_2]; decide) (by rw [c_27_2]; decide) (by rw [c_27_2]; rfl) (by decide) ?_
        refine lv_aload_n hx hb dX0_count_66 rfl (lv_at hl 0 rfl) ?_
        refine sx_get (ci := 0) (C := RX0) (T := TX0) (N := 10) (v := .int (fI σ 0 0 8)) hx hb hts inX0 hown hK (c0_at hI) rfl 8 (by decide) (hts _ w_1_67) rfl rfl dX0_count_67 ?_
        exact W.iret (v := fI σ 0 0 8) hx hb hr (fun t ht hW => ⟨_, rfl, (by unfold cCount; simp only [if_neg (show ¬ (¬ x < 10 ∧ pDesk (x - 10)) from fun h => c_13 h.2), if_neg c_27_0, if_neg c_27_1, if_pos c_27_2]), ht⟩) (fun q h => by cases h) dX0_count_70
      by_cases c_27_3 : x = 3
      · refine lv_tableIn (tgt := 71) hx hb dX0_count_27 (by rw [c_27_3]; decide) (by rw [c_27_3]; decide) (by rw [c_27_3]; rfl) (by decide) ?_
        refine lv_aload_n hx hb dX0_count_71 rfl (lv_at hl 0 rfl) ?_
        refine sx_get (ci := 0) (C := RX0) (T := TX0) (N := 10) (v := .int (fI σ 0 0 9)) hx hb hts inX0 hown hK (c0_at hI) rfl 9 (by decide) (hts _ w_1_68) rfl rfl dX0_count_72 ?_
        exact W.iret (v := fI σ 0 0 9) hx hb hr (fun t ht hW => ⟨_, rfl, (by unfold cCount; simp only [if_neg (show ¬ (¬ x < 10 ∧ pDesk (x - 10)) from fun h => c_13 h.2), if_neg c_27_0, if_neg c_27_1, if_neg c_27_2, if_pos c_27_3]), ht⟩) (fun q h => by cases h) dX0_count_75
      refine lv_tableOut (tgt := 76) hx hb dX0_count_27 (sw_out3 c_27_0 c_27_1 c_27_2 c_27_3) (by decide) ?_
      refine lv_iconst (v := (-1)) hx hb dX0_count_76 (by decide) ?_
      exact W.iret (v := (-1)) hx hb hr (fun t ht hW => ⟨_, rfl, (by unfold cCount; simp only [if_neg (show ¬ (¬ x < 10 ∧ pDesk (x - 10)) from fun h => c_13 h.2), if_neg c_27_0, if_neg c_27_1, if_neg c_27_2, if_neg c_27_3]), ht⟩) (fun q h => by cases h) dX0_count_77
    · have c_13 := bp_n0.mp c_13
      refine lv_aload_n hx hb dX0_count_16 rfl (lv_at hl 0 rfl) ?_
      refine sx_get (ci := 0) (C := RX0) (T := TX0) (N := 10) (v := .ref (al 7 4)) hx hb hts inX0 hown hK (c0_at hI) rfl 4 (by decide) (hts _ w_1_63) rfl rfl dX0_count_17 ?_
      refine lv_iload_n hx hb dX0_count_20 rfl (lv_at hl 1 rfl) ?_
      refine lv_bipush (v := 10) hx hb dX0_count_21 (by decide) ?_
      refine lv_isub hx hb dX0_count_23 ?_
      refine sx_iald hx hb hK (c7_4_at hI) 0 rfl (desk_vp c_13) dX0_count_24 ?_
      exact W.iret (v := fI σ 7 4 (x - 10).toNatClampNeg) hx hb hr (fun t ht hW => ⟨_, rfl, (by unfold cCount; simp only [if_pos (And.intro c_3 c_13)]), ht⟩) (fun q h => by cases h) dX0_count_25

set_option maxHeartbeats 4000000 in
set_option maxRecDepth 100000 in
theorem k_free (l : Launch) (D : va_G) (dA : Nat → ClassId) (sa : Nat → Nat) (lo : Nat) (al : Nat → Nat → Nat) (σ μ : CS) (x : Int32) (L : Nat → List Nat) (hL : ∀ h, h < 8 → Ch σ (fR σ 7 1 h) (L h)) : Met l yX0_free wsX0_free ({ frames := 4, cells := 0, slots := 0, locals := 130 }) (va_Pc [.ref (al 0 0), .int x] (ivP D dA sa lo al σ μ)) (vp_Sl (fun r => r = cFree σ L x)) 0 0 (fun _ => False) := by
  refine Met.ofW (cc := cX0_free) (maxL := 2) (ret := some .long) (by decide) rfl ?_
  intro p e s m args below meth c s₁ B hml hv
  obtain ⟨rfl, hI, hwd⟩ := hv
  have hx := B.exec
  have hb := B.bytes
  have hr := B.returns
  have hts : ∀ w ∈ WSall, w.before _ s = true := fun w h => atoms_spec (ws := wsX0_free) B.pre w (List.mem_cons_of_mem _ h)
  have hown : s.vm.findClass RX0 = some m.cls := findClass_of_methodNamed B.named
  have hlocks := B.notSynchronized
  have hK := hwd.1
  have hS : va_S (fun q => lo ≤ q) s.heap s.heap [] := va_S.rf
  have hl := lv_entry ([.ref (al 0 0), .int x]) (n := 2) (Nat.le_of_ble_eq_true rfl)
  rw [lg_entry_eq]
  generalize (lg_sl ([.ref (al 0 0), .int x]) ++ List.replicate (2 - (lg_sl ([.ref (al 0 0), .int x])).length) Slot.unset).toArray = ls at hl ⊢
  have hl : lv_has ls 2 [(0, .ref (al 0 0)), (1, .int x)] := hl
  refine lv_iload_n hx hb dX0_free_0 rfl (lv_at hl 1 rfl) ?_
  refine vp_callSi (W.runS (As := [.int x]) (rest := []) ⟨hx, hb, hml, hown, hts⟩ (k_isHolder l D dA sa lo al σ μ x) (cwS 1 hts (gdS w_1_139 w_1_140 w_1_1 w_1_141) rfl rfl rfl (by decide +kernel) ⟨Nat.le_of_ble_eq_true rfl, Nat.le_of_ble_eq_true rfl⟩) ⟨iv_bl, fun U hU hW => ⟨rfl, iv_use hI hwd hS hU hW⟩⟩ rfl rfl hl.1 rfl (lv_room (Nat.le_of_ble_eq_true rfl)) dX0_free_1 ⟨Nat.le_of_ble_eq_true rfl, Nat.le_of_ble_eq_true rfl⟩) (fun r_1 e_1 => ?_)
  subst e_1
  refine lv_if_eq (tgt := 15) hx hb dX0_free_4 (by decide) (fun c_4 => ?_) (fun c_4 => ?_)
  · have c_4 := bp_0.mp c_4
    refine lv_ldc2 (v := (-1)) hx hb hown (hts _ w_1_166) dX0_free_15 ?_
    exact W.lret (v := (-1)) hx hb hr (fun t ht hW => ⟨_, rfl, (by unfold cFree; rw [if_neg c_4]), ht⟩) (fun q h => by cases h) dX0_free_18
  · have c_4 := bp_n0.mp c_4
    obtain ⟨h, hh, rfl⟩ := hold_in c_4
    have hl : lv_has ls 2 [(0, .ref (al 0 0)), (1, .int (nI h))] := hl
    refine lv_aload_n hx hb dX0_free_7 rfl (lv_at hl 0 rfl) ?_
    refine lv_iload_n hx hb dX0_free_8 rfl (lv_at hl 1 rfl) ?_
    refine vp_callSl (W.runV (As := [.int (nI h)]) (rest := []) ⟨hx, hb, hml, hown, hts⟩ (k_mayCoverTogether l D dA sa lo al σ μ h hh (L h) (hL h hh)) (cwV 1 hts (gdV w_1_142 w_1_144 wp_2 w_1_1 w_1_145) rfl rfl rfl (by decide +kernel) ⟨Nat.le_of_ble_eq_true rfl, Nat.le_of_ble_eq_true rfl⟩) ⟨iv_bl, sx_recv hK (c0_at hI) rfl, fun U hU hW => ⟨rfl, iv_use hI hwd hS hU hW⟩⟩ rfl rfl hl.1 rfl (lv_room (Nat.le_of_ble_eq_true rfl)) dX0_free_9 ⟨Nat.le_of_ble_eq_true rfl, Nat.le_of_ble_eq_true rfl⟩) (fun r_9 e_9 => ?_)
    subst e_9
    refine lv_goto (tgt := 18) hx hb dX0_free_12 (by decide) ?_
    exact W.lret (v := lMin (sumMay σ (L h) 0) 2000000000) hx hb hr (fun t ht hW => ⟨_, rfl, (by unfold cFree; rw [if_pos c_4, nI_clamp (by omega)]), ht⟩) (fun q h => by cases h) dX0_free_18

set_option maxHeartbeats 4000000 in
set_option maxRecDepth 100000 in
theorem k_finish (l : Launch) (D : va_G) (dA : Nat → ClassId) (sa : Nat → Nat) (lo : Nat) (al : Nat → Nat → Nat) (σ μ : CS) (j : Nat) (hj : j < nR σ) (how : Int32) : Met l yX0_finish wsX0_finish ({ frames := 0, cells := 0, slots := 0, locals := 0 }) (va_Pc [.ref (al 0 0), .ref (al 4 j), .int how] (ivP D dA sa lo al σ μ)) (va_Qv (fun u => u = rFin σ j how) (ivB D dA lo al μ) (fun q => lo ≤ q)) 0 0 (fun q => lo ≤ q) := by
  refine Met.ofW (cc := cX0_finish) (maxL := 3) (ret := none) (by decide) rfl ?_
  intro p e s m args below meth c s₁ B hml hv
  obtain ⟨rfl, hI, hwd⟩ := hv
  have hx := B.exec
  have hb := B.bytes
  have hr := B.returns
  have hts : ∀ w ∈ WSall, w.before _ s = true := fun w h => atoms_spec (ws := wsX0_finish) B.pre w (List.mem_cons_of_mem _ h)
  have hown : s.vm.findClass RX0 = some m.cls := findClass_of_methodNamed B.named
  have hlocks := B.notSynchronized
  have hK := hwd.1
  have hS : va_S (fun q => lo ≤ q) s.heap s.heap [] := va_S.rf
  have hl := lv_entry ([.ref (al 0 0), .ref (al 4 j), .int how]) (n := 3) (Nat.le_of_ble_eq_true rfl)
  rw [lg_entry_eq]
  generalize (lg_sl ([.ref (al 0 0), .ref (al 4 j), .int how]) ++ List.replicate (3 - (lg_sl ([.ref (al 0 0), .ref (al 4 j), .int how])).length) Slot.unset).toArray = ls at hl ⊢
  have hl : lv_has ls 3 [(0, .ref (al 0 0)), (1, .ref (al 4 j)), (2, .int how)] := hl
  refine lv_aload_n hx hb dX0_finish_0 rfl (lv_at hl 1 rfl) ?_
  refine lv_iload_n hx hb dX0_finish_1 rfl (lv_at hl 2 rfl) ?_
  refine sx_putN (ci := 4) (v := .int how) (ty := .int) (C := RX4) (T := TX4) (N := 6) hx hb hts inX4 tyX4 okX4 nmX4 hown hK hS (c4_at hI hj) (c4_lo hI hj) rfl 5 (by decide) (va_Nw.use rfl (wd_n hwd (.fieldLinkNest "GuaranteeBook" 123 "GuaranteeBook$Reservation" "state" "I" "GuaranteeBook") (List.mem_of_getElem? (i := 5) rfl))) rfl rfl (by decide +kernel) rfl rfl (Nat.le_of_ble_eq_true rfl) dX0_finish_2 (fun H locs hq => ?_)
  have hI := c4_uI (f := 5) (v := how) hI hj rfl hq
  have hS := hq.2.2.2
  refine lv_aload_n hx hb dX0_finish_5 rfl (lv_at hl 0 rfl) ?_
  refine lv_dup hx hb dX0_finish_6 rfl ?_
  refine sx_get (ci := 0) (C := RX0) (T := TX0) (N := 10) (v := .int (fI σ 0 0 8)) hx hb hts inX0 hown hK (c0_at hI) rfl 8 (by decide) (hts _ w_1_67) rfl rfl dX0_finish_7 ?_
  refine lv_iconst (v := 1) hx hb dX0_finish_10 (by decide) ?_
  refine lv_isub hx hb dX0_finish_11 ?_
  refine sx_put (ci := 0) (v := .int ((fI σ 0 0 8) - 1)) (ty := .int) (C := RX0) (T := TX0) (N := 10) hx hb hts inX0 tyX0 okX0 nmX0 hown hK hS (c0_at hI) (c0_lo hI) rfl 8 (by decide) (hts _ w_1_67) rfl rfl (by decide +kernel) rfl rfl (Nat.le_of_ble_eq_true rfl) dX0_finish_12 (fun H locs hq => ?_)
  have hI := c0_uI (f := 8) (v := (fI σ 0 0 8) - 1) hI rfl hq
  have hS := hq.2.2.2
  exact W.vret hx hb hr (fun t ht hW => ⟨⟨uI (uI σ 4 j 5 how) 0 0 8 ((fI σ 0 0 8) - 1), rfl, rfl, iv_give ht hI⟩, hS.F ht⟩) hS.2.2 dX0_finish_15

set_option maxHeartbeats 4000000 in
set_option maxRecDepth 100000 in
theorem k_close (l : Launch) (D : va_G) (dA : Nat → ClassId) (sa : Nat → Nat) (lo : Nat) (al : Nat → Nat → Nat) (σ μ : CS) (x : Int32) (n r : Nat) (hw : WFc σ n r) : Met l yX0_close wsX0_close ({ frames := 4, cells := 0, slots := 0, locals := 130 }) (va_Pc [.ref (al 0 0), .int x] (ivP D dA sa lo al σ μ)) (va_Qi (fun r u => (r, u) = cClose σ n x) (ivB D dA lo al μ) (fun q => lo ≤ q)) 0 0 (fun q => lo ≤ q) := by
  refine Met.ofW (cc := cX0_close) (maxL := 3) (ret := some .boolean) (by decide) rfl ?_
  intro p e s m args below meth c s₁ B hml hv
  obtain ⟨rfl, hI, hwd⟩ := hv
  have hx := B.exec
  have hb := B.bytes
  have hr := B.returns
  have hts : ∀ w ∈ WSall, w.before _ s = true := fun w h => atoms_spec (ws := wsX0_close) B.pre w (List.mem_cons_of_mem _ h)
  have hown : s.vm.findClass RX0 = some m.cls := findClass_of_methodNamed B.named
  have hlocks := B.notSynchronized
  have hK := hwd.1
  have hS : va_S (fun q => lo ≤ q) s.heap s.heap [] := va_S.rf
  have hl := lv_entry ([.ref (al 0 0), .int x]) (n := 3) (Nat.le_of_ble_eq_true rfl)
  rw [lg_entry_eq]
  generalize (lg_sl ([.ref (al 0 0), .int x]) ++ List.replicate (3 - (lg_sl ([.ref (al 0 0), .int x])).length) Slot.unset).toArray = ls at hl ⊢
  have hl : lv_has ls 3 [(0, .ref (al 0 0)), (1, .int x)] := hl
  obtain ⟨hnG, hnR, hn20, hr60, hgc, hrc, hdr, hgs, hrs, hho, hpa⟩ := id hw
  refine lv_aload_n hx hb dX0_close_0 rfl (lv_at hl 0 rfl) ?_
  refine lv_iload_n hx hb dX0_close_1 rfl (lv_at hl 1 rfl) ?_
  refine va_csq (W.runV (As := [.int x]) (rest := []) ⟨hx, hb, hml, hown, hts⟩ (k_guaranteeNumbered l D dA sa lo al σ μ x n hgc hn20 hgs) (cwV 1 hts (gdV w_1_94 w_1_96 wp_0 w_1_1 w_1_97) rfl rfl rfl (by decide +kernel) ⟨Nat.le_of_ble_eq_true rfl, Nat.le_of_ble_eq_true rfl⟩) ⟨iv_bl, sx_recv hK (c0_at hI) rfl, fun U hU hW => ⟨rfl, iv_use hI hwd hS hU hW⟩⟩ rfl rfl hl.1 rfl (lv_room (Nat.le_of_ble_eq_true rfl)) dX0_close_2 ⟨Nat.le_of_ble_eq_true rfl, Nat.le_of_ble_eq_true rfl⟩) (fun r_2 e_2 => ?_)
  rcases e_2 with ⟨i_2, hi_2, hxi_2, rfl⟩ | ⟨hxi_2, rfl⟩
  · have hix := gIx_some hi_2 (by omega) hxi_2
    have hbi_2 : i_2 < nG σ := (by rw [hnG]; exact hi_2)
    refine W.eq (g2 := F0 m 5 ls (.ref (al 1 i_2) :: [])) rfl ?_
    refine lv_astore_n (lv' := [(2, .ref (al 1 i_2)), (0, .ref (al 0 0)), (1, .int x)]) hx hb dX0_close_5 rfl hl (by decide) rfl (fun ls hl => ?_)
    refine lv_aload_n hx hb dX0_close_6 rfl (lv_at hl 0 rfl) ?_
    refine lv_ifnull hx hb dX0_close_7 ?_
    refine lv_aload_n hx hb dX0_close_10 rfl (lv_at hl 0 rfl) ?_
    refine sx_getN (ci := 1) (C := RX1) (T := TX1) (N := 11) (v := .int (fI σ 1 i_2 9)) hx hb hts inX1 hown hK (c1_at hI hbi_2) rfl 9 (by decide) (va_Nw.use rfl (wd_n hwd (.fieldLinkNest "GuaranteeBook" 149 "GuaranteeBook$Guarantee" "closed" "Z" "GuaranteeBook") (List.mem_of_getElem? (i := 19) rfl))) rfl rfl dX0_close_11 ?_
    refine lv_if_eq (tgt := 19) hx hb dX0_close_14 (by decide) (fun c_14 => ?_) (fun c_14 => ?_)
    · refine lv_aload_n hx hb dX0_close_19 rfl (lv_at hl 0 rfl) ?_
      refine lv_aload_n hx hb dX0_close_20 rfl (lv_at hl 1 rfl) ?_
      refine sx_get (ci := 0) (C := RX0) (T := TX0) (N := 10) (v := .int (fI σ 0 0 9)) hx hb hts inX0 hown hK (c0_at hI) rfl 9 (by decide) (hts _ w_1_68) rfl rfl dX0_close_21 ?_
      refine va_callv (va_runV (As := [.int (fI σ 0 0 9)]) (rest := []) ⟨hx, hb, hml, hown, hts⟩ (k_shut l D dA sa lo al σ μ i_2 hbi_2 (fI σ 0 0 9)) (cwV 1 hts (gdV w_1_106 w_1_107 w_1_108 w_1_9 w_1_109) rfl rfl rfl (by decide +kernel) ⟨Nat.le_of_ble_eq_true rfl, Nat.le_of_ble_eq_true rfl⟩) ⟨iv_bl, sx_recv hK (c1_at hI hbi_2) rfl, fun U hU hW => ⟨rfl, iv_use hI hwd hS hU hW⟩⟩ rfl rfl hl.1 rfl (lv_room (Nat.le_of_ble_eq_true rfl)) dX0_close_24 ⟨Nat.le_of_ble_eq_true rfl, Nat.le_of_ble_eq_true rfl⟩) hS (fun q _ h => h) (fun q h => h) (fun u9 T9 H1 locs ht9 hvm9 e_24 hB9 hz9 hk9 hS => ?_)
      have hI := iv_take ht9 hB9
      clear hB9 hk9
      obtain rfl := e_24
      refine lv_iconst (v := 1) hx hb dX0_close_27 (by decide) ?_
      exact W.zret (v := 1) hx hb hr rfl (fun t ht hW => ⟨⟨1, gShut σ i_2 (fI σ 0 0 9), rfl, (by unfold cClose; rw [hix]; simp only [if_pos c_14]), iv_give ht hI⟩, hS.F ht⟩) hS.2.2 dX0_close_28
    · refine lv_iconst (v := 0) hx hb dX0_close_17 (by decide) ?_
      exact W.zret (v := 0) hx hb hr rfl (fun t ht hW => ⟨⟨0, σ, rfl, (by unfold cClose; rw [hix]; simp only [if_neg c_14]), iv_give ht hI⟩, hS.F ht⟩) hS.2.2 dX0_close_18
  · have hix := gIx_none hxi_2
    refine W.eq (g2 := F0 m 5 ls (.null :: [])) rfl ?_
    refine lv_astore_nN (lv' := [(2, .null), (0, .ref (al 0 0)), (1, .int x)]) hx hb dX0_close_5 rfl hl (by decide) rfl (fun ls hl => ?_)
    refine lv_aload_nN hx hb dX0_close_6 rfl (lv_at hl 0 rfl) ?_
    refine lv_ifnullN (tgt := 17) hx hb dX0_close_7 (by decide) ?_
    refine lv_iconst (v := 0) hx hb dX0_close_17 (by decide) ?_
    exact W.zret (v := 0) hx hb hr rfl (fun t ht hW => ⟨⟨0, σ, rfl, (by unfold cClose; rw [hix]), iv_give ht hI⟩, hS.F ht⟩) hS.2.2 dX0_close_18
end
section
set_option maxHeartbeats 4000000 in
set_option maxRecDepth 100000 in
theorem k_draftCovers (l : Launch) (D : va_G) (dA : Nat → ClassId) (sa : Nat → Nat) (lo : Nat) (al : Nat → Nat → Nat) (σ μ : CS) (r : Nat) (hrn : r < nR σ) (hd : fR σ 0 0 5 = some r) (h : Nat) (hh : h < 8) (L : List Nat) (hc : Ch σ (fR σ 7 1 h) L) (x : Int64) : Met l yX0_draftCovers wsX0_draftCovers ({ frames := 3, cells := 0, slots := 0, locals := 90 }) (va_Pc [.ref (al 0 0), .int (nI h), .long x] (ivP D dA sa lo al σ μ)) (va_Qi (fun z u => (u, z) = ((dLay (rBeg σ r (nI h) x) r L x 0).1, b2i (dLay (rBeg σ r (nI h) x) r L x 0).2)) (ivB D dA lo al μ) (fun q => lo ≤ q)) 0 0 (fun q => lo ≤ q) := by
  refine Met.ofW (cc := cX0_draftCovers) (maxL := 9) (ret := some .boolean) (by decide) rfl ?_
  intro p e s m args below meth c s₁ B hml hv
  obtain ⟨rfl, hI, hwd⟩ := hv
  have hx := B.exec
  have hb := B.bytes
  have hr := B.returns
  have hts : ∀ w ∈ WSall, w.before _ s = true := fun w h => atoms_spec (ws := wsX0_draftCovers) B.pre w (List.mem_cons_of_mem _ h)
  have hown : s.vm.findClass RX0 = some m.cls := findClass_of_methodNamed B.named
  have hlocks := B.notSynchronized
  have hK := hwd.1
  have hS : va_S (fun q => lo ≤ q) s.heap s.heap [] := va_S.rf
  have hl := lv_entry ([.ref (al 0 0), .int (nI h), .long x]) (n := 9) (Nat.le_of_ble_eq_true rfl)
  rw [lg_entry_eq]
  generalize (lg_sl ([.ref (al 0 0), .int (nI h), .long x]) ++ List.replicate (9 - (lg_sl ([.ref (al 0 0), .int (nI h), .long x])).length) Slot.unset).toArray = ls at hl ⊢
  have hl : lv_has ls 9 [(0, .ref (al 0 0)), (1, .int (nI h)), (2, .long x)] := hl
  have hch8 : (nI h).toNatClampNeg = h := nI_clamp (by omega)
  refine lv_aload_n hx hb dX0_draftCovers_0 rfl (lv_at hl 0 rfl) ?_
  refine sx_get (ci := 0) (C := RX0) (T := TX0) (N := 10) (v := .ref (al 4 r)) hx hb hts inX0 hown hK (c0_at hI) rfl 5 (by decide) (hts _ w_1_64) rfl (congrArg (fun (z : Option Nat) => some (va_rf (Option.map (al 4) z))) hd) dX0_draftCovers_1 ?_
  refine lv_iload_n hx hb dX0_draftCovers_4 rfl (lv_at hl 1 rfl) ?_
  refine lv_lload_n hx hb dX0_draftCovers_5 rfl (lv_at hl 2 rfl) ?_
  refine va_callv (va_runV (As := [.int (nI h), .long x]) (rest := []) ⟨hx, hb, hml, hown, hts⟩ (k_beginFor l D dA sa lo al σ μ r hrn (nI h) x) (cwV 2 hts (gdV w_2_132 w_2_133 w_2_134 w_1_2 w_2_135) rfl rfl rfl (by decide +kernel) ⟨Nat.le_of_ble_eq_true rfl, Nat.le_of_ble_eq_true rfl⟩) ⟨iv_bl, sx_recv hK (c4_at hI hrn) rfl, fun U hU hW => ⟨rfl, iv_use hI hwd hS hU hW⟩⟩ rfl rfl hl.1 rfl (lv_room (Nat.le_of_ble_eq_true rfl)) dX0_draftCovers_6 ⟨Nat.le_of_ble_eq_true rfl, Nat.le_of_ble_eq_true rfl⟩) hS (fun q _ h => h) (fun q h => h) (fun u9 T9 H1 locs ht9 hvm9 e_6 hB9 hz9 hk9 hS => ?_)
  have hI := iv_take ht9 hB9
  clear hB9 hk9
  obtain rfl := e_6
  refine lv_lload_n hx hb dX0_draftCovers_9 rfl (lv_at hl 2 rfl) ?_
  refine lv_lstore (lv' := [(4, .long x), (0, .ref (al 0 0)), (1, .int (nI h)), (2, .long x)]) hx hb dX0_draftCovers_10 hl (by decide) rfl (fun ls hl => ?_)
  have hr0 : r < nR (rBeg σ r (nI h) x) := hrn
  refine lv_aload_n hx hb dX0_draftCovers_12 rfl (lv_at hl 1 rfl) ?_
  refine sx_get (ci := 0) (C := RX0) (T := TX0) (N := 10) (v := .ref (al 7 1)) hx hb hts inX0 hown hK (c0_at hI) rfl 1 (by decide) (hts _ w_1_60) rfl rfl dX0_draftCovers_13 ?_
  refine lv_iload_n hx hb dX0_draftCovers_16 rfl (lv_at hl 2 rfl) ?_
  refine sx_aldq hx hb hK (c7_1_at hI) 3 rfl (vp_in_nI hh (by decide)) dX0_draftCovers_17 ?_
  rw [hch8]
  refine sx_astore (lv' := [(6, va_rf (Option.map (al 1) (fR (rBeg σ r (nI h) x) 7 1 h))), (4, .long x), (0, .ref (al 0 0)), (1, .int (nI h)), (2, .long x)]) hx hb dX0_draftCovers_18 hl (by decide) rfl (fun ls hl => ?_)
  refine w_loop (hd := 20) (stk := []) (X := Option Nat × List Nat × Int64 × Nat × CS) (fun xx => match xx with | (o, t, w, q, τ) => t.length) (fun xx ls H locs => match xx with | (o, t, w, q, τ) => Inv D dA lo al (τ) μ H ∧ va_S (fun q => lo ≤ q) s.heap H locs ∧ (Ch τ o t ∧ dLay τ r t w q = dLay (rBeg σ r (nI h) x) r L x 0 ∧ fI τ 4 r 2 = nI q ∧ q ≤ 4 ∧ r < nR τ ∧ fR τ 0 0 5 = some r) ∧ lv_has ls 9 [(6, va_rf (o.map (al 1))), (4, .long w), (0, .ref (al 0 0))]) (fun xx ls H locs hk ih => ?_) (fR (rBeg σ r (nI h) x) 7 1 h, L, x, 0, rBeg σ r (nI h) x) ls _ _ ⟨hI, hS, ⟨Ch_of (σ := σ) (σ' := rBeg σ r (nI h) x) rfl rfl L _ hc, rfl, rBeg_n, Nat.zero_le _, hrn, hd⟩, lv_sub hl [0, 1, 2] rfl⟩
  obtain ⟨o, t, w, q, τ⟩ := xx
  obtain ⟨hI, hS, hk, hl⟩ := hk
  cases t with
  | nil =>
    obtain ⟨rfl, hk⟩ := hk
    have hl : lv_has ls 9 [(6, .null), (4, .long w), (0, .ref (al 0 0))] := hl
    obtain ⟨hk, hq9, hq4, hr9, hd9⟩ := hk
    refine lv_aloadN hx hb dX0_draftCovers_20 (lv_at hl 0 rfl) ?_
    refine lv_ifnullN (tgt := 84) hx hb dX0_draftCovers_22 (by decide) ?_
    refine lv_lload hx hb dX0_draftCovers_84 (lv_at hl 1 rfl) ?_
    refine lv_lconst (v := 0) hx hb dX0_draftCovers_86 (by decide) ?_
    refine W.lcmp hx hb dX0_draftCovers_87 ?_
    refine lv_if_ne (tgt := 95) hx hb dX0_draftCovers_88 (by decide) (fun c_88 => ?_) (fun c_88 => ?_)
    · have c_88 : ¬ w = 0 := fun h => c_88 ((lg_cmp_eq _ _).mpr h)
      refine lv_iconst (v := 0) hx hb dX0_draftCovers_95 (by decide) ?_
      exact W.zret (v := 0) hx hb hr rfl (fun t ht hW => ⟨⟨0, τ, rfl, (by rw [dLay] at hk; rw [← hk]; simp [b2i, c_88]), iv_give ht hI⟩, hS.F ht⟩) hS.2.2 dX0_draftCovers_96
    · have c_88 : w = 0 := (lg_cmp_eq _ _).mp c_88
      refine lv_iconst (v := 1) hx hb dX0_draftCovers_91 (by decide) ?_
      refine lv_goto (tgt := 96) hx hb dX0_draftCovers_92 (by decide) ?_
      exact W.zret (v := 1) hx hb hr rfl (fun t ht hW => ⟨⟨1, τ, rfl, (by rw [dLay] at hk; rw [← hk]; simp [b2i, c_88]), iv_give ht hI⟩, hS.F ht⟩) hS.2.2 dX0_draftCovers_96
  | cons g t =>
    obtain ⟨⟨rfl, hg, hch⟩, hk⟩ := hk
    have hl : lv_has ls 9 [(6, .ref (al 1 g)), (4, .long w), (0, .ref (al 0 0))] := hl
    obtain ⟨hk, hq9, hq4, hr9, hd9⟩ := hk
    refine lv_aload hx hb dX0_draftCovers_20 (lv_at hl 0 rfl) ?_
    refine lv_ifnull hx hb dX0_draftCovers_22 ?_
    refine lv_lload hx hb dX0_draftCovers_25 (lv_at hl 1 rfl) ?_
    refine lv_lconst (v := 0) hx hb dX0_draftCovers_27 (by decide) ?_
    refine W.lcmp hx hb dX0_draftCovers_28 ?_
    refine lv_if_le (tgt := 84) hx hb dX0_draftCovers_29 (by decide) (fun c_29 => ?_) (fun c_29 => ?_)
    · have c_29 : w ≤ 0 := (lg_cmp_le _ _).mp c_29
      refine lv_lload hx hb dX0_draftCovers_84 (lv_at hl 1 rfl) ?_
      refine lv_lconst (v := 0) hx hb dX0_draftCovers_86 (by decide) ?_
      refine W.lcmp hx hb dX0_draftCovers_87 ?_
      refine lv_if_ne (tgt := 95) hx hb dX0_draftCovers_88 (by decide) (fun c_88 => ?_) (fun c_88 => ?_)
      · have c_88 : ¬ w = 0 := fun h => c_88 ((lg_cmp_eq _ _).mpr h)
        refine lv_iconst (v := 0) hx hb dX0_draftCovers_95 (by decide) ?_
        exact W.zret (v := 0) hx hb hr rfl (fun t ht hW => ⟨⟨0, τ, rfl, (by rw [dLay, if_pos c_29] at hk; rw [← hk]; simp [b2i, c_88]), iv_give ht hI⟩, hS.F ht⟩) hS.2.2 dX0_draftCovers_96
      · have c_88 : w = 0 := (lg_cmp_eq _ _).mp c_88
        refine lv_iconst (v := 1) hx hb dX0_draftCovers_91 (by decide) ?_
        refine lv_goto (tgt := 96) hx hb dX0_draftCovers_92 (by decide) ?_
        exact W.zret (v := 1) hx hb hr rfl (fun t ht hW => ⟨⟨1, τ, rfl, (by rw [dLay, if_pos c_29] at hk; rw [← hk]; simp [b2i, c_88]), iv_give ht hI⟩, hS.F ht⟩) hS.2.2 dX0_draftCovers_96
    · have c_29 : ¬ w ≤ 0 := fun h => c_29 ((lg_cmp_le _ _).mpr h)
      refine lv_lload hx hb dX0_draftCovers_32 (lv_at hl 1 rfl) ?_
      refine lv_aload hx hb dX0_draftCovers_34 (lv_at hl 0 rfl) ?_
      refine vp_callSl (W.runV (As := []) (rest := [.long w]) ⟨hx, hb, hml, hown, hts⟩ (k_mayCover l D dA sa lo al τ μ g hg ) (cwV 0 hts (gdV w_1_146 w_1_147 w_1_148 w_1_9 w_1_149) rfl rfl rfl (by decide +kernel) ⟨Nat.le_of_ble_eq_true rfl, Nat.le_of_ble_eq_true rfl⟩) ⟨iv_bl, sx_recv hK (c1_at hI hg) rfl, fun U hU hW => ⟨rfl, iv_use hI hwd hS hU hW⟩⟩ rfl rfl hl.1 rfl (lv_room (Nat.le_of_ble_eq_true rfl)) dX0_draftCovers_36 ⟨Nat.le_of_ble_eq_true rfl, Nat.le_of_ble_eq_true rfl⟩) (fun r_36 e_36 => ?_)
      subst e_36
      refine va_mmin_long hx hb (hml.trans hl.1.symm) hown (hts _ w_1_163) (hts _ w_1_164) (hts _ w_1_12) (hts _ wm_min_long) (Nat.le_of_ble_eq_true rfl) (Nat.le_of_ble_eq_true rfl) (Nat.le_of_ble_eq_true rfl) (Nat.le_of_ble_eq_true rfl) dX0_draftCovers_39 ?_
      refine lv_lstore (lv' := [(7, .long (if (gMay τ g) < w then (gMay τ g) else w)), (6, .ref (al 1 g)), (4, .long w), (0, .ref (al 0 0))]) hx hb dX0_draftCovers_42 hl (by decide) rfl (fun ls hl => ?_)
      have hl : lv_has ls 9 [(7, .long (lMin w (gMay τ g))), (6, .ref (al 1 g)), (4, .long w), (0, .ref (al 0 0))] := hl
      refine lv_lload hx hb dX0_draftCovers_44 (lv_at hl 0 rfl) ?_
      refine lv_lconst (v := 0) hx hb dX0_draftCovers_46 (by decide) ?_
      refine W.lcmp hx hb dX0_draftCovers_47 ?_
      refine lv_if_le (tgt := 67) hx hb dX0_draftCovers_48 (by decide) (fun c_48 => ?_) (fun c_48 => ?_)
      · have c_48 : (lMin w (gMay τ g)) ≤ 0 := (lg_cmp_le _ _).mp c_48
        refine lv_lload hx hb dX0_draftCovers_67 (lv_at hl 2 rfl) ?_
        refine lv_lload hx hb dX0_draftCovers_69 (lv_at hl 0 rfl) ?_
        refine lv_lsub hx hb dX0_draftCovers_71 ?_
        refine lv_lstore (lv' := [(4, .long (w - (lMin w (gMay τ g)))), (7, .long (lMin w (gMay τ g))), (6, .ref (al 1 g)), (0, .ref (al 0 0))]) hx hb dX0_draftCovers_72 hl (by decide) rfl (fun ls hl => ?_)
        refine lv_aload hx hb dX0_draftCovers_74 (lv_at hl 2 rfl) ?_
        refine sx_getN (ci := 1) (C := RX1) (T := TX1) (N := 11) (v := va_rf (Option.map (al 1) (fR τ 1 g 10))) hx hb hts inX1 hown hK (c1_at hI hg) rfl 10 (by decide) (va_Nw.use rfl (wd_n hwd (.fieldLinkNest "GuaranteeBook" 175 "GuaranteeBook$Guarantee" "next" "LGuaranteeBook$Guarantee;" "GuaranteeBook") (List.mem_of_getElem? (i := 20) rfl))) rfl rfl dX0_draftCovers_76 ?_
        refine sx_astore (lv' := [(6, va_rf (Option.map (al 1) (fR τ 1 g 10))), (4, .long (w - (lMin w (gMay τ g)))), (7, .long (lMin w (gMay τ g))), (0, .ref (al 0 0))]) hx hb dX0_draftCovers_79 hl (by decide) rfl (fun ls hl => ?_)
        refine lv_goto (tgt := 20) hx hb dX0_draftCovers_81 (by decide) ?_
        exact ih (fR τ 1 g 10, t, w - (lMin w (gMay τ g)), q, τ) ls _ _ (by simp only [List.length_cons]; omega) ⟨hI, hS, ⟨hch, (by rw [dLay, if_neg c_29, if_pos c_48] at hk; exact ⟨hk, hq9, hq4, hr9, hd9⟩)⟩, lv_sub hl [0, 1, 3] rfl⟩
      · have c_48 : ¬ (lMin w (gMay τ g)) ≤ 0 := fun h => c_48 ((lg_cmp_le _ _).mpr h)
        refine lv_aload_n hx hb dX0_draftCovers_51 rfl (lv_at hl 3 rfl) ?_
        refine sx_get (ci := 0) (C := RX0) (T := TX0) (N := 10) (v := .ref (al 4 r)) hx hb hts inX0 hown hK (c0_at hI) rfl 5 (by decide) (hts _ w_1_64) rfl (congrArg (fun (z : Option Nat) => some (va_rf (Option.map (al 4) z))) hd9) dX0_draftCovers_52 ?_
        refine lv_aload hx hb dX0_draftCovers_55 (lv_at hl 1 rfl) ?_
        refine lv_lload hx hb dX0_draftCovers_57 (lv_at hl 0 rfl) ?_
        refine va_calli (va_runV (As := [.ref (al 1 g), .long (lMin w (gMay τ g))]) (rest := []) ⟨hx, hb, hml, hown, hts⟩ (k_addPart l D dA sa lo al τ μ r hr9 g q hg hq9 hq4 (lMin w (gMay τ g))) (cwV 2 hts (gdV w_2_136 w_2_137 w_2_138 w_1_2 w_2_139) rfl rfl rfl (by decide +kernel) ⟨Nat.le_of_ble_eq_true rfl, Nat.le_of_ble_eq_true rfl⟩) ⟨iv_bl, sx_recv hK (c4_at hI hr9) rfl, fun U hU hW => ⟨rfl, iv_use hI hwd hS hU hW⟩⟩ rfl rfl hl.1 rfl (lv_room (Nat.le_of_ble_eq_true rfl)) dX0_draftCovers_59 ⟨Nat.le_of_ble_eq_true rfl, Nat.le_of_ble_eq_true rfl⟩) hS (fun q _ h => h) (fun q h => h) (fun r_59 u9 T9 H1 locs ht9 hvm9 e_59 hB9 hz9 hk9 hS => ?_)
        have hI := iv_take ht9 hB9
        clear hB9 hk9
        have ha := e_59
        by_cases h4 : q < 4
        · obtain ⟨rfl, rfl⟩ := Eq.mp (if_pos h4) ha
          have hr9 : r < nR (rAdd τ r q g (lMin w (gMay τ g))) := hr9
          refine lv_if_ne (tgt := 67) hx hb dX0_draftCovers_62 (by decide) (fun c_62 => ?_) (fun c_62 => ?_)
          · refine lv_lload hx hb dX0_draftCovers_67 (lv_at hl 2 rfl) ?_
            refine lv_lload hx hb dX0_draftCovers_69 (lv_at hl 0 rfl) ?_
            refine lv_lsub hx hb dX0_draftCovers_71 ?_
            refine lv_lstore (lv' := [(4, .long (w - (lMin w (gMay τ g)))), (7, .long (lMin w (gMay τ g))), (6, .ref (al 1 g)), (0, .ref (al 0 0))]) hx hb dX0_draftCovers_72 hl (by decide) rfl (fun ls hl => ?_)
            refine lv_aload hx hb dX0_draftCovers_74 (lv_at hl 2 rfl) ?_
            refine sx_getN (ci := 1) (C := RX1) (T := TX1) (N := 11) (v := va_rf (Option.map (al 1) (fR (rAdd τ r q g (lMin w (gMay τ g))) 1 g 10))) hx hb hts inX1 hown hK (c1_at hI hg) rfl 10 (by decide) (va_Nw.use rfl (wd_n hwd (.fieldLinkNest "GuaranteeBook" 175 "GuaranteeBook$Guarantee" "next" "LGuaranteeBook$Guarantee;" "GuaranteeBook") (List.mem_of_getElem? (i := 20) rfl))) rfl rfl dX0_draftCovers_76 ?_
            refine sx_astore (lv' := [(6, va_rf (Option.map (al 1) (fR (rAdd τ r q g (lMin w (gMay τ g))) 1 g 10))), (4, .long (w - (lMin w (gMay τ g)))), (7, .long (lMin w (gMay τ g))), (0, .ref (al 0 0))]) hx hb dX0_draftCovers_79 hl (by decide) rfl (fun ls hl => ?_)
            refine lv_goto (tgt := 20) hx hb dX0_draftCovers_81 (by decide) ?_
            exact ih (fR (rAdd τ r q g (lMin w (gMay τ g))) 1 g 10, t, w - (lMin w (gMay τ g)), q + 1, rAdd τ r q g (lMin w (gMay τ g))) ls _ _ (by simp only [List.length_cons]; omega) ⟨hI, hS, ⟨(Ch_of (rAdd_R1 (by decide)) rfl t _ hch), (by rw [dLay, if_neg c_29, if_neg c_48, if_pos h4] at hk; exact ⟨hk, rAdd_n, h4, hr9, (by rw [rAdd_R1 (by decide)]; exact hd9)⟩)⟩, lv_sub hl [0, 1, 3] rfl⟩
          · exact absurd c_62 (by decide)
        · obtain ⟨rfl, hu9⟩ := Eq.mp (if_neg h4) ha
          rw [hu9] at hI
          refine lv_if_ne (tgt := 67) hx hb dX0_draftCovers_62 (by decide) (fun c_62 => ?_) (fun c_62 => ?_)
          · exact absurd (by decide) c_62
          · refine lv_iconst (v := 0) hx hb dX0_draftCovers_65 (by decide) ?_
            exact W.zret (v := 0) hx hb hr rfl (fun t ht hW => ⟨⟨0, τ, rfl, (by rw [dLay, if_neg c_29, if_neg c_48, if_neg h4] at hk; rw [← hk]; rfl), iv_give ht hI⟩, hS.F ht⟩) hS.2.2 dX0_draftCovers_66

set_option maxHeartbeats 4000000 in
set_option maxRecDepth 100000 in
theorem k_putLast (l : Launch) (D : va_G) (dA : Nat → ClassId) (sa : Nat → Nat) (lo : Nat) (al : Nat → Nat → Nat) (σ μ : CS) (g h : Nat) (hg : g < nG σ) (hh : h < 8) (ho : fI σ 1 g 1 = nI h) (L : List Nat) (hc : Ch σ (fR σ 7 1 h) L) : Met l yX0_putLast wsX0_putLast ({ frames := 0, cells := 0, slots := 0, locals := 0 }) (va_Pc [.ref (al 0 0), .ref (al 1 g)] (ivP D dA sa lo al σ μ)) (va_Qv (fun u => u = pLast σ h g L) (ivB D dA lo al μ) (fun q => lo ≤ q)) 0 0 (fun q => lo ≤ q) := by
  refine Met.ofW (cc := cX0_putLast) (maxL := 3) (ret := none) (by decide) rfl ?_
  intro p e s m args below meth c s₁ B hml hv
  obtain ⟨rfl, hI, hwd⟩ := hv
  have hx := B.exec
  have hb := B.bytes
  have hr := B.returns
  have hts : ∀ w ∈ WSall, w.before _ s = true := fun w h => atoms_spec (ws := wsX0_putLast) B.pre w (List.mem_cons_of_mem _ h)
  have hown : s.vm.findClass RX0 = some m.cls := findClass_of_methodNamed B.named
  have hlocks := B.notSynchronized
  have hK := hwd.1
  have hS : va_S (fun q => lo ≤ q) s.heap s.heap [] := va_S.rf
  have hl := lv_entry ([.ref (al 0 0), .ref (al 1 g)]) (n := 3) (Nat.le_of_ble_eq_true rfl)
  rw [lg_entry_eq]
  generalize (lg_sl ([.ref (al 0 0), .ref (al 1 g)]) ++ List.replicate (3 - (lg_sl ([.ref (al 0 0), .ref (al 1 g)])).length) Slot.unset).toArray = ls at hl ⊢
  have hl : lv_has ls 3 [(0, .ref (al 0 0)), (1, .ref (al 1 g))] := hl
  have hfi : (fI σ 1 g 1).toNatClampNeg = h := by rw [ho]; exact nI_clamp (by omega)
  have hin : vp_in (fI σ 1 g 1) 8 := by rw [ho]; exact vp_in_nI hh (by decide)
  refine lv_aload_n hx hb dX0_putLast_0 rfl (lv_at hl 0 rfl) ?_
  refine sx_get (ci := 0) (C := RX0) (T := TX0) (N := 10) (v := .ref (al 7 1)) hx hb hts inX0 hown hK (c0_at hI) rfl 1 (by decide) (hts _ w_1_60) rfl rfl dX0_putLast_1 ?_
  refine lv_aload_n hx hb dX0_putLast_4 rfl (lv_at hl 1 rfl) ?_
  refine sx_getN (ci := 1) (C := RX1) (T := TX1) (N := 11) (v := .int (fI σ 1 g 1)) hx hb hts inX1 hown hK (c1_at hI hg) rfl 1 (by decide) (va_Nw.use rfl (wd_n hwd (.fieldLinkNest "GuaranteeBook" 87 "GuaranteeBook$Guarantee" "holder" "I" "GuaranteeBook") (List.mem_of_getElem? (i := 13) rfl))) rfl rfl dX0_putLast_5 ?_
  refine sx_aldq hx hb hK (c7_1_at hI) 3 rfl hin dX0_putLast_8 ?_
  rw [hfi]
  refine sx_astore_n (lv' := [(2, va_rf (Option.map (al 1) (fR σ 7 1 h))), (0, .ref (al 0 0)), (1, .ref (al 1 g))]) hx hb dX0_putLast_9 rfl hl (by decide) rfl (fun ls hl => ?_)
  cases L with
  | nil =>
    have hc : fR σ 7 1 h = none := hc
    rw [hc] at hl
    have hl : lv_has ls 3 [(2, .null), (0, .ref (al 0 0)), (1, .ref (al 1 g))] := hl
    refine lv_aload_nN hx hb dX0_putLast_10 rfl (lv_at hl 0 rfl) ?_
    refine lv_ifnonnullN hx hb dX0_putLast_11 ?_
    refine lv_aload_n hx hb dX0_putLast_14 rfl (lv_at hl 1 rfl) ?_
    refine sx_get (ci := 0) (C := RX0) (T := TX0) (N := 10) (v := .ref (al 7 1)) hx hb hts inX0 hown hK (c0_at hI) rfl 1 (by decide) (hts _ w_1_60) rfl rfl dX0_putLast_15 ?_
    refine lv_aload_n hx hb dX0_putLast_18 rfl (lv_at hl 2 rfl) ?_
    refine sx_getN (ci := 1) (C := RX1) (T := TX1) (N := 11) (v := .int (fI σ 1 g 1)) hx hb hts inX1 hown hK (c1_at hI hg) rfl 1 (by decide) (va_Nw.use rfl (wd_n hwd (.fieldLinkNest "GuaranteeBook" 87 "GuaranteeBook$Guarantee" "holder" "I" "GuaranteeBook") (List.mem_of_getElem? (i := 13) rfl))) rfl rfl dX0_putLast_19 ?_
    refine lv_aload_n hx hb dX0_putLast_22 rfl (lv_at hl 2 rfl) ?_
    refine sx_astq (ci := 1) (r := (RX1, TX1, 11)) hx hb hK hS (c7_1_at hI) (c7_1_lo hI) 3 rfl (c1_at hI hg) rfl hin dX0_putLast_23 (fun H locs hq => ?_)
    rw [hfi] at hq
    have hI := c7_1_uR (f := h) (v := g) hI hq
    have hS := hq.2.2.2
    exact W.vret hx hb hr (fun t ht hW => ⟨⟨uR σ 7 1 h (some g), rfl, rfl, iv_give ht hI⟩, hS.F ht⟩) hS.2.2 dX0_putLast_24
  | cons z0 t0 =>
    obtain ⟨hc, hz0, hc0⟩ := hc
    rw [hc] at hl
    have hl : lv_has ls 3 [(2, .ref (al 1 z0)), (0, .ref (al 0 0)), (1, .ref (al 1 g))] := hl
    refine lv_aload_n hx hb dX0_putLast_10 rfl (lv_at hl 0 rfl) ?_
    refine lv_ifnonnull (tgt := 25) hx hb dX0_putLast_11 (by decide) ?_
    refine w_loopP (hd := 25) (stk := []) (X := Nat × List Nat) (fun xx => match xx with | (z, t) => t.length) (fun xx ls => match xx with | (z, t) => (z < nG σ ∧ Ch σ (fR σ 1 z 10) t ∧ (z :: t).getLast? = (z0 :: t0).getLast?) ∧ lv_has ls 3 [(2, .ref (al 1 z)), (1, .ref (al 1 g)), (0, .ref (al 0 0))]) (fun xx ls hk ih => ?_) (z0, t0) ls ⟨⟨hz0, hc0, rfl⟩, lv_sub hl [0, 2, 1] rfl⟩
    obtain ⟨z, t⟩ := xx
    obtain ⟨⟨hz, hch, hk⟩, hl⟩ := hk
    cases t with
    | nil =>
      have hl : lv_has ls 3 [(2, .ref (al 1 z)), (1, .ref (al 1 g)), (0, .ref (al 0 0))] := hl
      have hch : fR σ 1 z 10 = none := hch
      refine lv_aload_n hx hb dX0_putLast_25 rfl (lv_at hl 0 rfl) ?_
      refine sx_getN (ci := 1) (C := RX1) (T := TX1) (N := 11) (v := .null) hx hb hts inX1 hown hK (c1_at hI hz) rfl 10 (by decide) (va_Nw.use rfl (wd_n hwd (.fieldLinkNest "GuaranteeBook" 175 "GuaranteeBook$Guarantee" "next" "LGuaranteeBook$Guarantee;" "GuaranteeBook") (List.mem_of_getElem? (i := 20) rfl))) rfl (congrArg (fun (z : Option Nat) => some (va_rf (Option.map (al 1) z))) hch) dX0_putLast_26 ?_
      refine lv_ifnullN (tgt := 40) hx hb dX0_putLast_29 (by decide) ?_
      refine lv_aload_n hx hb dX0_putLast_40 rfl (lv_at hl 0 rfl) ?_
      refine lv_aload_n hx hb dX0_putLast_41 rfl (lv_at hl 1 rfl) ?_
      refine sx_putN (ci := 1) (v := .ref (al 1 g)) (ty := .object "GuaranteeBook$Guarantee") (C := RX1) (T := TX1) (N := 11) hx hb hts inX1 tyX1 okX1 nmX1 hown hK hS (c1_at hI hz) (c1_lo hI hz) rfl 10 (by decide) (va_Nw.use rfl (wd_n hwd (.fieldLinkNest "GuaranteeBook" 175 "GuaranteeBook$Guarantee" "next" "LGuaranteeBook$Guarantee;" "GuaranteeBook") (List.mem_of_getElem? (i := 20) rfl))) rfl rfl (by decide +kernel) rfl rfl (Nat.le_of_ble_eq_true rfl) dX0_putLast_42 (fun H locs hq => ?_)
      have hI := c1_uR (f := 10) (v := (some g)) hI hz rfl hq
      have hS := hq.2.2.2
      exact W.vret hx hb hr (fun t ht hW => ⟨⟨uR σ 1 z 10 (some g), rfl, (by unfold pLast; rw [← hk]; rfl), iv_give ht hI⟩, hS.F ht⟩) hS.2.2 dX0_putLast_45
    | cons z2 t =>
      have hl : lv_has ls 3 [(2, .ref (al 1 z)), (1, .ref (al 1 g)), (0, .ref (al 0 0))] := hl
      obtain ⟨hch, hz2, hc2⟩ := hch
      refine lv_aload_n hx hb dX0_putLast_25 rfl (lv_at hl 0 rfl) ?_
      refine sx_getN (ci := 1) (C := RX1) (T := TX1) (N := 11) (v := .ref (al 1 z2)) hx hb hts inX1 hown hK (c1_at hI hz) rfl 10 (by decide) (va_Nw.use rfl (wd_n hwd (.fieldLinkNest "GuaranteeBook" 175 "GuaranteeBook$Guarantee" "next" "LGuaranteeBook$Guarantee;" "GuaranteeBook") (List.mem_of_getElem? (i := 20) rfl))) rfl (congrArg (fun (z : Option Nat) => some (va_rf (Option.map (al 1) z))) hch) dX0_putLast_26 ?_
      refine lv_ifnull hx hb dX0_putLast_29 ?_
      refine lv_aload_n hx hb dX0_putLast_32 rfl (lv_at hl 0 rfl) ?_
      refine sx_getN (ci := 1) (C := RX1) (T := TX1) (N := 11) (v := .ref (al 1 z2)) hx hb hts inX1 hown hK (c1_at hI hz) rfl 10 (by decide) (va_Nw.use rfl (wd_n hwd (.fieldLinkNest "GuaranteeBook" 175 "GuaranteeBook$Guarantee" "next" "LGuaranteeBook$Guarantee;" "GuaranteeBook") (List.mem_of_getElem? (i := 20) rfl))) rfl (congrArg (fun (z : Option Nat) => some (va_rf (Option.map (al 1) z))) hch) dX0_putLast_33 ?_
      refine lv_astore_n (lv' := [(2, .ref (al 1 z2)), (1, .ref (al 1 g)), (0, .ref (al 0 0))]) hx hb dX0_putLast_36 rfl hl (by decide) rfl (fun ls hl => ?_)
      refine lv_goto (tgt := 25) hx hb dX0_putLast_37 (by decide) ?_
      exact ih (z2, t) ls (by simp only [List.length_cons]; omega) ⟨⟨hz2, hc2, (by rw [← hk]; rfl)⟩, lv_sub hl [0, 1, 2] rfl⟩

set_option maxHeartbeats 4000000 in
set_option maxRecDepth 100000 in
theorem k_putFirst (l : Launch) (D : va_G) (dA : Nat → ClassId) (sa : Nat → Nat) (lo : Nat) (al : Nat → Nat → Nat) (σ μ : CS) (g h b : Nat) (hg : g < nG σ) (hh : h < 8) (ho : fI σ 1 g 1 = nI h) (A L : List Nat) (hc : Ch σ (fR σ 7 1 h) (A ++ b :: g :: L)) (hnd : (A ++ b :: g :: L).Nodup) : Met l yX0_putFirst wsX0_putFirst ({ frames := 0, cells := 0, slots := 0, locals := 0 }) (va_Pc [.ref (al 0 0), .ref (al 1 g)] (ivP D dA sa lo al σ μ)) (va_Qv (fun u => u = pFirst σ h b g) (ivB D dA lo al μ) (fun q => lo ≤ q)) 0 0 (fun q => lo ≤ q) := by
  refine Met.ofW (cc := cX0_putFirst) (maxL := 3) (ret := none) (by decide) rfl ?_
  intro p e s m args below meth c s₁ B hml hv
  obtain ⟨rfl, hI, hwd⟩ := hv
  have hx := B.exec
  have hb := B.bytes
  have hr := B.returns
  have hts : ∀ w ∈ WSall, w.before _ s = true := fun w h => atoms_spec (ws := wsX0_putFirst) B.pre w (List.mem_cons_of_mem _ h)
  have hown : s.vm.findClass RX0 = some m.cls := findClass_of_methodNamed B.named
  have hlocks := B.notSynchronized
  have hK := hwd.1
  have hS : va_S (fun q => lo ≤ q) s.heap s.heap [] := va_S.rf
  have hl := lv_entry ([.ref (al 0 0), .ref (al 1 g)]) (n := 3) (Nat.le_of_ble_eq_true rfl)
  rw [lg_entry_eq]
  generalize (lg_sl ([.ref (al 0 0), .ref (al 1 g)]) ++ List.replicate (3 - (lg_sl ([.ref (al 0 0), .ref (al 1 g)])).length) Slot.unset).toArray = ls at hl ⊢
  have hl : lv_has ls 3 [(0, .ref (al 0 0)), (1, .ref (al 1 g))] := hl
  have hfi : (fI σ 1 g 1).toNatClampNeg = h := by rw [ho]; exact nI_clamp (by omega)
  have hin : vp_in (fI σ 1 g 1) 8 := by rw [ho]; exact vp_in_nI hh (by decide)
  refine lv_aload_n hx hb dX0_putFirst_0 rfl (lv_at hl 0 rfl) ?_
  refine sx_get (ci := 0) (C := RX0) (T := TX0) (N := 10) (v := .ref (al 7 1)) hx hb hts inX0 hown hK (c0_at hI) rfl 1 (by decide) (hts _ w_1_60) rfl rfl dX0_putFirst_1 ?_
  refine lv_aload_n hx hb dX0_putFirst_4 rfl (lv_at hl 1 rfl) ?_
  refine sx_getN (ci := 1) (C := RX1) (T := TX1) (N := 11) (v := .int (fI σ 1 g 1)) hx hb hts inX1 hown hK (c1_at hI hg) rfl 1 (by decide) (va_Nw.use rfl (wd_n hwd (.fieldLinkNest "GuaranteeBook" 87 "GuaranteeBook$Guarantee" "holder" "I" "GuaranteeBook") (List.mem_of_getElem? (i := 13) rfl))) rfl rfl dX0_putFirst_5 ?_
  refine sx_aldq hx hb hK (c7_1_at hI) 3 rfl hin dX0_putFirst_8 ?_
  rw [hfi]
  refine sx_astore_n (lv' := [(2, va_rf (Option.map (al 1) (fR σ 7 1 h))), (0, .ref (al 0 0)), (1, .ref (al 1 g))]) hx hb dX0_putFirst_9 rfl hl (by decide) rfl (fun ls hl => ?_)
  refine w_loopP (hd := 10) (stk := []) (X := Option Nat × List Nat) (fun xx => match xx with | (o, t) => t.length) (fun xx ls => match xx with | (o, t) => (Ch σ o (t ++ b :: g :: L) ∧ (t ++ b :: g :: L).Nodup) ∧ lv_has ls 3 [(2, va_rf (Option.map (al 1) o)), (1, .ref (al 1 g)), (0, .ref (al 0 0))]) (fun xx ls hk ih => ?_) (fR σ 7 1 h, A) ls ⟨⟨hc, hnd⟩, lv_sub hl [0, 2, 1] rfl⟩
  obtain ⟨o, t⟩ := xx
  obtain ⟨⟨hch, hnd⟩, hl⟩ := hk
  cases t with
  | nil =>
    obtain ⟨rfl, hz, hch⟩ := hch
    have hl : lv_has ls 3 [(2, .ref (al 1 b)), (1, .ref (al 1 g)), (0, .ref (al 0 0))] := hl
    obtain ⟨hnx, -, -⟩ := id hch
    refine lv_aload_n hx hb dX0_putFirst_10 rfl (lv_at hl 0 rfl) ?_
    refine lv_ifnull hx hb dX0_putFirst_11 ?_
    refine lv_aload_n hx hb dX0_putFirst_14 rfl (lv_at hl 0 rfl) ?_
    refine sx_getN (ci := 1) (C := RX1) (T := TX1) (N := 11) (v := .ref (al 1 g)) hx hb hts inX1 hown hK (c1_at hI hz) rfl 10 (by decide) (va_Nw.use rfl (wd_n hwd (.fieldLinkNest "GuaranteeBook" 175 "GuaranteeBook$Guarantee" "next" "LGuaranteeBook$Guarantee;" "GuaranteeBook") (List.mem_of_getElem? (i := 20) rfl))) rfl (congrArg (fun (z : Option Nat) => some (va_rf (Option.map (al 1) z))) hnx) dX0_putFirst_15 ?_
    refine lv_aload_n hx hb dX0_putFirst_18 rfl (lv_at hl 1 rfl) ?_
    refine lv_acmp_eq (rx := some (al 1 g)) (ry := some (al 1 g)) (tgt := 30) hx hb dX0_putFirst_19 (by decide) (fun c_19 => ?_) (fun c_19 => ?_)
    · refine lv_aload_n hx hb dX0_putFirst_30 rfl (lv_at hl 0 rfl) ?_
      refine lv_ifnull hx hb dX0_putFirst_31 ?_
      refine lv_aload_n hx hb dX0_putFirst_34 rfl (lv_at hl 0 rfl) ?_
      refine lv_aload_n hx hb dX0_putFirst_35 rfl (lv_at hl 1 rfl) ?_
      refine sx_getN (ci := 1) (C := RX1) (T := TX1) (N := 11) (v := va_rf (Option.map (al 1) (fR σ 1 g 10))) hx hb hts inX1 hown hK (c1_at hI hg) rfl 10 (by decide) (va_Nw.use rfl (wd_n hwd (.fieldLinkNest "GuaranteeBook" 175 "GuaranteeBook$Guarantee" "next" "LGuaranteeBook$Guarantee;" "GuaranteeBook") (List.mem_of_getElem? (i := 20) rfl))) rfl rfl dX0_putFirst_36 ?_
      refine sx_putN (ci := 1) (v := va_rf (Option.map (al 1) (fR σ 1 g 10))) (ty := .object "GuaranteeBook$Guarantee") (C := RX1) (T := TX1) (N := 11) hx hb hts inX1 tyX1 okX1 nmX1 hown hK hS (c1_at hI hz) (c1_lo hI hz) rfl 10 (by decide) (va_Nw.use rfl (wd_n hwd (.fieldLinkNest "GuaranteeBook" 175 "GuaranteeBook$Guarantee" "next" "LGuaranteeBook$Guarantee;" "GuaranteeBook") (List.mem_of_getElem? (i := 20) rfl))) rfl rfl (by decide +kernel) (rf_nar _ _) (rf_fit _ _) (Nat.le_of_ble_eq_true rfl) dX0_putFirst_39 (fun H locs hq => ?_)
      have hI := c1_uR (f := 10) (v := (fR σ 1 g 10)) hI hz rfl hq
      have hS := hq.2.2.2
      refine lv_aload_n hx hb dX0_putFirst_42 rfl (lv_at hl 1 rfl) ?_
      refine lv_aload_n hx hb dX0_putFirst_43 rfl (lv_at hl 2 rfl) ?_
      refine sx_get (ci := 0) (C := RX0) (T := TX0) (N := 10) (v := .ref (al 7 1)) hx hb hts inX0 hown hK (c0_at hI) rfl 1 (by decide) (hts _ w_1_60) rfl rfl dX0_putFirst_44 ?_
      refine lv_aload_n hx hb dX0_putFirst_47 rfl (lv_at hl 1 rfl) ?_
      refine sx_getN (ci := 1) (C := RX1) (T := TX1) (N := 11) (v := .int (fI σ 1 g 1)) hx hb hts inX1 hown hK (c1_at hI hg) rfl 1 (by decide) (va_Nw.use rfl (wd_n hwd (.fieldLinkNest "GuaranteeBook" 87 "GuaranteeBook$Guarantee" "holder" "I" "GuaranteeBook") (List.mem_of_getElem? (i := 13) rfl))) rfl rfl dX0_putFirst_48 ?_
      refine sx_aldq hx hb hK (c7_1_at hI) 3 rfl hin dX0_putFirst_51 ?_
      rw [hfi]
      refine sx_putN (ci := 1) (v := va_rf (Option.map (al 1) (fR σ 7 1 h))) (ty := .object "GuaranteeBook$Guarantee") (C := RX1) (T := TX1) (N := 11) hx hb hts inX1 tyX1 okX1 nmX1 hown hK hS (c1_at hI hg) (c1_lo hI hg) rfl 10 (by decide) (va_Nw.use rfl (wd_n hwd (.fieldLinkNest "GuaranteeBook" 175 "GuaranteeBook$Guarantee" "next" "LGuaranteeBook$Guarantee;" "GuaranteeBook") (List.mem_of_getElem? (i := 20) rfl))) rfl rfl (by decide +kernel) (rf_nar _ _) (rf_fit _ _) (Nat.le_of_ble_eq_true rfl) dX0_putFirst_52 (fun H locs hq => ?_)
      have hI := c1_uR (f := 10) (v := (fR σ 7 1 h)) hI hg rfl hq
      have hS := hq.2.2.2
      refine lv_aload_n hx hb dX0_putFirst_55 rfl (lv_at hl 2 rfl) ?_
      refine sx_get (ci := 0) (C := RX0) (T := TX0) (N := 10) (v := .ref (al 7 1)) hx hb hts inX0 hown hK (c0_at hI) rfl 1 (by decide) (hts _ w_1_60) rfl rfl dX0_putFirst_56 ?_
      refine lv_aload_n hx hb dX0_putFirst_59 rfl (lv_at hl 1 rfl) ?_
      refine sx_getN (ci := 1) (C := RX1) (T := TX1) (N := 11) (v := .int (fI σ 1 g 1)) hx hb hts inX1 hown hK (c1_at hI hg) rfl 1 (by decide) (va_Nw.use rfl (wd_n hwd (.fieldLinkNest "GuaranteeBook" 87 "GuaranteeBook$Guarantee" "holder" "I" "GuaranteeBook") (List.mem_of_getElem? (i := 13) rfl))) rfl rfl dX0_putFirst_60 ?_
      refine lv_aload_n hx hb dX0_putFirst_63 rfl (lv_at hl 1 rfl) ?_
      refine sx_astq (ci := 1) (r := (RX1, TX1, 11)) hx hb hK hS (c7_1_at hI) (c7_1_lo hI) 3 rfl (c1_at hI hg) rfl hin dX0_putFirst_64 (fun H locs hq => ?_)
      rw [hfi] at hq
      have hI := c7_1_uR (f := h) (v := g) hI hq
      have hS := hq.2.2.2
      exact W.vret hx hb hr (fun t ht hW => ⟨⟨uR (uR (uR σ 1 b 10 (fR σ 1 g 10)) 1 g 10 (fR σ 7 1 h)) 7 1 h (some g), rfl, rfl, iv_give ht hI⟩, hS.F ht⟩) hS.2.2 dX0_putFirst_65
    · exact absurd rfl c_19
  | cons a t =>
    obtain ⟨rfl, hz, hch⟩ := hch
    have hl : lv_has ls 3 [(2, .ref (al 1 a)), (1, .ref (al 1 g)), (0, .ref (al 0 0))] := hl
    obtain ⟨z2, hnx, hz2, hmem⟩ := Ch_ne t b (g :: L) _ hch
    have hne : z2 ≠ g := nd_ne hnd hmem
    refine lv_aload_n hx hb dX0_putFirst_10 rfl (lv_at hl 0 rfl) ?_
    refine lv_ifnull hx hb dX0_putFirst_11 ?_
    refine lv_aload_n hx hb dX0_putFirst_14 rfl (lv_at hl 0 rfl) ?_
    refine sx_getN (ci := 1) (C := RX1) (T := TX1) (N := 11) (v := .ref (al 1 z2)) hx hb hts inX1 hown hK (c1_at hI hz) rfl 10 (by decide) (va_Nw.use rfl (wd_n hwd (.fieldLinkNest "GuaranteeBook" 175 "GuaranteeBook$Guarantee" "next" "LGuaranteeBook$Guarantee;" "GuaranteeBook") (List.mem_of_getElem? (i := 20) rfl))) rfl (congrArg (fun (z : Option Nat) => some (va_rf (Option.map (al 1) z))) hnx) dX0_putFirst_15 ?_
    refine lv_aload_n hx hb dX0_putFirst_18 rfl (lv_at hl 1 rfl) ?_
    refine lv_acmp_eq (rx := some (al 1 z2)) (ry := some (al 1 g)) (tgt := 30) hx hb dX0_putFirst_19 (by decide) (fun c_19 => ?_) (fun c_19 => ?_)
    · exact absurd (iv_inj hI hz2 hg (Option.some.inj c_19)) hne
    · refine lv_aload_n hx hb dX0_putFirst_22 rfl (lv_at hl 0 rfl) ?_
      refine sx_getN (ci := 1) (C := RX1) (T := TX1) (N := 11) (v := .ref (al 1 z2)) hx hb hts inX1 hown hK (c1_at hI hz) rfl 10 (by decide) (va_Nw.use rfl (wd_n hwd (.fieldLinkNest "GuaranteeBook" 175 "GuaranteeBook$Guarantee" "next" "LGuaranteeBook$Guarantee;" "GuaranteeBook") (List.mem_of_getElem? (i := 20) rfl))) rfl (congrArg (fun (z : Option Nat) => some (va_rf (Option.map (al 1) z))) hnx) dX0_putFirst_23 ?_
      refine lv_astore_n (lv' := [(2, .ref (al 1 z2)), (1, .ref (al 1 g)), (0, .ref (al 0 0))]) hx hb dX0_putFirst_26 rfl hl (by decide) rfl (fun ls hl => ?_)
      refine lv_goto (tgt := 10) hx hb dX0_putFirst_27 (by decide) ?_
      exact ih (some z2, t) ls (by simp only [List.length_cons]; omega) ⟨⟨(by rw [← hnx]; exact hch), (List.nodup_cons.mp hnd).2⟩, lv_sub hl [0, 1, 2] rfl⟩

set_option maxHeartbeats 4000000 in
set_option maxRecDepth 100000 in
theorem k_shrinkBy (l : Launch) (D : va_G) (dA : Nat → ClassId) (sa : Nat → Nat) (lo : Nat) (al : Nat → Nat → Nat) (σ μ : CS) (j : Nat) (hj : j < nR σ) (n : Nat) (hn : fI σ 4 j 2 = nI n) (hn4 : n ≤ 4) (hp : ∀ k, k < n → ∃ g, fR σ 5 j k = some g ∧ g < nG σ) (x : Int64) : Met l yX4_shrinkBy wsX4_shrinkBy ({ frames := 3, cells := 0, slots := 0, locals := 120 }) (va_Pc [.ref (al 4 j), .long x] (ivP D dA sa lo al σ μ)) (va_Qv (fun u => u = rShr σ j n x) (ivB D dA lo al μ) (fun q => lo ≤ q)) 0 0 (fun q => lo ≤ q) := by
  refine Met.ofW (cc := cX4_shrinkBy) (maxL := 8) (ret := none) (by decide) rfl ?_
  intro p e s m args below meth c s₁ B hml hv
  obtain ⟨rfl, hI, hwd⟩ := hv
  have hx := B.exec
  have hb := B.bytes
  have hr := B.returns
  have hts : ∀ w ∈ WSall, w.before _ s = true := fun w h => atoms_spec (ws := wsX4_shrinkBy) B.pre w (List.mem_cons_of_mem _ h)
  have hown : s.vm.findClass RX4 = some m.cls := findClass_of_methodNamed B.named
  have hlocks := B.notSynchronized
  have hK := hwd.1
  have hS : va_S (fun q => lo ≤ q) s.heap s.heap [] := va_S.rf
  have hl := lv_entry ([.ref (al 4 j), .long x]) (n := 8) (Nat.le_of_ble_eq_true rfl)
  rw [lg_entry_eq]
  generalize (lg_sl ([.ref (al 4 j), .long x]) ++ List.replicate (8 - (lg_sl ([.ref (al 4 j), .long x])).length) Slot.unset).toArray = ls at hl ⊢
  have hl : lv_has ls 8 [(0, .ref (al 4 j)), (1, .long x)] := hl
  refine lv_lload_n hx hb dX4_shrinkBy_0 rfl (lv_at hl 1 rfl) ?_
  refine lv_lstore_n (lv' := [(3, .long x), (0, .ref (al 4 j)), (1, .long x)]) hx hb dX4_shrinkBy_1 rfl hl (by decide) rfl (fun ls hl => ?_)
  refine lv_aload_n hx hb dX4_shrinkBy_2 rfl (lv_at hl 1 rfl) ?_
  refine sx_get (ci := 4) (C := RX4) (T := TX4) (N := 6) (v := .int (fI σ 4 j 2)) hx hb hts inX4 hown hK (c4_at hI hj) rfl 2 (by decide) (hts _ w_1_35) rfl rfl dX4_shrinkBy_3 ?_
  refine lv_iconst (v := 1) hx hb dX4_shrinkBy_6 (by decide) ?_
  refine lv_isub hx hb dX4_shrinkBy_7 ?_
  refine lv_istore (lv' := [(5, .int ((fI σ 4 j 2) - 1)), (3, .long x), (0, .ref (al 4 j)), (1, .long x)]) hx hb dX4_shrinkBy_8 hl (by decide) rfl (fun ls hl => ?_)
  refine w_loop (hd := 10) (stk := []) (X := Nat × Int64 × CS) (fun xx => match xx with | (q, left, τ) => q) (fun xx ls H locs => match xx with | (q, left, τ) => Inv D dA lo al τ μ H ∧ va_S (fun q => lo ≤ q) s.heap H locs ∧ (rShr τ j q left = rShr σ j n x ∧ q ≤ n ∧ nR τ = nR σ ∧ nG τ = nG σ ∧ fR τ = fR σ) ∧ lv_has ls 8 [(5, .int (nI q - 1)), (3, .long left), (0, .ref (al 4 j))]) (fun xx ls H locs hk ih => ?_) (n, x, σ) ls _ _ ⟨hI, hS, ⟨rfl, Nat.le_refl _, rfl, rfl, rfl⟩, (by have h9 := lv_sub hl [0, 1, 2] rfl; rw [hn] at h9; exact h9)⟩
  obtain ⟨q, left, τ⟩ := xx
  obtain ⟨hI, hS, ⟨hk, hqn, hNR, hNG, hFR⟩, hl⟩ := hk
  have hjk : j < nR τ := by rw [hNR]; exact hj
  cases q with
  | zero =>
    have hl : lv_has ls 8 [(5, .int (nI 0 - 1)), (3, .long left), (0, .ref (al 4 j))] := hl
    refine lv_iload hx hb dX4_shrinkBy_10 (lv_at hl 0 rfl) ?_
    refine lv_if_lt (tgt := 98) hx hb dX4_shrinkBy_12 (by decide) (fun c_12 => ?_) (fun c_12 => ?_)
    · exact W.vret hx hb hr (fun t ht hW => ⟨⟨τ, rfl, hk, iv_give ht hI⟩, hS.F ht⟩) hS.2.2 dX4_shrinkBy_98
    · exact absurd (by decide) c_12
  | succ k =>
    rw [nI_pred] at hl
    have hl : lv_has ls 8 [(5, .int (nI k)), (3, .long left), (0, .ref (al 4 j))] := hl
    have hck : (nI k).toNatClampNeg = k := nI_clamp (by omega)
    obtain ⟨g, hg, hgn⟩ := hp k hqn
    have hg : fR τ 5 j k = some g := by rw [hFR]; exact hg
    have hgn : g < nG τ := by rw [hNG]; exact hgn
    refine lv_iload hx hb dX4_shrinkBy_10 (lv_at hl 0 rfl) ?_
    refine lv_if_lt (tgt := 98) hx hb dX4_shrinkBy_12 (by decide) (fun c_12 => ?_) (fun c_12 => ?_)
    · exact absurd c_12 (nI_pos (by omega))
    · refine lv_lload_n hx hb dX4_shrinkBy_15 rfl (lv_at hl 1 rfl) ?_
      refine lv_lconst (v := 0) hx hb dX4_shrinkBy_16 (by decide) ?_
      refine W.lcmp hx hb dX4_shrinkBy_17 ?_
      refine lv_if_le (tgt := 98) hx hb dX4_shrinkBy_18 (by decide) (fun c_18 => ?_) (fun c_18 => ?_)
      · have c_18 : left ≤ 0 := (lg_cmp_le _ _).mp c_18
        exact W.vret hx hb hr (fun t ht hW => ⟨⟨τ, rfl, (by rw [rShr, if_pos c_18] at hk; exact hk), iv_give ht hI⟩, hS.F ht⟩) hS.2.2 dX4_shrinkBy_98
      · have c_18 : ¬ left ≤ 0 := fun h => c_18 ((lg_cmp_le _ _).mpr h)
        refine lv_lload_n hx hb dX4_shrinkBy_21 rfl (lv_at hl 1 rfl) ?_
        refine lv_aload_n hx hb dX4_shrinkBy_22 rfl (lv_at hl 2 rfl) ?_
        refine sx_get (ci := 4) (C := RX4) (T := TX4) (N := 6) (v := .ref (al 6 j)) hx hb hts inX4 hown hK (c4_at hI hjk) rfl 1 (by decide) (hts _ w_1_33) rfl rfl dX4_shrinkBy_23 ?_
        refine lv_iload hx hb dX4_shrinkBy_26 (lv_at hl 0 rfl) ?_
        refine sx_lald hx hb hK (c6_at hI hjk) 1 rfl (vp_in_nI (show k < 4 by omega) (by decide)) dX4_shrinkBy_28 ?_
        rw [hck]
        refine va_mmin_long hx hb (hml.trans hl.1.symm) hown (hts _ w_2_197) (hts _ w_1_164) (hts _ w_1_12) (hts _ wm_min_long) (Nat.le_of_ble_eq_true rfl) (Nat.le_of_ble_eq_true rfl) (Nat.le_of_ble_eq_true rfl) (Nat.le_of_ble_eq_true rfl) dX4_shrinkBy_29 ?_
        refine lv_lstore (lv' := [(6, .long (if (fL τ 6 j k) < left then (fL τ 6 j k) else left)), (5, .int (nI k)), (3, .long left), (0, .ref (al 4 j))]) hx hb dX4_shrinkBy_32 hl (by decide) rfl (fun ls hl => ?_)
        have hl : lv_has ls 8 [(6, .long (lMin left (fL τ 6 j k))), (5, .int (nI k)), (3, .long left), (0, .ref (al 4 j))] := hl
        refine lv_aload_n hx hb dX4_shrinkBy_34 rfl (lv_at hl 3 rfl) ?_
        refine lv_iload hx hb dX4_shrinkBy_35 (lv_at hl 1 rfl) ?_
        refine lv_aload_n hx hb dX4_shrinkBy_37 rfl (lv_at hl 3 rfl) ?_
        refine sx_get (ci := 4) (C := RX4) (T := TX4) (N := 6) (v := .ref (al 6 j)) hx hb hts inX4 hown hK (c4_at hI hjk) rfl 1 (by decide) (hts _ w_1_33) rfl rfl dX4_shrinkBy_38 ?_
        refine lv_iload hx hb dX4_shrinkBy_41 (lv_at hl 1 rfl) ?_
        refine sx_lald hx hb hK (c6_at hI hjk) 1 rfl (vp_in_nI (show k < 4 by omega) (by decide)) dX4_shrinkBy_43 ?_
        rw [hck]
        refine lv_aload_n hx hb dX4_shrinkBy_44 rfl (lv_at hl 3 rfl) ?_
        refine sx_get (ci := 4) (C := RX4) (T := TX4) (N := 6) (v := .ref (al 6 j)) hx hb hts inX4 hown hK (c4_at hI hjk) rfl 1 (by decide) (hts _ w_1_33) rfl rfl dX4_shrinkBy_45 ?_
        refine lv_iload hx hb dX4_shrinkBy_48 (lv_at hl 1 rfl) ?_
        refine sx_lald hx hb hK (c6_at hI hjk) 1 rfl (vp_in_nI (show k < 4 by omega) (by decide)) dX4_shrinkBy_50 ?_
        rw [hck]
        refine lv_lload hx hb dX4_shrinkBy_51 (lv_at hl 0 rfl) ?_
        refine lv_lsub hx hb dX4_shrinkBy_53 ?_
        refine va_callv (va_runV (As := [.int (nI k), .long (fL τ 6 j k), .long ((fL τ 6 j k) - (lMin left (fL τ 6 j k)))]) (rest := []) ⟨hx, hb, hml, hown, hts⟩ (k_tell l D dA sa lo al τ μ j hjk k g (by omega) hg hgn (fL τ 6 j k) ((fL τ 6 j k) - (lMin left (fL τ 6 j k)))) (cwV 3 hts (gdV w_2_149 w_2_151 wp_7 w_1_2 w_2_152) rfl rfl rfl (by decide +kernel) ⟨Nat.le_of_ble_eq_true rfl, Nat.le_of_ble_eq_true rfl⟩) ⟨iv_bl, sx_recv hK (c4_at hI hjk) rfl, fun U hU hW => ⟨rfl, iv_use hI hwd hS hU hW⟩⟩ rfl rfl hl.1 rfl (lv_room (Nat.le_of_ble_eq_true rfl)) dX4_shrinkBy_54 ⟨Nat.le_of_ble_eq_true rfl, Nat.le_of_ble_eq_true rfl⟩) hS (fun q _ h => h) (fun q h => h) (fun u9 T9 H1 locs ht9 hvm9 e_54 hB9 hz9 hk9 hS => ?_)
        have hI := iv_take ht9 hB9
        clear hB9 hk9
        obtain rfl := e_54
        have hjs : j < nR (rTell τ j k (fL τ 6 j k) (fL τ 6 j k - lMin left (fL τ 6 j k))) := by rw [rTell_N]; exact hjk
        refine lv_aload_n hx hb dX4_shrinkBy_57 rfl (lv_at hl 3 rfl) ?_
        refine sx_get (ci := 4) (C := RX4) (T := TX4) (N := 6) (v := .ref (al 6 j)) hx hb hts inX4 hown hK (c4_at hI hjs) rfl 1 (by decide) (hts _ w_1_33) rfl rfl dX4_shrinkBy_58 ?_
        refine lv_iload hx hb dX4_shrinkBy_61 (lv_at hl 1 rfl) ?_
        refine lv_dup2_11 hx hb dX4_shrinkBy_63 rfl rfl ?_
        refine sx_lald hx hb hK (c6_at hI hjs) 1 rfl (vp_in_nI (show k < 4 by omega) (by decide)) dX4_shrinkBy_64 ?_
        rw [hck]
        refine lv_lload hx hb dX4_shrinkBy_65 (lv_at hl 0 rfl) ?_
        refine lv_lsub hx hb dX4_shrinkBy_67 ?_
        refine sx_last hx hb hK hS (c6_at hI hjs) (c6_lo hI hjs) 1 rfl (vp_in_nI (show k < 4 by omega) (by decide)) dX4_shrinkBy_68 (fun H locs hq => ?_)
        rw [hck] at hq
        have hI := c6_uL (f := k) (v := (fL (rTell τ j k (fL τ 6 j k) ((fL τ 6 j k) - (lMin left (fL τ 6 j k)))) 6 j k) - (lMin left (fL τ 6 j k))) hI hjs hq
        have hS := hq.2.2.2
        refine lv_lload_n hx hb dX4_shrinkBy_69 rfl (lv_at hl 2 rfl) ?_
        refine lv_lload hx hb dX4_shrinkBy_70 (lv_at hl 0 rfl) ?_
        refine lv_lsub hx hb dX4_shrinkBy_72 ?_
        refine lv_lstore_n (lv' := [(3, .long (left - (lMin left (fL τ 6 j k)))), (6, .long (lMin left (fL τ 6 j k))), (5, .int (nI k)), (0, .ref (al 4 j))]) hx hb dX4_shrinkBy_73 rfl hl (by decide) rfl (fun ls hl => ?_)
        refine lv_aload_n hx hb dX4_shrinkBy_74 rfl (lv_at hl 3 rfl) ?_
        refine sx_get (ci := 4) (C := RX4) (T := TX4) (N := 6) (v := .ref (al 6 j)) hx hb hts inX4 hown hK (c4_at hI hjs) rfl 1 (by decide) (hts _ w_1_33) rfl rfl dX4_shrinkBy_75 ?_
        refine lv_iload hx hb dX4_shrinkBy_78 (lv_at hl 2 rfl) ?_
        refine sx_lald hx hb hK (c6_at hI hjs) 1 rfl (vp_in_nI (show k < 4 by omega) (by decide)) dX4_shrinkBy_80 ?_
        rw [hck]
        refine lv_lconst (v := 0) hx hb dX4_shrinkBy_81 (by decide) ?_
        refine W.lcmp hx hb dX4_shrinkBy_82 ?_
        refine lv_if_ne (tgt := 92) hx hb dX4_shrinkBy_83 (by decide) (fun c_83 => ?_) (fun c_83 => ?_)
        · have c_83 : ¬ (fL (uL (rTell τ j k (fL τ 6 j k) ((fL τ 6 j k) - (lMin left (fL τ 6 j k)))) 6 j k ((fL (rTell τ j k (fL τ 6 j k) ((fL τ 6 j k) - (lMin left (fL τ 6 j k)))) 6 j k) - (lMin left (fL τ 6 j k)))) 6 j k) = 0 := fun h => c_83 ((lg_cmp_eq _ _).mpr h)
          refine lv_iinc (v := (nI k) + (-1)) (lv' := [(5, .int ((nI k) + (-1))), (3, .long (left - (lMin left (fL τ 6 j k)))), (6, .long (lMin left (fL τ 6 j k))), (0, .ref (al 4 j))]) hx hb dX4_shrinkBy_92 hl (k := 2) rfl rfl (by decide) rfl (fun ls hl => ?_)
          refine lv_goto (tgt := 10) hx hb dX4_shrinkBy_95 (by decide) ?_
          have e9 : rSh3 (rSh2 (rSh1 τ j k left) j k (lMin left (fL τ 6 j k))) j k = rSh2 (rSh1 τ j k left) j k (lMin left (fL τ 6 j k)) := if_neg c_83
          exact ih (k, left - lMin left (fL τ 6 j k), rSh3 (rSh2 (rSh1 τ j k left) j k (lMin left (fL τ 6 j k))) j k) ls _ _ (Nat.lt_succ_self k) ⟨(by rw [e9]; exact hI), hS, ⟨(by rw [rShr, if_neg c_18] at hk; exact hk), (by omega), rSh_N.trans hNR, rSh_G.trans hNG, rSh_R.trans hFR⟩, (by have h9 := lv_sub hl [0, 1, 3] rfl; rw [i_m1] at h9; exact h9)⟩
        · have c_83 : (fL (uL (rTell τ j k (fL τ 6 j k) ((fL τ 6 j k) - (lMin left (fL τ 6 j k)))) 6 j k ((fL (rTell τ j k (fL τ 6 j k) ((fL τ 6 j k) - (lMin left (fL τ 6 j k)))) 6 j k) - (lMin left (fL τ 6 j k)))) 6 j k) = 0 := (lg_cmp_eq _ _).mp c_83
          refine lv_aload_n hx hb dX4_shrinkBy_86 rfl (lv_at hl 3 rfl) ?_
          refine lv_iload hx hb dX4_shrinkBy_87 (lv_at hl 2 rfl) ?_
          refine sx_put (ci := 4) (v := .int (nI k)) (ty := .int) (C := RX4) (T := TX4) (N := 6) hx hb hts inX4 tyX4 okX4 nmX4 hown hK hS (c4_at hI hjs) (c4_lo hI hjs) rfl 2 (by decide) (hts _ w_1_35) rfl rfl (by decide +kernel) rfl rfl (Nat.le_of_ble_eq_true rfl) dX4_shrinkBy_89 (fun H locs hq => ?_)
          have hI := c4_uI (f := 2) (v := nI k) hI hjs rfl hq
          have hS := hq.2.2.2
          refine lv_iinc (v := (nI k) + (-1)) (lv' := [(5, .int ((nI k) + (-1))), (3, .long (left - (lMin left (fL τ 6 j k)))), (6, .long (lMin left (fL τ 6 j k))), (0, .ref (al 4 j))]) hx hb dX4_shrinkBy_92 hl (k := 2) rfl rfl (by decide) rfl (fun ls hl => ?_)
          refine lv_goto (tgt := 10) hx hb dX4_shrinkBy_95 (by decide) ?_
          have e9 : rSh3 (rSh2 (rSh1 τ j k left) j k (lMin left (fL τ 6 j k))) j k = uI (rSh2 (rSh1 τ j k left) j k (lMin left (fL τ 6 j k))) 4 j 2 (nI k) := if_pos c_83
          exact ih (k, left - lMin left (fL τ 6 j k), rSh3 (rSh2 (rSh1 τ j k left) j k (lMin left (fL τ 6 j k))) j k) ls _ _ (Nat.lt_succ_self k) ⟨(by rw [e9]; exact hI), hS, ⟨(by rw [rShr, if_neg c_18] at hk; exact hk), (by omega), rSh_N.trans hNR, rSh_G.trans hNG, rSh_R.trans hFR⟩, (by have h9 := lv_sub hl [0, 1, 3] rfl; rw [i_m1] at h9; exact h9)⟩
end
section
abbrev xnames : List String := ["java/lang/RuntimeException", "java/lang/Exception"]
theorem xIAE_tb : ∀ w ∈ (vx_atS "GuaranteeBook" 53 "java/lang/IllegalArgumentException" xnames).filter goodWord, w ∈ lw_tbl := by decide +kernel
theorem xIAE_bad : ∀ w ∈ (vx_atS "GuaranteeBook" 53 "java/lang/IllegalArgumentException" xnames).filter (fun w => !goodWord w), w ∈ [Cond.castable "java/lang/IllegalArgumentException" "java/lang/IllegalArgumentException", Cond.declares ⟨"java/lang/RuntimeException", "<init>", "(Ljava/lang/String;)V"⟩, Cond.declares ⟨"java/lang/Exception", "<init>", "(Ljava/lang/String;)V"⟩, Cond.declares ⟨"java/lang/Throwable", "<init>", "(Ljava/lang/String;)V"⟩] := by decide +kernel
theorem xIAE_ot : ∀ w ∈ Cond.classLink "GuaranteeBook" 49 "java/lang/IllegalArgumentException" :: Cond.initialized "java/lang/IllegalArgumentException" :: vx_atS "GuaranteeBook" 53 "java/lang/IllegalArgumentException" xnames, vx_ot w = true := by decide +kernel
theorem xIAE_hat {args : Array Value} {s : State} (hts : ∀ w ∈ WSall, w.before args s = true) (hn : ∀ w ∈ nestW, va_Nw w s) : ∀ w ∈ vx_atS "GuaranteeBook" 53 "java/lang/IllegalArgumentException" xnames, w.before args s = true := vx_hat (fun w hw => hts w (ws_in (xIAE_tb w hw) (List.mem_filter.mp hw).2)) xIAE_bad (vx_c (va_Nw.use rfl (hn _ (List.mem_of_getElem? (i := 6) rfl))) (vx_c (va_Nw.use rfl (hn _ (List.mem_of_getElem? (i := 7) rfl))) (vx_c (va_Nw.use rfl (hn _ (List.mem_of_getElem? (i := 8) rfl))) (vx_c (va_Nw.use rfl (hn _ (List.mem_of_getElem? (i := 9) rfl))) vx_n))))
theorem xIAE_fit : Bundle.fit "java/lang/IllegalArgumentException" = true := by decide +kernel
theorem xISE_tb : ∀ w ∈ (vx_atS "GuaranteeBook" 64 "java/lang/IllegalStateException" xnames).filter goodWord, w ∈ lw_tbl := by decide +kernel
theorem xISE_bad : ∀ w ∈ (vx_atS "GuaranteeBook" 64 "java/lang/IllegalStateException" xnames).filter (fun w => !goodWord w), w ∈ [Cond.castable "java/lang/IllegalStateException" "java/lang/IllegalStateException", Cond.declares ⟨"java/lang/RuntimeException", "<init>", "(Ljava/lang/String;)V"⟩, Cond.declares ⟨"java/lang/Exception", "<init>", "(Ljava/lang/String;)V"⟩, Cond.declares ⟨"java/lang/Throwable", "<init>", "(Ljava/lang/String;)V"⟩] := by decide +kernel
theorem xISE_ot : ∀ w ∈ Cond.classLink "GuaranteeBook" 60 "java/lang/IllegalStateException" :: Cond.initialized "java/lang/IllegalStateException" :: vx_atS "GuaranteeBook" 64 "java/lang/IllegalStateException" xnames, vx_ot w = true := by decide +kernel
theorem xISE_hat {args : Array Value} {s : State} (hts : ∀ w ∈ WSall, w.before args s = true) (hn : ∀ w ∈ nestW, va_Nw w s) : ∀ w ∈ vx_atS "GuaranteeBook" 64 "java/lang/IllegalStateException" xnames, w.before args s = true := vx_hat (fun w hw => hts w (ws_in (xISE_tb w hw) (List.mem_filter.mp hw).2)) xISE_bad (vx_c (va_Nw.use rfl (hn _ (List.mem_of_getElem? (i := 10) rfl))) (vx_c (va_Nw.use rfl (hn _ (List.mem_of_getElem? (i := 7) rfl))) (vx_c (va_Nw.use rfl (hn _ (List.mem_of_getElem? (i := 8) rfl))) (vx_c (va_Nw.use rfl (hn _ (List.mem_of_getElem? (i := 9) rfl))) vx_n))))
theorem xISE_fit : Bundle.fit "java/lang/IllegalStateException" = true := by decide +kernel
theorem xIOB_tb : ∀ w ∈ (vx_atS "GuaranteeBook" 181 "java/lang/IndexOutOfBoundsException" xnames).filter goodWord, w ∈ lw_tbl := by decide +kernel
theorem xIOB_bad : ∀ w ∈ (vx_atS "GuaranteeBook" 181 "java/lang/IndexOutOfBoundsException" xnames).filter (fun w => !goodWord w), w ∈ [Cond.castable "java/lang/IndexOutOfBoundsException" "java/lang/IndexOutOfBoundsException", Cond.declares ⟨"java/lang/RuntimeException", "<init>", "(Ljava/lang/String;)V"⟩, Cond.declares ⟨"java/lang/Exception", "<init>", "(Ljava/lang/String;)V"⟩, Cond.declares ⟨"java/lang/Throwable", "<init>", "(Ljava/lang/String;)V"⟩] := by decide +kernel
theorem xIOB_ot : ∀ w ∈ Cond.classLink "GuaranteeBook" 179 "java/lang/IndexOutOfBoundsException" :: Cond.initialized "java/lang/IndexOutOfBoundsException" :: vx_atS "GuaranteeBook" 181 "java/lang/IndexOutOfBoundsException" xnames, vx_ot w = true := by decide +kernel
theorem xIOB_hat {args : Array Value} {s : State} (hts : ∀ w ∈ WSall, w.before args s = true) (hn : ∀ w ∈ nestW, va_Nw w s) : ∀ w ∈ vx_atS "GuaranteeBook" 181 "java/lang/IndexOutOfBoundsException" xnames, w.before args s = true := vx_hat (fun w hw => hts w (ws_in (xIOB_tb w hw) (List.mem_filter.mp hw).2)) xIOB_bad (vx_c (va_Nw.use rfl (hn _ (List.mem_of_getElem? (i := 21) rfl))) (vx_c (va_Nw.use rfl (hn _ (List.mem_of_getElem? (i := 7) rfl))) (vx_c (va_Nw.use rfl (hn _ (List.mem_of_getElem? (i := 8) rfl))) (vx_c (va_Nw.use rfl (hn _ (List.mem_of_getElem? (i := 9) rfl))) vx_n))))
theorem xIOB_fit : Bundle.fit "java/lang/IndexOutOfBoundsException" = true := by decide +kernel
theorem xn_fit : ∀ n ∈ xnames, Bundle.fit n = true := by decide +kernel
end
section
set_option maxHeartbeats 4000000 in
set_option maxRecDepth 100000 in
theorem t_interest (l : Launch) (D : va_G) (dA : Nat → ClassId) (sa : Nat → Nat) (lo : Nat) (al : Nat → Nat → Nat) (σ μ : CS) (hlt : l.stackTraces = false) (x : Int32) (n r : Nat) (hw : WFc σ n r) : vx_Met l yX0_interest wsX0_interest ({ frames := 6, cells := 1, slots := 6, locals := 160 }) (va_Pc [.ref (al 0 0), .int x] (ivP D dA sa lo al σ μ)) (va_Ql (fun z9 (u : CS) => cInterest σ n x = (0, z9, u)) (ivB D dA lo al μ) (fun q => lo ≤ q)) (vx_X (fun u : CS => u = σ) (fun E u t => ((E = "java/lang/IllegalArgumentException" ∧ (cInterest σ n x).1 = 1)) ∧ ivB D dA lo al μ u t) (fun q => lo ≤ q)) 1 6 (fun q => lo ≤ q) := by
  refine vx_ofW (cc := cX0_interest) (maxL := 3) (ret := some .long) (by decide) rfl ?_
  intro p e s m args below meth c s₁ B hml hnoh hv
  obtain ⟨rfl, hI, hwd⟩ := hv
  have hx := B.exec
  have hb := B.bytes
  have hr := B.returns
  have hts : ∀ w ∈ WSall, w.before _ s = true := fun w h => atoms_spec (ws := wsX0_interest) B.pre w (List.mem_cons_of_mem _ h)
  have hown : s.vm.findClass RX0 = some m.cls := findClass_of_methodNamed B.named
  have hlocks := B.notSynchronized
  have hK := hwd.1
  have hS : va_S (fun q => lo ≤ q) s.heap s.heap [] := va_S.rf
  have hl := lv_entry ([.ref (al 0 0), .int x]) (n := 3) (Nat.le_of_ble_eq_true rfl)
  rw [lg_entry_eq]
  generalize (lg_sl ([.ref (al 0 0), .int x]) ++ List.replicate (3 - (lg_sl ([.ref (al 0 0), .int x])).length) Slot.unset).toArray = ls at hl ⊢
  have hl : lv_has ls 3 [(0, .ref (al 0 0)), (1, .int x)] := hl
  obtain ⟨hnG, hnR, hn20, hr60, hgc, hrc, hdr, hgs, hrs, hho, hpa⟩ := id hw
  refine lv_aload_n hx hb dX0_interest_0 rfl (lv_at hl 0 rfl) ?_
  refine lv_iload_n hx hb dX0_interest_1 rfl (lv_at hl 1 rfl) ?_
  refine va_csq (W.runV (As := [.int x]) (rest := []) ⟨hx, hb, hml, hown, hts⟩ (k_guaranteeNumbered l D dA sa lo al σ μ x n hgc hn20 hgs) (cwV 1 hts (gdV w_1_94 w_1_96 wp_0 w_1_1 w_1_97) rfl rfl rfl (by decide +kernel) ⟨Nat.le_of_ble_eq_true rfl, Nat.le_of_ble_eq_true rfl⟩) ⟨iv_bl, sx_recv hK (c0_at hI) rfl, fun U hU hW => ⟨rfl, iv_use hI hwd hS hU hW⟩⟩ rfl rfl hl.1 rfl (lv_room (Nat.le_of_ble_eq_true rfl)) dX0_interest_2 ⟨Nat.le_of_ble_eq_true rfl, Nat.le_of_ble_eq_true rfl⟩) (fun r_2 e_2 => ?_)
  rcases e_2 with ⟨i_2, hi_2, hxi_2, rfl⟩ | ⟨hxi_2, rfl⟩
  · have hix := gIx_some hi_2 (by omega) hxi_2
    have hbi_2 : i_2 < nG σ := (by rw [hnG]; exact hi_2)
    refine W.eq (g2 := F0 m 5 ls (.ref (al 1 i_2) :: [])) rfl ?_
    refine lv_astore_n (lv' := [(2, .ref (al 1 i_2)), (0, .ref (al 0 0)), (1, .int x)]) hx hb dX0_interest_5 rfl hl (by decide) rfl (fun ls hl => ?_)
    refine lv_aload_n hx hb dX0_interest_6 rfl (lv_at hl 0 rfl) ?_
    refine lv_ifnonnull (tgt := 20) hx hb dX0_interest_7 (by decide) ?_
    refine lv_aload_n hx hb dX0_interest_20 rfl (lv_at hl 0 rfl) ?_
    refine sx_getN (ci := 1) (C := RX1) (T := TX1) (N := 11) (v := .ref (al 3 i_2)) hx hb hts inX1 hown hK (c1_at hI hbi_2) rfl 4 (by decide) (va_Nw.use rfl (wd_n hwd (.fieldLinkNest "GuaranteeBook" 160 "GuaranteeBook$Guarantee" "interest" "LGuaranteeBook$Interest;" "GuaranteeBook") (List.mem_of_getElem? (i := 14) rfl))) rfl rfl dX0_interest_21 ?_
    refine lv_aload_n hx hb dX0_interest_24 rfl (lv_at hl 1 rfl) ?_
    refine sx_get (ci := 0) (C := RX0) (T := TX0) (N := 10) (v := .int (fI σ 0 0 9)) hx hb hts inX0 hown hK (c0_at hI) rfl 9 (by decide) (hts _ w_1_68) rfl rfl dX0_interest_25 ?_
    refine lv_aload_n hx hb dX0_interest_28 rfl (lv_at hl 0 rfl) ?_
    refine sx_getN (ci := 1) (C := RX1) (T := TX1) (N := 11) (v := .long (fL σ 1 i_2 5)) hx hb hts inX1 hown hK (c1_at hI hbi_2) rfl 5 (by decide) (va_Nw.use rfl (wd_n hwd (.fieldLinkNest "GuaranteeBook" 164 "GuaranteeBook$Guarantee" "amount" "J" "GuaranteeBook") (List.mem_of_getElem? (i := 15) rfl))) rfl rfl dX0_interest_29 ?_
    refine vp_callSl (W.runV (As := [.int (fI σ 0 0 9), .long (fL σ 1 i_2 5)]) (rest := []) ⟨hx, hb, hml, hown, hts⟩ (k_upTo l D dA sa lo al σ μ i_2 hbi_2 (fI σ 0 0 9) (fL σ 1 i_2 5)) (cwV 2 hts (gdV w_2_223 w_1_119 w_1_120 w_1_11 w_1_121) rfl rfl rfl (by decide +kernel) ⟨Nat.le_of_ble_eq_true rfl, Nat.le_of_ble_eq_true rfl⟩) ⟨iv_bl, sx_recv hK (c3_at hI hbi_2) rfl, fun U hU hW => ⟨rfl, iv_use hI hwd hS hU hW⟩⟩ rfl rfl hl.1 rfl (lv_room (Nat.le_of_ble_eq_true rfl)) dX0_interest_32 ⟨Nat.le_of_ble_eq_true rfl, Nat.le_of_ble_eq_true rfl⟩) (fun r_32 e_32 => ?_)
    subst e_32
    refine W.widen (k := 1) (n := 6) (Nat.le_of_ble_eq_true rfl) (Nat.le_of_ble_eq_true rfl) ?_
    exact vx_ret (W.lret (v := nUp σ i_2 (fI σ 0 0 9) (fL σ 1 i_2 5)) hx hb hr (fun t ht hW => ⟨⟨nUp σ i_2 (fI σ 0 0 9) (fL σ 1 i_2 5), σ, rfl, (by unfold cInterest; rw [hix]), iv_give ht hI⟩, hS.F ht⟩) hS.2.2 dX0_interest_35)
  · have hix := gIx_none hxi_2
    refine W.eq (g2 := F0 m 5 ls (.null :: [])) rfl ?_
    refine lv_astore_nN (lv' := [(2, .null), (0, .ref (al 0 0)), (1, .int x)]) hx hb dX0_interest_5 rfl hl (by decide) rfl (fun ls hl => ?_)
    refine lv_aload_nN hx hb dX0_interest_6 rfl (lv_at hl 0 rfl) ?_
    refine lv_ifnonnullN hx hb dX0_interest_7 ?_
    exact vx_throwS (names := xnames) (text := "no such guarantee") (sa := sa 158) hx hb hlt hown xIAE_fit xn_fit (hts _ w_1_191) (hts _ w_1_7) (wd_s hwd (158, "no such guarantee") (List.mem_of_getElem? (i := 6) rfl)) (xIAE_hat hts (wd_n hwd)) xIAE_ot (wd_u hwd) (wd_v hwd) hS (hl.1.trans hml.symm) dX0_interest_10 dX0_interest_13 dX0_interest_14 dX0_interest_16 dX0_interest_19 (fun x h => (hnoh x h).elim) (Nat.le_of_ble_eq_true rfl) (Nat.le_of_ble_eq_true rfl) (Nat.le_of_ble_eq_true rfl) (Nat.le_of_ble_eq_true rfl) hlocks (fun t ha9 hz9 hq9 => ⟨_, rfl, ⟨⟨rfl, (by unfold cInterest; rw [hix])⟩, iv_kept hI hq9⟩, ⟨hz9, fun q h1 h2 => hq9 q h1⟩⟩) (fun z h => by cases h) (Nat.le_of_ble_eq_true rfl) (Nat.le_of_ble_eq_true rfl)

set_option maxHeartbeats 4000000 in
set_option maxRecDepth 100000 in
theorem t_look (l : Launch) (D : va_G) (dA : Nat → ClassId) (sa : Nat → Nat) (lo : Nat) (al : Nat → Nat → Nat) (σ μ : CS) (hlt : l.stackTraces = false) (x w : Int32) (n r : Nat) (hw : WFc σ n r) : vx_Met l yX0_look wsX0_look ({ frames := 6, cells := 1, slots := 6, locals := 160 }) (va_Pc [.ref (al 0 0), .int x, .int w] (ivP D dA sa lo al σ μ)) (va_Ql (fun z9 (u : CS) => cLook σ n x w = (0, z9, u)) (ivB D dA lo al μ) (fun q => lo ≤ q)) (vx_X (fun u : CS => u = σ) (fun E u t => ((E = "java/lang/IndexOutOfBoundsException" ∧ (cLook σ n x w).1 = 1)) ∧ ivB D dA lo al μ u t) (fun q => lo ≤ q)) 1 6 (fun q => lo ≤ q) := by
  refine vx_ofW (cc := cX0_look) (maxL := 4) (ret := some .long) (by decide) rfl ?_
  intro p e s m args below meth c s₁ B hml hnoh hv
  obtain ⟨rfl, hI, hwd⟩ := hv
  have hx := B.exec
  have hb := B.bytes
  have hr := B.returns
  have hts : ∀ w ∈ WSall, w.before _ s = true := fun w h => atoms_spec (ws := wsX0_look) B.pre w (List.mem_cons_of_mem _ h)
  have hown : s.vm.findClass RX0 = some m.cls := findClass_of_methodNamed B.named
  have hlocks := B.notSynchronized
  have hK := hwd.1
  have hS : va_S (fun q => lo ≤ q) s.heap s.heap [] := va_S.rf
  have hl := lv_entry ([.ref (al 0 0), .int x, .int w]) (n := 4) (Nat.le_of_ble_eq_true rfl)
  rw [lg_entry_eq]
  generalize (lg_sl ([.ref (al 0 0), .int x, .int w]) ++ List.replicate (4 - (lg_sl ([.ref (al 0 0), .int x, .int w])).length) Slot.unset).toArray = ls at hl ⊢
  have hl : lv_has ls 4 [(0, .ref (al 0 0)), (1, .int x), (2, .int w)] := hl
  obtain ⟨hnG, hnR, hn20, hr60, hgc, hrc, hdr, hgs, hrs, hho, hpa⟩ := id hw
  refine lv_aload_n hx hb dX0_look_0 rfl (lv_at hl 0 rfl) ?_
  refine lv_iload_n hx hb dX0_look_1 rfl (lv_at hl 1 rfl) ?_
  refine va_csq (W.runV (As := [.int x]) (rest := []) ⟨hx, hb, hml, hown, hts⟩ (k_guaranteeNumbered l D dA sa lo al σ μ x n hgc hn20 hgs) (cwV 1 hts (gdV w_1_94 w_1_96 wp_0 w_1_1 w_1_97) rfl rfl rfl (by decide +kernel) ⟨Nat.le_of_ble_eq_true rfl, Nat.le_of_ble_eq_true rfl⟩) ⟨iv_bl, sx_recv hK (c0_at hI) rfl, fun U hU hW => ⟨rfl, iv_use hI hwd hS hU hW⟩⟩ rfl rfl hl.1 rfl (lv_room (Nat.le_of_ble_eq_true rfl)) dX0_look_2 ⟨Nat.le_of_ble_eq_true rfl, Nat.le_of_ble_eq_true rfl⟩) (fun r_2 e_2 => ?_)
  rcases e_2 with ⟨i_2, hi_2, hxi_2, rfl⟩ | ⟨hxi_2, rfl⟩
  · have hix := gIx_some hi_2 (by omega) hxi_2
    have hbi_2 : i_2 < nG σ := (by rw [hnG]; exact hi_2)
    refine W.eq (g2 := F0 m 5 ls (.ref (al 1 i_2) :: [])) rfl ?_
    refine lv_astore_n (lv' := [(3, .ref (al 1 i_2)), (0, .ref (al 0 0)), (1, .int x), (2, .int w)]) hx hb dX0_look_5 rfl hl (by decide) rfl (fun ls hl => ?_)
    refine lv_aload_n hx hb dX0_look_6 rfl (lv_at hl 0 rfl) ?_
    refine lv_ifnonnull (tgt := 20) hx hb dX0_look_7 (by decide) ?_
    refine lv_iload_n hx hb dX0_look_20 rfl (lv_at hl 3 rfl) ?_
    by_cases c_21_0 : w = 0
    · refine lv_tableIn (tgt := 72) hx hb dX0_look_21 (by rw [c_21_0]; decide) (by rw [c_21_0]; decide) (by rw [c_21_0]; rfl) (by decide) ?_
      refine lv_aload_n hx hb dX0_look_72 rfl (lv_at hl 0 rfl) ?_
      refine sx_getN (ci := 1) (C := RX1) (T := TX1) (N := 11) (v := .int (fI σ 1 i_2 1)) hx hb hts inX1 hown hK (c1_at hI hbi_2) rfl 1 (by decide) (va_Nw.use rfl (wd_n hwd (.fieldLinkNest "GuaranteeBook" 87 "GuaranteeBook$Guarantee" "holder" "I" "GuaranteeBook") (List.mem_of_getElem? (i := 13) rfl))) rfl rfl dX0_look_73 ?_
      refine lv_i2l hx hb dX0_look_76 rfl ?_
      refine W.widen (k := 1) (n := 6) (Nat.le_of_ble_eq_true rfl) (Nat.le_of_ble_eq_true rfl) ?_
      exact vx_ret (W.lret (v := (fI σ 1 i_2 1).toInt64) hx hb hr (fun t ht hW => ⟨⟨(fI σ 1 i_2 1).toInt64, σ, rfl, (by unfold cLook; rw [hix]; simp only [if_pos c_21_0]), iv_give ht hI⟩, hS.F ht⟩) hS.2.2 dX0_look_77)
    by_cases c_21_1 : w = 1
    · refine lv_tableIn (tgt := 78) hx hb dX0_look_21 (by rw [c_21_1]; decide) (by rw [c_21_1]; decide) (by rw [c_21_1]; rfl) (by decide) ?_
      refine lv_aload_n hx hb dX0_look_78 rfl (lv_at hl 0 rfl) ?_
      refine sx_getN (ci := 1) (C := RX1) (T := TX1) (N := 11) (v := .long (fL σ 1 i_2 5)) hx hb hts inX1 hown hK (c1_at hI hbi_2) rfl 5 (by decide) (va_Nw.use rfl (wd_n hwd (.fieldLinkNest "GuaranteeBook" 164 "GuaranteeBook$Guarantee" "amount" "J" "GuaranteeBook") (List.mem_of_getElem? (i := 15) rfl))) rfl rfl dX0_look_79 ?_
      refine W.widen (k := 1) (n := 6) (Nat.le_of_ble_eq_true rfl) (Nat.le_of_ble_eq_true rfl) ?_
      exact vx_ret (W.lret (v := fL σ 1 i_2 5) hx hb hr (fun t ht hW => ⟨⟨fL σ 1 i_2 5, σ, rfl, (by unfold cLook; rw [hix]; simp only [if_neg c_21_0, if_pos c_21_1]), iv_give ht hI⟩, hS.F ht⟩) hS.2.2 dX0_look_82)
    by_cases c_21_2 : w = 2
    · refine lv_tableIn (tgt := 83) hx hb dX0_look_21 (by rw [c_21_2]; decide) (by rw [c_21_2]; decide) (by rw [c_21_2]; rfl) (by decide) ?_
      refine lv_aload_n hx hb dX0_look_83 rfl (lv_at hl 0 rfl) ?_
      refine sx_getN (ci := 1) (C := RX1) (T := TX1) (N := 11) (v := .long (fL σ 1 i_2 6)) hx hb hts inX1 hown hK (c1_at hI hbi_2) rfl 6 (by decide) (va_Nw.use rfl (wd_n hwd (.fieldLinkNest "GuaranteeBook" 182 "GuaranteeBook$Guarantee" "needed" "J" "GuaranteeBook") (List.mem_of_getElem? (i := 16) rfl))) rfl rfl dX0_look_84 ?_
      refine W.widen (k := 1) (n := 6) (Nat.le_of_ble_eq_true rfl) (Nat.le_of_ble_eq_true rfl) ?_
      exact vx_ret (W.lret (v := fL σ 1 i_2 6) hx hb hr (fun t ht hW => ⟨⟨fL σ 1 i_2 6, σ, rfl, (by unfold cLook; rw [hix]; simp only [if_neg c_21_0, if_neg c_21_1, if_pos c_21_2]), iv_give ht hI⟩, hS.F ht⟩) hS.2.2 dX0_look_87)
    by_cases c_21_3 : w = 3
    · refine lv_tableIn (tgt := 88) hx hb dX0_look_21 (by rw [c_21_3]; decide) (by rw [c_21_3]; decide) (by rw [c_21_3]; rfl) (by decide) ?_
      refine lv_aload_n hx hb dX0_look_88 rfl (lv_at hl 0 rfl) ?_
      refine vp_callSl (W.runV (As := []) (rest := []) ⟨hx, hb, hml, hown, hts⟩ (k_unneeded l D dA sa lo al σ μ i_2 hbi_2 ) (cwV 0 hts (gdV w_3_7 w_1_151 w_1_152 w_1_9 w_1_153) rfl rfl rfl (by decide +kernel) ⟨Nat.le_of_ble_eq_true rfl, Nat.le_of_ble_eq_true rfl⟩) ⟨iv_bl, sx_recv hK (c1_at hI hbi_2) rfl, fun U hU hW => ⟨rfl, iv_use hI hwd hS hU hW⟩⟩ rfl rfl hl.1 rfl (lv_room (Nat.le_of_ble_eq_true rfl)) dX0_look_89 ⟨Nat.le_of_ble_eq_true rfl, Nat.le_of_ble_eq_true rfl⟩) (fun r_89 e_89 => ?_)
      subst e_89
      refine W.widen (k := 1) (n := 6) (Nat.le_of_ble_eq_true rfl) (Nat.le_of_ble_eq_true rfl) ?_
      exact vx_ret (W.lret (v := gUnn σ i_2) hx hb hr (fun t ht hW => ⟨⟨gUnn σ i_2, σ, rfl, (by unfold cLook; rw [hix]; simp only [if_neg c_21_0, if_neg c_21_1, if_neg c_21_2, if_pos c_21_3]), iv_give ht hI⟩, hS.F ht⟩) hS.2.2 dX0_look_92)
    by_cases c_21_4 : w = 4
    · refine lv_tableIn (tgt := 93) hx hb dX0_look_21 (by rw [c_21_4]; decide) (by rw [c_21_4]; decide) (by rw [c_21_4]; rfl) (by decide) ?_
      refine lv_aload_n hx hb dX0_look_93 rfl (lv_at hl 0 rfl) ?_
      refine vp_callSl (W.runV (As := []) (rest := []) ⟨hx, hb, hml, hown, hts⟩ (k_mayCover l D dA sa lo al σ μ i_2 hbi_2 ) (cwV 0 hts (gdV w_1_146 w_1_147 w_1_148 w_1_9 w_1_149) rfl rfl rfl (by decide +kernel) ⟨Nat.le_of_ble_eq_true rfl, Nat.le_of_ble_eq_true rfl⟩) ⟨iv_bl, sx_recv hK (c1_at hI hbi_2) rfl, fun U hU hW => ⟨rfl, iv_use hI hwd hS hU hW⟩⟩ rfl rfl hl.1 rfl (lv_room (Nat.le_of_ble_eq_true rfl)) dX0_look_94 ⟨Nat.le_of_ble_eq_true rfl, Nat.le_of_ble_eq_true rfl⟩) (fun r_94 e_94 => ?_)
      subst e_94
      refine W.widen (k := 1) (n := 6) (Nat.le_of_ble_eq_true rfl) (Nat.le_of_ble_eq_true rfl) ?_
      exact vx_ret (W.lret (v := gMay σ i_2) hx hb hr (fun t ht hW => ⟨⟨gMay σ i_2, σ, rfl, (by unfold cLook; rw [hix]; simp only [if_neg c_21_0, if_neg c_21_1, if_neg c_21_2, if_neg c_21_3, if_pos c_21_4]), iv_give ht hI⟩, hS.F ht⟩) hS.2.2 dX0_look_97)
    by_cases c_21_5 : w = 5
    · refine lv_tableIn (tgt := 98) hx hb dX0_look_21 (by rw [c_21_5]; decide) (by rw [c_21_5]; decide) (by rw [c_21_5]; rfl) (by decide) ?_
      refine lv_aload_n hx hb dX0_look_98 rfl (lv_at hl 0 rfl) ?_
      refine sx_getN (ci := 1) (C := RX1) (T := TX1) (N := 11) (v := .int (fI σ 1 i_2 8)) hx hb hts inX1 hown hK (c1_at hI hbi_2) rfl 8 (by decide) (va_Nw.use rfl (wd_n hwd (.fieldLinkNest "GuaranteeBook" 191 "GuaranteeBook$Guarantee" "uses" "I" "GuaranteeBook") (List.mem_of_getElem? (i := 18) rfl))) rfl rfl dX0_look_99 ?_
      refine lv_i2l hx hb dX0_look_102 rfl ?_
      refine W.widen (k := 1) (n := 6) (Nat.le_of_ble_eq_true rfl) (Nat.le_of_ble_eq_true rfl) ?_
      exact vx_ret (W.lret (v := (fI σ 1 i_2 8).toInt64) hx hb hr (fun t ht hW => ⟨⟨(fI σ 1 i_2 8).toInt64, σ, rfl, (by unfold cLook; rw [hix]; simp only [if_neg c_21_0, if_neg c_21_1, if_neg c_21_2, if_neg c_21_3, if_neg c_21_4, if_pos c_21_5]), iv_give ht hI⟩, hS.F ht⟩) hS.2.2 dX0_look_103)
    by_cases c_21_6 : w = 6
    · refine lv_tableIn (tgt := 104) hx hb dX0_look_21 (by rw [c_21_6]; decide) (by rw [c_21_6]; decide) (by rw [c_21_6]; rfl) (by decide) ?_
      refine lv_aload_n hx hb dX0_look_104 rfl (lv_at hl 0 rfl) ?_
      refine sx_getN (ci := 1) (C := RX1) (T := TX1) (N := 11) (v := .int (fI σ 1 i_2 9)) hx hb hts inX1 hown hK (c1_at hI hbi_2) rfl 9 (by decide) (va_Nw.use rfl (wd_n hwd (.fieldLinkNest "GuaranteeBook" 149 "GuaranteeBook$Guarantee" "closed" "Z" "GuaranteeBook") (List.mem_of_getElem? (i := 19) rfl))) rfl rfl dX0_look_105 ?_
      refine lv_if_eq (tgt := 115) hx hb dX0_look_108 (by decide) (fun c_108 => ?_) (fun c_108 => ?_)
      · refine lv_lconst (v := 0) hx hb dX0_look_115 (by decide) ?_
        refine W.widen (k := 1) (n := 6) (Nat.le_of_ble_eq_true rfl) (Nat.le_of_ble_eq_true rfl) ?_
        exact vx_ret (W.lret (v := 0) hx hb hr (fun t ht hW => ⟨⟨0, σ, rfl, (by unfold cLook; rw [hix]; simp only [if_neg c_21_0, if_neg c_21_1, if_neg c_21_2, if_neg c_21_3, if_neg c_21_4, if_neg c_21_5, if_pos c_21_6, if_pos c_108]), iv_give ht hI⟩, hS.F ht⟩) hS.2.2 dX0_look_116)
      · refine lv_lconst (v := 1) hx hb dX0_look_111 (by decide) ?_
        refine lv_goto (tgt := 116) hx hb dX0_look_112 (by decide) ?_
        refine W.widen (k := 1) (n := 6) (Nat.le_of_ble_eq_true rfl) (Nat.le_of_ble_eq_true rfl) ?_
        exact vx_ret (W.lret (v := 1) hx hb hr (fun t ht hW => ⟨⟨1, σ, rfl, (by unfold cLook; rw [hix]; simp only [if_neg c_21_0, if_neg c_21_1, if_neg c_21_2, if_neg c_21_3, if_neg c_21_4, if_neg c_21_5, if_pos c_21_6, if_neg c_108]), iv_give ht hI⟩, hS.F ht⟩) hS.2.2 dX0_look_116)
    by_cases c_21_7 : w = 7
    · refine lv_tableIn (tgt := 117) hx hb dX0_look_21 (by rw [c_21_7]; decide) (by rw [c_21_7]; decide) (by rw [c_21_7]; rfl) (by decide) ?_
      refine lv_aload_n hx hb dX0_look_117 rfl (lv_at hl 0 rfl) ?_
      refine vp_callSl (W.runV (As := []) (rest := []) ⟨hx, hb, hml, hown, hts⟩ (k_risk l D dA sa lo al σ μ i_2 hbi_2 ) (cwV 0 hts (gdV w_3_8 w_3_9 w_3_10 w_1_9 w_3_11) rfl rfl rfl (by decide +kernel) ⟨Nat.le_of_ble_eq_true rfl, Nat.le_of_ble_eq_true rfl⟩) ⟨iv_bl, sx_recv hK (c1_at hI hbi_2) rfl, fun U hU hW => ⟨rfl, iv_use hI hwd hS hU hW⟩⟩ rfl rfl hl.1 rfl (lv_room (Nat.le_of_ble_eq_true rfl)) dX0_look_118 ⟨Nat.le_of_ble_eq_true rfl, Nat.le_of_ble_eq_true rfl⟩) (fun r_118 e_118 => ?_)
      subst e_118
      refine W.widen (k := 1) (n := 6) (Nat.le_of_ble_eq_true rfl) (Nat.le_of_ble_eq_true rfl) ?_
      exact vx_ret (W.lret (v := gRisk σ i_2) hx hb hr (fun t ht hW => ⟨⟨gRisk σ i_2, σ, rfl, (by unfold cLook; rw [hix]; simp only [if_neg c_21_0, if_neg c_21_1, if_neg c_21_2, if_neg c_21_3, if_neg c_21_4, if_neg c_21_5, if_neg c_21_6, if_pos c_21_7]), iv_give ht hI⟩, hS.F ht⟩) hS.2.2 dX0_look_121)
    by_cases c_21_8 : w = 8
    · refine lv_tableIn (tgt := 122) hx hb dX0_look_21 (by rw [c_21_8]; decide) (by rw [c_21_8]; decide) (by rw [c_21_8]; rfl) (by decide) ?_
      refine lv_aload_n hx hb dX0_look_122 rfl (lv_at hl 0 rfl) ?_
      refine sx_getN (ci := 1) (C := RX1) (T := TX1) (N := 11) (v := .long (fL σ 1 i_2 7)) hx hb hts inX1 hown hK (c1_at hI hbi_2) rfl 7 (by decide) (va_Nw.use rfl (wd_n hwd (.fieldLinkNest "GuaranteeBook" 197 "GuaranteeBook$Guarantee" "claimed" "J" "GuaranteeBook") (List.mem_of_getElem? (i := 17) rfl))) rfl rfl dX0_look_123 ?_
      refine W.widen (k := 1) (n := 6) (Nat.le_of_ble_eq_true rfl) (Nat.le_of_ble_eq_true rfl) ?_
      exact vx_ret (W.lret (v := fL σ 1 i_2 7) hx hb hr (fun t ht hW => ⟨⟨fL σ 1 i_2 7, σ, rfl, (by unfold cLook; rw [hix]; simp only [if_neg c_21_0, if_neg c_21_1, if_neg c_21_2, if_neg c_21_3, if_neg c_21_4, if_neg c_21_5, if_neg c_21_6, if_neg c_21_7, if_pos c_21_8]), iv_give ht hI⟩, hS.F ht⟩) hS.2.2 dX0_look_126)
    refine lv_tableOut (tgt := 127) hx hb dX0_look_21 (sw_out8 c_21_0 c_21_1 c_21_2 c_21_3 c_21_4 c_21_5 c_21_6 c_21_7 c_21_8) (by decide) ?_
    exact vx_throwS (names := xnames) (text := "no such what of a guarantee") (sa := sa 200) hx hb hlt hown xIOB_fit xn_fit (hts _ w_2_232) (hts _ w_1_13) (wd_s hwd (200, "no such what of a guarantee") (List.mem_of_getElem? (i := 7) rfl)) (xIOB_hat hts (wd_n hwd)) xIOB_ot (wd_u hwd) (wd_v hwd) hS (hl.1.trans hml.symm) dX0_look_127 dX0_look_130 dX0_look_131 dX0_look_133 dX0_look_136 (fun x h => (hnoh x h).elim) (Nat.le_of_ble_eq_true rfl) (Nat.le_of_ble_eq_true rfl) (Nat.le_of_ble_eq_true rfl) (Nat.le_of_ble_eq_true rfl) hlocks (fun t ha9 hz9 hq9 => ⟨_, rfl, ⟨⟨rfl, (by unfold cLook; rw [hix]; simp only [if_neg c_21_0, if_neg c_21_1, if_neg c_21_2, if_neg c_21_3, if_neg c_21_4, if_neg c_21_5, if_neg c_21_6, if_neg c_21_7, if_neg c_21_8])⟩, iv_kept hI hq9⟩, ⟨hz9, fun q h1 h2 => hq9 q h1⟩⟩) (fun z h => by cases h) (Nat.le_of_ble_eq_true rfl) (Nat.le_of_ble_eq_true rfl)
  · have hix := gIx_none hxi_2
    refine W.eq (g2 := F0 m 5 ls (.null :: [])) rfl ?_
    refine lv_astore_nN (lv' := [(3, .null), (0, .ref (al 0 0)), (1, .int x), (2, .int w)]) hx hb dX0_look_5 rfl hl (by decide) rfl (fun ls hl => ?_)
    refine lv_aload_nN hx hb dX0_look_6 rfl (lv_at hl 0 rfl) ?_
    refine lv_ifnonnullN hx hb dX0_look_7 ?_
    exact vx_throwS (names := xnames) (text := "no such guarantee") (sa := sa 158) hx hb hlt hown xIOB_fit xn_fit (hts _ w_2_232) (hts _ w_1_13) (wd_s hwd (158, "no such guarantee") (List.mem_of_getElem? (i := 6) rfl)) (xIOB_hat hts (wd_n hwd)) xIOB_ot (wd_u hwd) (wd_v hwd) hS (hl.1.trans hml.symm) dX0_look_10 dX0_look_13 dX0_look_14 dX0_look_16 dX0_look_19 (fun x h => (hnoh x h).elim) (Nat.le_of_ble_eq_true rfl) (Nat.le_of_ble_eq_true rfl) (Nat.le_of_ble_eq_true rfl) (Nat.le_of_ble_eq_true rfl) hlocks (fun t ha9 hz9 hq9 => ⟨_, rfl, ⟨⟨rfl, (by unfold cLook; rw [hix])⟩, iv_kept hI hq9⟩, ⟨hz9, fun q h1 h2 => hq9 q h1⟩⟩) (fun z h => by cases h) (Nat.le_of_ble_eq_true rfl) (Nat.le_of_ble_eq_true rfl)

set_option maxHeartbeats 4000000 in
set_option maxRecDepth 100000 in
theorem t_end (l : Launch) (D : va_G) (dA : Nat → ClassId) (sa : Nat → Nat) (lo : Nat) (al : Nat → Nat → Nat) (σ μ : CS) (hlt : l.stackTraces = false) (x how : Int32) (n r : Nat) (hw : WFc σ n r) : vx_Met l yX0_end wsX0_end ({ frames := 6, cells := 1, slots := 6, locals := 160 }) (va_Pc [.ref (al 0 0), .int x, .int how] (ivP D dA sa lo al σ μ)) (va_Qi (fun z9 (u : CS) => cEnd σ r x how = (0, z9, u)) (ivB D dA lo al μ) (fun q => lo ≤ q)) (vx_X (fun u : CS => u = σ) (fun E u t => ((E = "java/lang/IllegalArgumentException" ∧ (cEnd σ r x how).1 = 1)) ∧ ivB D dA lo al μ u t) (fun q => lo ≤ q)) 1 6 (fun q => lo ≤ q) := by
  refine vx_ofW (cc := cX0_end) (maxL := 4) (ret := some .int) (by decide) rfl ?_
  intro p e s m args below meth c s₁ B hml hnoh hv
  obtain ⟨rfl, hI, hwd⟩ := hv
  have hx := B.exec
  have hb := B.bytes
  have hr := B.returns
  have hts : ∀ w ∈ WSall, w.before _ s = true := fun w h => atoms_spec (ws := wsX0_end) B.pre w (List.mem_cons_of_mem _ h)
  have hown : s.vm.findClass RX0 = some m.cls := findClass_of_methodNamed B.named
  have hlocks := B.notSynchronized
  have hK := hwd.1
  have hS : va_S (fun q => lo ≤ q) s.heap s.heap [] := va_S.rf
  have hl := lv_entry ([.ref (al 0 0), .int x, .int how]) (n := 4) (Nat.le_of_ble_eq_true rfl)
  rw [lg_entry_eq]
  generalize (lg_sl ([.ref (al 0 0), .int x, .int how]) ++ List.replicate (4 - (lg_sl ([.ref (al 0 0), .int x, .int how])).length) Slot.unset).toArray = ls at hl ⊢
  have hl : lv_has ls 4 [(0, .ref (al 0 0)), (1, .int x), (2, .int how)] := hl
  obtain ⟨hnG, hnR, hn20, hr60, hgc, hrc, hdr, hgs, hrs, hho, hpa⟩ := id hw
  refine lv_aload_n hx hb dX0_end_0 rfl (lv_at hl 0 rfl) ?_
  refine lv_iload_n hx hb dX0_end_1 rfl (lv_at hl 1 rfl) ?_
  refine va_csq (W.runV (As := [.int x]) (rest := []) ⟨hx, hb, hml, hown, hts⟩ (k_reservationNumbered l D dA sa lo al σ μ x r hrc hr60 hrs) (cwV 1 hts (gdV w_2_168 w_2_170 wp_8 w_1_1 w_2_171) rfl rfl rfl (by decide +kernel) ⟨Nat.le_of_ble_eq_true rfl, Nat.le_of_ble_eq_true rfl⟩) ⟨iv_bl, sx_recv hK (c0_at hI) rfl, fun U hU hW => ⟨rfl, iv_use hI hwd hS hU hW⟩⟩ rfl rfl hl.1 rfl (lv_room (Nat.le_of_ble_eq_true rfl)) dX0_end_2 ⟨Nat.le_of_ble_eq_true rfl, Nat.le_of_ble_eq_true rfl⟩) (fun r_2 e_2 => ?_)
  rcases e_2 with ⟨i_2, hi_2, hxi_2, rfl⟩ | ⟨hxi_2, rfl⟩
  · have hix := gIx_some hi_2 (by omega) hxi_2
    have hbi_2 : i_2 < nR σ := (by rw [hnR]; omega)
    refine W.eq (g2 := F0 m 5 ls (.ref (al 4 i_2) :: [])) rfl ?_
    refine lv_astore_n (lv' := [(3, .ref (al 4 i_2)), (0, .ref (al 0 0)), (1, .int x), (2, .int how)]) hx hb dX0_end_5 rfl hl (by decide) rfl (fun ls hl => ?_)
    refine lv_aload_n hx hb dX0_end_6 rfl (lv_at hl 0 rfl) ?_
    refine lv_ifnull hx hb dX0_end_7 ?_
    refine lv_iload_n hx hb dX0_end_10 rfl (lv_at hl 3 rfl) ?_
    refine lv_iconst (v := 1) hx hb dX0_end_11 (by decide) ?_
    refine lv_icmp_eq (tgt := 30) hx hb dX0_end_12 (by decide) (fun c_12 => ?_) (fun c_12 => ?_)
    · refine lv_aload_n hx hb dX0_end_30 rfl (lv_at hl 0 rfl) ?_
      refine sx_getN (ci := 4) (C := RX4) (T := TX4) (N := 6) (v := .int (fI σ 4 i_2 5)) hx hb hts inX4 hown hK (c4_at hI hbi_2) rfl 5 (by decide) (va_Nw.use rfl (wd_n hwd (.fieldLinkNest "GuaranteeBook" 123 "GuaranteeBook$Reservation" "state" "I" "GuaranteeBook") (List.mem_of_getElem? (i := 5) rfl))) rfl rfl dX0_end_31 ?_
      refine lv_if_eq (tgt := 39) hx hb dX0_end_34 (by decide) (fun c_34 => ?_) (fun c_34 => ?_)
      · obtain ⟨p, hp4, hpp, hpg⟩ := hpa i_2 (by omega)
        have hpg : ∀ k, k < p → ∃ g, fR σ 5 i_2 k = some g ∧ g < nG σ := by rw [hnG]; exact hpg
        have hpn : pN σ i_2 = p := pN_of hpp hp4
        refine lv_aload_n hx hb dX0_end_39 rfl (lv_at hl 0 rfl) ?_
        refine va_callv (va_runV (As := []) (rest := []) ⟨hx, hb, hml, hown, hts⟩ (k_dropParts l D dA sa lo al σ μ i_2 hbi_2 p hpp hp4 hpg) (cwV 0 hts (gdV w_2_173 w_2_174 w_2_175 w_1_2 w_2_176) rfl rfl rfl (by decide +kernel) ⟨Nat.le_of_ble_eq_true rfl, Nat.le_of_ble_eq_true rfl⟩) ⟨iv_bl, sx_recv hK (c4_at hI hbi_2) rfl, fun U hU hW => ⟨rfl, iv_use hI hwd hS hU hW⟩⟩ rfl rfl hl.1 rfl (lv_room (Nat.le_of_ble_eq_true rfl)) dX0_end_40 ⟨Nat.le_of_ble_eq_true rfl, Nat.le_of_ble_eq_true rfl⟩) hS (fun q _ h => h) (fun q h => h) (fun u9 T9 H1 locs ht9 hvm9 e_40 hB9 hz9 hk9 hS => ?_)
        have hI := iv_take ht9 hB9
        clear hB9 hk9
        obtain rfl := e_40
        have hbd : i_2 < nR (uI (rDrop σ i_2 p) 4 i_2 2 0) := by rw [nR_uI, rDrop_N]; exact hbi_2
        refine lv_aload_n hx hb dX0_end_43 rfl (lv_at hl 1 rfl) ?_
        refine lv_aload_n hx hb dX0_end_44 rfl (lv_at hl 0 rfl) ?_
        refine lv_iload_n hx hb dX0_end_45 rfl (lv_at hl 3 rfl) ?_
        refine va_callv (va_runV (As := [.ref (al 4 i_2), .int how]) (rest := []) ⟨hx, hb, hml, hown, hts⟩ (k_finish l D dA sa lo al (uI (rDrop σ i_2 p) 4 i_2 2 0) μ i_2 hbd how) (cwV 2 hts (gdV w_2_177 w_2_179 wp_9 w_1_1 w_2_180) rfl rfl rfl (by decide +kernel) ⟨Nat.le_of_ble_eq_true rfl, Nat.le_of_ble_eq_true rfl⟩) ⟨iv_bl, sx_recv hK (c0_at hI) rfl, fun U hU hW => ⟨rfl, iv_use hI hwd hS hU hW⟩⟩ rfl rfl hl.1 rfl (lv_room (Nat.le_of_ble_eq_true rfl)) dX0_end_46 ⟨Nat.le_of_ble_eq_true rfl, Nat.le_of_ble_eq_true rfl⟩) hS (fun q _ h => h) (fun q h => h) (fun u9 T9 H1 locs ht9 hvm9 e_46 hB9 hz9 hk9 hS => ?_)
        have hI := iv_take ht9 hB9
        clear hB9 hk9
        obtain rfl := e_46
        refine lv_iconst (v := 1) hx hb dX0_end_49 (by decide) ?_
        refine W.widen (k := 1) (n := 6) (Nat.le_of_ble_eq_true rfl) (Nat.le_of_ble_eq_true rfl) ?_
        exact vx_ret (W.iret (v := 1) hx hb hr (fun t ht hW => ⟨⟨1, rFin (uI (rDrop σ i_2 p) 4 i_2 2 0) i_2 how, rfl, (by unfold cEnd; rw [hix]; simp only [if_pos c_12, if_pos c_34]; unfold rGo; rw [hpn]), iv_give ht hI⟩, hS.F ht⟩) hS.2.2 dX0_end_50)
      · refine lv_iconst (v := 0) hx hb dX0_end_37 (by decide) ?_
        refine W.widen (k := 1) (n := 6) (Nat.le_of_ble_eq_true rfl) (Nat.le_of_ble_eq_true rfl) ?_
        exact vx_ret (W.iret (v := 0) hx hb hr (fun t ht hW => ⟨⟨0, σ, rfl, (by unfold cEnd; rw [hix]; simp only [if_pos c_12, if_neg c_34]), iv_give ht hI⟩, hS.F ht⟩) hS.2.2 dX0_end_38)
    · refine lv_iload_n hx hb dX0_end_15 rfl (lv_at hl 3 rfl) ?_
      refine lv_iconst (v := 2) hx hb dX0_end_16 (by decide) ?_
      refine lv_icmp_eq (tgt := 30) hx hb dX0_end_17 (by decide) (fun c_17 => ?_) (fun c_17 => ?_)
      · refine lv_aload_n hx hb dX0_end_30 rfl (lv_at hl 0 rfl) ?_
        refine sx_getN (ci := 4) (C := RX4) (T := TX4) (N := 6) (v := .int (fI σ 4 i_2 5)) hx hb hts inX4 hown hK (c4_at hI hbi_2) rfl 5 (by decide) (va_Nw.use rfl (wd_n hwd (.fieldLinkNest "GuaranteeBook" 123 "GuaranteeBook$Reservation" "state" "I" "GuaranteeBook") (List.mem_of_getElem? (i := 5) rfl))) rfl rfl dX0_end_31 ?_
        refine lv_if_eq (tgt := 39) hx hb dX0_end_34 (by decide) (fun c_34 => ?_) (fun c_34 => ?_)
        · obtain ⟨p, hp4, hpp, hpg⟩ := hpa i_2 (by omega)
          have hpg : ∀ k, k < p → ∃ g, fR σ 5 i_2 k = some g ∧ g < nG σ := by rw [hnG]; exact hpg
          have hpn : pN σ i_2 = p := pN_of hpp hp4
          refine lv_aload_n hx hb dX0_end_39 rfl (lv_at hl 0 rfl) ?_
          refine va_callv (va_runV (As := []) (rest := []) ⟨hx, hb, hml, hown, hts⟩ (k_dropParts l D dA sa lo al σ μ i_2 hbi_2 p hpp hp4 hpg) (cwV 0 hts (gdV w_2_173 w_2_174 w_2_175 w_1_2 w_2_176) rfl rfl rfl (by decide +kernel) ⟨Nat.le_of_ble_eq_true rfl, Nat.le_of_ble_eq_true rfl⟩) ⟨iv_bl, sx_recv hK (c4_at hI hbi_2) rfl, fun U hU hW => ⟨rfl, iv_use hI hwd hS hU hW⟩⟩ rfl rfl hl.1 rfl (lv_room (Nat.le_of_ble_eq_true rfl)) dX0_end_40 ⟨Nat.le_of_ble_eq_true rfl, Nat.le_of_ble_eq_true rfl⟩) hS (fun q _ h => h) (fun q h => h) (fun u9 T9 H1 locs ht9 hvm9 e_40 hB9 hz9 hk9 hS => ?_)
          have hI := iv_take ht9 hB9
          clear hB9 hk9
          obtain rfl := e_40
          have hbd : i_2 < nR (uI (rDrop σ i_2 p) 4 i_2 2 0) := by rw [nR_uI, rDrop_N]; exact hbi_2
          refine lv_aload_n hx hb dX0_end_43 rfl (lv_at hl 1 rfl) ?_
          refine lv_aload_n hx hb dX0_end_44 rfl (lv_at hl 0 rfl) ?_
          refine lv_iload_n hx hb dX0_end_45 rfl (lv_at hl 3 rfl) ?_
          refine va_callv (va_runV (As := [.ref (al 4 i_2), .int how]) (rest := []) ⟨hx, hb, hml, hown, hts⟩ (k_finish l D dA sa lo al (uI (rDrop σ i_2 p) 4 i_2 2 0) μ i_2 hbd how) (cwV 2 hts (gdV w_2_177 w_2_179 wp_9 w_1_1 w_2_180) rfl rfl rfl (by decide +kernel) ⟨Nat.le_of_ble_eq_true rfl, Nat.le_of_ble_eq_true rfl⟩) ⟨iv_bl, sx_recv hK (c0_at hI) rfl, fun U hU hW => ⟨rfl, iv_use hI hwd hS hU hW⟩⟩ rfl rfl hl.1 rfl (lv_room (Nat.le_of_ble_eq_true rfl)) dX0_end_46 ⟨Nat.le_of_ble_eq_true rfl, Nat.le_of_ble_eq_true rfl⟩) hS (fun q _ h => h) (fun q h => h) (fun u9 T9 H1 locs ht9 hvm9 e_46 hB9 hz9 hk9 hS => ?_)
          have hI := iv_take ht9 hB9
          clear hB9 hk9
          obtain rfl := e_46
          refine lv_iconst (v := 1) hx hb dX0_end_49 (by decide) ?_
          refine W.widen (k := 1) (n := 6) (Nat.le_of_ble_eq_true rfl) (Nat.le_of_ble_eq_true rfl) ?_
          exact vx_ret (W.iret (v := 1) hx hb hr (fun t ht hW => ⟨⟨1, rFin (uI (rDrop σ i_2 p) 4 i_2 2 0) i_2 how, rfl, (by unfold cEnd; rw [hix]; simp only [if_neg c_12, if_pos c_17, if_pos c_34]; unfold rGo; rw [hpn]), iv_give ht hI⟩, hS.F ht⟩) hS.2.2 dX0_end_50)
        · refine lv_iconst (v := 0) hx hb dX0_end_37 (by decide) ?_
          refine W.widen (k := 1) (n := 6) (Nat.le_of_ble_eq_true rfl) (Nat.le_of_ble_eq_true rfl) ?_
          exact vx_ret (W.iret (v := 0) hx hb hr (fun t ht hW => ⟨⟨0, σ, rfl, (by unfold cEnd; rw [hix]; simp only [if_neg c_12, if_pos c_17, if_neg c_34]), iv_give ht hI⟩, hS.F ht⟩) hS.2.2 dX0_end_38)
      · exact vx_throwS (names := xnames) (text := "no such reservation or way to end") (sa := sa 121) hx hb hlt hown xIAE_fit xn_fit (hts _ w_1_191) (hts _ w_1_7) (wd_s hwd (121, "no such reservation or way to end") (List.mem_of_getElem? (i := 4) rfl)) (xIAE_hat hts (wd_n hwd)) xIAE_ot (wd_u hwd) (wd_v hwd) hS (hl.1.trans hml.symm) dX0_end_20 dX0_end_23 dX0_end_24 dX0_end_26 dX0_end_29 (fun x h => (hnoh x h).elim) (Nat.le_of_ble_eq_true rfl) (Nat.le_of_ble_eq_true rfl) (Nat.le_of_ble_eq_true rfl) (Nat.le_of_ble_eq_true rfl) hlocks (fun t ha9 hz9 hq9 => ⟨_, rfl, ⟨⟨rfl, (by unfold cEnd; rw [hix]; simp only [if_neg c_12, if_neg c_17])⟩, iv_kept hI hq9⟩, ⟨hz9, fun q h1 h2 => hq9 q h1⟩⟩) (fun z h => by cases h) (Nat.le_of_ble_eq_true rfl) (Nat.le_of_ble_eq_true rfl)
  · have hix := gIx_none hxi_2
    refine W.eq (g2 := F0 m 5 ls (.null :: [])) rfl ?_
    refine lv_astore_nN (lv' := [(3, .null), (0, .ref (al 0 0)), (1, .int x), (2, .int how)]) hx hb dX0_end_5 rfl hl (by decide) rfl (fun ls hl => ?_)
    refine lv_aload_nN hx hb dX0_end_6 rfl (lv_at hl 0 rfl) ?_
    refine lv_ifnullN (tgt := 20) hx hb dX0_end_7 (by decide) ?_
    exact vx_throwS (names := xnames) (text := "no such reservation or way to end") (sa := sa 121) hx hb hlt hown xIAE_fit xn_fit (hts _ w_1_191) (hts _ w_1_7) (wd_s hwd (121, "no such reservation or way to end") (List.mem_of_getElem? (i := 4) rfl)) (xIAE_hat hts (wd_n hwd)) xIAE_ot (wd_u hwd) (wd_v hwd) hS (hl.1.trans hml.symm) dX0_end_20 dX0_end_23 dX0_end_24 dX0_end_26 dX0_end_29 (fun x h => (hnoh x h).elim) (Nat.le_of_ble_eq_true rfl) (Nat.le_of_ble_eq_true rfl) (Nat.le_of_ble_eq_true rfl) (Nat.le_of_ble_eq_true rfl) hlocks (fun t ha9 hz9 hq9 => ⟨_, rfl, ⟨⟨rfl, (by unfold cEnd; rw [hix])⟩, iv_kept hI hq9⟩, ⟨hz9, fun q h1 h2 => hq9 q h1⟩⟩) (fun z h => by cases h) (Nat.le_of_ble_eq_true rfl) (Nat.le_of_ble_eq_true rfl)

set_option maxHeartbeats 4000000 in
set_option maxRecDepth 100000 in
theorem t_reduce (l : Launch) (D : va_G) (dA : Nat → ClassId) (sa : Nat → Nat) (lo : Nat) (al : Nat → Nat → Nat) (σ μ : CS) (hlt : l.stackTraces = false) (x : Int32) (ct : Int64) (n r : Nat) (hw : WFc σ n r) : vx_Met l yX0_reduce wsX0_reduce ({ frames := 6, cells := 1, slots := 6, locals := 160 }) (va_Pc [.ref (al 0 0), .int x, .long ct] (ivP D dA sa lo al σ μ)) (va_Ql (fun z9 (u : CS) => cReduce σ r x ct = (0, z9, u)) (ivB D dA lo al μ) (fun q => lo ≤ q)) (vx_X (fun u : CS => u = σ) (fun E u t => ((E = "java/lang/IllegalArgumentException" ∧ (cReduce σ r x ct).1 = 1)) ∧ ivB D dA lo al μ u t) (fun q => lo ≤ q)) 1 6 (fun q => lo ≤ q) := by
  refine vx_ofW (cc := cX0_reduce) (maxL := 5) (ret := some .long) (by decide) rfl ?_
  intro p e s m args below meth c s₁ B hml hnoh hv
  obtain ⟨rfl, hI, hwd⟩ := hv
  have hx := B.exec
  have hb := B.bytes
  have hr := B.returns
  have hts : ∀ w ∈ WSall, w.before _ s = true := fun w h => atoms_spec (ws := wsX0_reduce) B.pre w (List.mem_cons_of_mem _ h)
  have hown : s.vm.findClass RX0 = some m.cls := findClass_of_methodNamed B.named
  have hlocks := B.notSynchronized
  have hK := hwd.1
  have hS : va_S (fun q => lo ≤ q) s.heap s.heap [] := va_S.rf
  have hl := lv_entry ([.ref (al 0 0), .int x, .long ct]) (n := 5) (Nat.le_of_ble_eq_true rfl)
  rw [lg_entry_eq]
  generalize (lg_sl ([.ref (al 0 0), .int x, .long ct]) ++ List.replicate (5 - (lg_sl ([.ref (al 0 0), .int x, .long ct])).length) Slot.unset).toArray = ls at hl ⊢
  have hl : lv_has ls 5 [(0, .ref (al 0 0)), (1, .int x), (2, .long ct)] := hl
  obtain ⟨hnG, hnR, hn20, hr60, hgc, hrc, hdr, hgs, hrs, hho, hpa⟩ := id hw
  refine lv_aload_n hx hb dX0_reduce_0 rfl (lv_at hl 0 rfl) ?_
  refine lv_iload_n hx hb dX0_reduce_1 rfl (lv_at hl 1 rfl) ?_
  refine va_csq (W.runV (As := [.int x]) (rest := []) ⟨hx, hb, hml, hown, hts⟩ (k_reservationNumbered l D dA sa lo al σ μ x r hrc hr60 hrs) (cwV 1 hts (gdV w_2_168 w_2_170 wp_8 w_1_1 w_2_171) rfl rfl rfl (by decide +kernel) ⟨Nat.le_of_ble_eq_true rfl, Nat.le_of_ble_eq_true rfl⟩) ⟨iv_bl, sx_recv hK (c0_at hI) rfl, fun U hU hW => ⟨rfl, iv_use hI hwd hS hU hW⟩⟩ rfl rfl hl.1 rfl (lv_room (Nat.le_of_ble_eq_true rfl)) dX0_reduce_2 ⟨Nat.le_of_ble_eq_true rfl, Nat.le_of_ble_eq_true rfl⟩) (fun r_2 e_2 => ?_)
  rcases e_2 with ⟨i_2, hi_2, hxi_2, rfl⟩ | ⟨hxi_2, rfl⟩
  · have hix := gIx_some hi_2 (by omega) hxi_2
    have hbi_2 : i_2 < nR σ := (by rw [hnR]; omega)
    refine W.eq (g2 := F0 m 5 ls (.ref (al 4 i_2) :: [])) rfl ?_
    refine lv_astore (lv' := [(4, .ref (al 4 i_2)), (0, .ref (al 0 0)), (1, .int x), (2, .long ct)]) hx hb dX0_reduce_5 hl (by decide) rfl (fun ls hl => ?_)
    refine lv_aload hx hb dX0_reduce_7 (lv_at hl 0 rfl) ?_
    refine lv_ifnull hx hb dX0_reduce_9 ?_
    refine lv_lload_n hx hb dX0_reduce_12 rfl (lv_at hl 3 rfl) ?_
    refine lv_lconst (v := 1) hx hb dX0_reduce_13 (by decide) ?_
    refine W.lcmp hx hb dX0_reduce_14 ?_
    refine lv_if_ge (tgt := 28) hx hb dX0_reduce_15 (by decide) (fun c_15 => ?_) (fun c_15 => ?_)
    · have c_15 : 1 ≤ ct := (lg_cmp_ge _ _).mp c_15
      obtain ⟨p, hp4, hpp, hpg⟩ := hpa i_2 (by omega)
      have hpg : ∀ k, k < p → ∃ g, fR σ 5 i_2 k = some g ∧ g < nG σ := by rw [hnG]; exact hpg
      have hpn : pN σ i_2 = p := pN_of hpp hp4
      have hrc9 : rCov σ i_2 = sumL (fL σ 6 i_2) p := by unfold rCov; rw [hpn]
      refine lv_aload hx hb dX0_reduce_28 (lv_at hl 0 rfl) ?_
      refine sx_getN (ci := 4) (C := RX4) (T := TX4) (N := 6) (v := .int (fI σ 4 i_2 5)) hx hb hts inX4 hown hK (c4_at hI hbi_2) rfl 5 (by decide) (va_Nw.use rfl (wd_n hwd (.fieldLinkNest "GuaranteeBook" 123 "GuaranteeBook$Reservation" "state" "I" "GuaranteeBook") (List.mem_of_getElem? (i := 5) rfl))) rfl rfl dX0_reduce_30 ?_
      refine lv_if_ne (tgt := 46) hx hb dX0_reduce_33 (by decide) (fun c_33 => ?_) (fun c_33 => ?_)
      · refine lv_ldc2 (v := (-1)) hx hb hown (hts _ w_1_166) dX0_reduce_46 ?_
        refine W.widen (k := 1) (n := 6) (Nat.le_of_ble_eq_true rfl) (Nat.le_of_ble_eq_true rfl) ?_
        exact vx_ret (W.lret (v := (-1)) hx hb hr (fun t ht hW => ⟨⟨(-1), σ, rfl, (by unfold cReduce; rw [hix]; simp only [if_pos c_15, if_neg c_33]), iv_give ht hI⟩, hS.F ht⟩) hS.2.2 dX0_reduce_49)
      · refine lv_aload hx hb dX0_reduce_36 (lv_at hl 0 rfl) ?_
        refine vp_callSl (W.runV (As := []) (rest := []) ⟨hx, hb, hml, hown, hts⟩ (k_covered l D dA sa lo al σ μ i_2 hbi_2 p hpp hp4) (cwV 0 hts (gdV w_2_189 w_2_190 w_2_191 w_1_2 w_2_192) rfl rfl rfl (by decide +kernel) ⟨Nat.le_of_ble_eq_true rfl, Nat.le_of_ble_eq_true rfl⟩) ⟨iv_bl, sx_recv hK (c4_at hI hbi_2) rfl, fun U hU hW => ⟨rfl, iv_use hI hwd hS hU hW⟩⟩ rfl rfl hl.1 rfl (lv_room (Nat.le_of_ble_eq_true rfl)) dX0_reduce_38 ⟨Nat.le_of_ble_eq_true rfl, Nat.le_of_ble_eq_true rfl⟩) (fun r_38 e_38 => ?_)
        subst e_38
        refine lv_lload_n hx hb dX0_reduce_41 rfl (lv_at hl 3 rfl) ?_
        refine W.lcmp hx hb dX0_reduce_42 ?_
        refine lv_if_gt (tgt := 50) hx hb dX0_reduce_43 (by decide) (fun c_43 => ?_) (fun c_43 => ?_)
        · have c_43 : ct < (sumL (fL σ 6 i_2) p) := (lg_cmp_gt _ _).mp c_43
          refine lv_aload hx hb dX0_reduce_50 (lv_at hl 0 rfl) ?_
          refine lv_lload_n hx hb dX0_reduce_52 rfl (lv_at hl 3 rfl) ?_
          refine va_callv (va_runV (As := [.long ct]) (rest := []) ⟨hx, hb, hml, hown, hts⟩ (k_shrinkBy l D dA sa lo al σ μ i_2 hbi_2 p hpp hp4 hpg ct) (cwV 1 hts (gdV w_2_193 w_2_194 w_2_195 w_1_2 w_2_196) rfl rfl rfl (by decide +kernel) ⟨Nat.le_of_ble_eq_true rfl, Nat.le_of_ble_eq_true rfl⟩) ⟨iv_bl, sx_recv hK (c4_at hI hbi_2) rfl, fun U hU hW => ⟨rfl, iv_use hI hwd hS hU hW⟩⟩ rfl rfl hl.1 rfl (lv_room (Nat.le_of_ble_eq_true rfl)) dX0_reduce_53 ⟨Nat.le_of_ble_eq_true rfl, Nat.le_of_ble_eq_true rfl⟩) hS (fun q _ h => h) (fun q h => h) (fun u9 T9 H1 locs ht9 hvm9 e_53 hB9 hz9 hk9 hS => ?_)
          have hI := iv_take ht9 hB9
          clear hB9 hk9
          obtain rfl := e_53
          have hbs : i_2 < nR (rShr σ i_2 p ct) := by rw [rShr_N]; exact hbi_2
          obtain ⟨p2, hp24, hpp2⟩ := rShr_p (P := 4) p σ ct hp4 ⟨p, hp4, hpp⟩
          refine lv_aload hx hb dX0_reduce_56 (lv_at hl 0 rfl) ?_
          refine vp_callSl (W.runV (As := []) (rest := []) ⟨hx, hb, hml, hown, hts⟩ (k_covered l D dA sa lo al (rShr σ i_2 p ct) μ i_2 hbs p2 hpp2 hp24) (cwV 0 hts (gdV w_2_189 w_2_190 w_2_191 w_1_2 w_2_192) rfl rfl rfl (by decide +kernel) ⟨Nat.le_of_ble_eq_true rfl, Nat.le_of_ble_eq_true rfl⟩) ⟨iv_bl, sx_recv hK (c4_at hI hbs) rfl, fun U hU hW => ⟨rfl, iv_use hI hwd hS hU hW⟩⟩ rfl rfl hl.1 rfl (lv_room (Nat.le_of_ble_eq_true rfl)) dX0_reduce_58 ⟨Nat.le_of_ble_eq_true rfl, Nat.le_of_ble_eq_true rfl⟩) (fun r_58 e_58 => ?_)
          subst e_58
          refine W.widen (k := 1) (n := 6) (Nat.le_of_ble_eq_true rfl) (Nat.le_of_ble_eq_true rfl) ?_
          exact vx_ret (W.lret (v := sumL (fL (rShr σ i_2 p ct) 6 i_2) p2) hx hb hr (fun t ht hW => ⟨⟨sumL (fL (rShr σ i_2 p ct) 6 i_2) p2, rShr σ i_2 p ct, rfl, (by unfold cReduce; rw [hix]; simp only [if_pos c_15, if_pos c_33, if_pos (show ct < rCov σ i_2 by rw [hrc9]; exact c_43)]; rw [hpn]; unfold rCov; rw [pN_of hpp2 hp24]), iv_give ht hI⟩, hS.F ht⟩) hS.2.2 dX0_reduce_61)
        · have c_43 : ¬ ct < (sumL (fL σ 6 i_2) p) := fun h => c_43 ((lg_cmp_gt _ _).mpr h)
          refine lv_ldc2 (v := (-1)) hx hb hown (hts _ w_1_166) dX0_reduce_46 ?_
          refine W.widen (k := 1) (n := 6) (Nat.le_of_ble_eq_true rfl) (Nat.le_of_ble_eq_true rfl) ?_
          exact vx_ret (W.lret (v := (-1)) hx hb hr (fun t ht hW => ⟨⟨(-1), σ, rfl, (by unfold cReduce; rw [hix]; simp only [if_pos c_15, if_pos c_33, if_neg (show ¬ ct < rCov σ i_2 by rw [hrc9]; exact c_43)]), iv_give ht hI⟩, hS.F ht⟩) hS.2.2 dX0_reduce_49)
    · have c_15 : ¬ 1 ≤ ct := fun h => c_15 ((lg_cmp_ge _ _).mpr h)
      exact vx_throwS (names := xnames) (text := "no such reservation or cents") (sa := sa 133) hx hb hlt hown xIAE_fit xn_fit (hts _ w_1_191) (hts _ w_1_7) (wd_s hwd (133, "no such reservation or cents") (List.mem_of_getElem? (i := 5) rfl)) (xIAE_hat hts (wd_n hwd)) xIAE_ot (wd_u hwd) (wd_v hwd) hS (hl.1.trans hml.symm) dX0_reduce_18 dX0_reduce_21 dX0_reduce_22 dX0_reduce_24 dX0_reduce_27 (fun x h => (hnoh x h).elim) (Nat.le_of_ble_eq_true rfl) (Nat.le_of_ble_eq_true rfl) (Nat.le_of_ble_eq_true rfl) (Nat.le_of_ble_eq_true rfl) hlocks (fun t ha9 hz9 hq9 => ⟨_, rfl, ⟨⟨rfl, (by unfold cReduce; rw [hix]; simp only [if_neg c_15])⟩, iv_kept hI hq9⟩, ⟨hz9, fun q h1 h2 => hq9 q h1⟩⟩) (fun z h => by cases h) (Nat.le_of_ble_eq_true rfl) (Nat.le_of_ble_eq_true rfl)
  · have hix := gIx_none hxi_2
    refine W.eq (g2 := F0 m 5 ls (.null :: [])) rfl ?_
    refine lv_astoreN (lv' := [(4, .null), (0, .ref (al 0 0)), (1, .int x), (2, .long ct)]) hx hb dX0_reduce_5 hl (by decide) rfl (fun ls hl => ?_)
    refine lv_aloadN hx hb dX0_reduce_7 (lv_at hl 0 rfl) ?_
    refine lv_ifnullN (tgt := 18) hx hb dX0_reduce_9 (by decide) ?_
    exact vx_throwS (names := xnames) (text := "no such reservation or cents") (sa := sa 133) hx hb hlt hown xIAE_fit xn_fit (hts _ w_1_191) (hts _ w_1_7) (wd_s hwd (133, "no such reservation or cents") (List.mem_of_getElem? (i := 5) rfl)) (xIAE_hat hts (wd_n hwd)) xIAE_ot (wd_u hwd) (wd_v hwd) hS (hl.1.trans hml.symm) dX0_reduce_18 dX0_reduce_21 dX0_reduce_22 dX0_reduce_24 dX0_reduce_27 (fun x h => (hnoh x h).elim) (Nat.le_of_ble_eq_true rfl) (Nat.le_of_ble_eq_true rfl) (Nat.le_of_ble_eq_true rfl) (Nat.le_of_ble_eq_true rfl) hlocks (fun t ha9 hz9 hq9 => ⟨_, rfl, ⟨⟨rfl, (by unfold cReduce; rw [hix])⟩, iv_kept hI hq9⟩, ⟨hz9, fun q h1 h2 => hq9 q h1⟩⟩) (fun z h => by cases h) (Nat.le_of_ble_eq_true rfl) (Nat.le_of_ble_eq_true rfl)

set_option maxHeartbeats 4000000 in
set_option maxRecDepth 100000 in
theorem t_claim (l : Launch) (D : va_G) (dA : Nat → ClassId) (sa : Nat → Nat) (lo : Nat) (al : Nat → Nat → Nat) (σ μ : CS) (hlt : l.stackTraces = false) (x : Int32) (ct : Int64) (n r : Nat) (hw : WFc σ n r) : vx_Met l yX0_claim wsX0_claim ({ frames := 6, cells := 1, slots := 6, locals := 160 }) (va_Pc [.ref (al 0 0), .int x, .long ct] (ivP D dA sa lo al σ μ)) (va_Ql (fun z9 (u : CS) => cClaim σ r x ct = (0, z9, u)) (ivB D dA lo al μ) (fun q => lo ≤ q)) (vx_X (fun u : CS => u = σ) (fun E u t => ((E = "java/lang/IllegalArgumentException" ∧ (cClaim σ r x ct).1 = 1)) ∧ ivB D dA lo al μ u t) (fun q => lo ≤ q)) 1 6 (fun q => lo ≤ q) := by
  refine vx_ofW (cc := cX0_claim) (maxL := 7) (ret := some .long) (by decide) rfl ?_
  intro p e s m args below meth c s₁ B hml hnoh hv
  obtain ⟨rfl, hI, hwd⟩ := hv
  have hx := B.exec
  have hb := B.bytes
  have hr := B.returns
  have hts : ∀ w ∈ WSall, w.before _ s = true := fun w h => atoms_spec (ws := wsX0_claim) B.pre w (List.mem_cons_of_mem _ h)
  have hown : s.vm.findClass RX0 = some m.cls := findClass_of_methodNamed B.named
  have hlocks := B.notSynchronized
  have hK := hwd.1
  have hS : va_S (fun q => lo ≤ q) s.heap s.heap [] := va_S.rf
  have hl := lv_entry ([.ref (al 0 0), .int x, .long ct]) (n := 7) (Nat.le_of_ble_eq_true rfl)
  rw [lg_entry_eq]
  generalize (lg_sl ([.ref (al 0 0), .int x, .long ct]) ++ List.replicate (7 - (lg_sl ([.ref (al 0 0), .int x, .long ct])).length) Slot.unset).toArray = ls at hl ⊢
  have hl : lv_has ls 7 [(0, .ref (al 0 0)), (1, .int x), (2, .long ct)] := hl
  obtain ⟨hnG, hnR, hn20, hr60, hgc, hrc, hdr, hgs, hrs, hho, hpa⟩ := id hw
  refine lv_aload_n hx hb dX0_claim_0 rfl (lv_at hl 0 rfl) ?_
  refine lv_iload_n hx hb dX0_claim_1 rfl (lv_at hl 1 rfl) ?_
  refine va_csq (W.runV (As := [.int x]) (rest := []) ⟨hx, hb, hml, hown, hts⟩ (k_reservationNumbered l D dA sa lo al σ μ x r hrc hr60 hrs) (cwV 1 hts (gdV w_2_168 w_2_170 wp_8 w_1_1 w_2_171) rfl rfl rfl (by decide +kernel) ⟨Nat.le_of_ble_eq_true rfl, Nat.le_of_ble_eq_true rfl⟩) ⟨iv_bl, sx_recv hK (c0_at hI) rfl, fun U hU hW => ⟨rfl, iv_use hI hwd hS hU hW⟩⟩ rfl rfl hl.1 rfl (lv_room (Nat.le_of_ble_eq_true rfl)) dX0_claim_2 ⟨Nat.le_of_ble_eq_true rfl, Nat.le_of_ble_eq_true rfl⟩) (fun r_2 e_2 => ?_)
  rcases e_2 with ⟨i_2, hi_2, hxi_2, rfl⟩ | ⟨hxi_2, rfl⟩
  · have hix := gIx_some hi_2 (by omega) hxi_2
    have hbi_2 : i_2 < nR σ := (by rw [hnR]; omega)
    refine W.eq (g2 := F0 m 5 ls (.ref (al 4 i_2) :: [])) rfl ?_
    refine lv_astore (lv' := [(4, .ref (al 4 i_2)), (0, .ref (al 0 0)), (1, .int x), (2, .long ct)]) hx hb dX0_claim_5 hl (by decide) rfl (fun ls hl => ?_)
    refine lv_aload hx hb dX0_claim_7 (lv_at hl 0 rfl) ?_
    refine lv_ifnull hx hb dX0_claim_9 ?_
    refine lv_lload_n hx hb dX0_claim_12 rfl (lv_at hl 3 rfl) ?_
    refine lv_lconst (v := 1) hx hb dX0_claim_13 (by decide) ?_
    refine W.lcmp hx hb dX0_claim_14 ?_
    refine lv_if_ge (tgt := 28) hx hb dX0_claim_15 (by decide) (fun c_15 => ?_) (fun c_15 => ?_)
    · have c_15 : 1 ≤ ct := (lg_cmp_ge _ _).mp c_15
      obtain ⟨p, hp4, hpp, hpg⟩ := hpa i_2 (by omega)
      have hpg : ∀ k, k < p → ∃ g, fR σ 5 i_2 k = some g ∧ g < nG σ := by rw [hnG]; exact hpg
      have hpn : pN σ i_2 = p := pN_of hpp hp4
      have hrc9 : rCov σ i_2 = sumL (fL σ 6 i_2) p := by unfold rCov; rw [hpn]
      refine lv_aload hx hb dX0_claim_28 (lv_at hl 0 rfl) ?_
      refine sx_getN (ci := 4) (C := RX4) (T := TX4) (N := 6) (v := .int (fI σ 4 i_2 5)) hx hb hts inX4 hown hK (c4_at hI hbi_2) rfl 5 (by decide) (va_Nw.use rfl (wd_n hwd (.fieldLinkNest "GuaranteeBook" 123 "GuaranteeBook$Reservation" "state" "I" "GuaranteeBook") (List.mem_of_getElem? (i := 5) rfl))) rfl rfl dX0_claim_30 ?_
      refine lv_if_ne (tgt := 46) hx hb dX0_claim_33 (by decide) (fun c_33 => ?_) (fun c_33 => ?_)
      · refine lv_ldc2 (v := (-1)) hx hb hown (hts _ w_1_166) dX0_claim_46 ?_
        refine W.widen (k := 1) (n := 6) (Nat.le_of_ble_eq_true rfl) (Nat.le_of_ble_eq_true rfl) ?_
        exact vx_ret (W.lret (v := (-1)) hx hb hr (fun t ht hW => ⟨⟨(-1), σ, rfl, (by unfold cClaim; rw [hix]; simp only [if_pos c_15, if_neg c_33]), iv_give ht hI⟩, hS.F ht⟩) hS.2.2 dX0_claim_49)
      · refine lv_aload hx hb dX0_claim_36 (lv_at hl 0 rfl) ?_
        refine vp_callSl (W.runV (As := []) (rest := []) ⟨hx, hb, hml, hown, hts⟩ (k_covered l D dA sa lo al σ μ i_2 hbi_2 p hpp hp4) (cwV 0 hts (gdV w_2_189 w_2_190 w_2_191 w_1_2 w_2_192) rfl rfl rfl (by decide +kernel) ⟨Nat.le_of_ble_eq_true rfl, Nat.le_of_ble_eq_true rfl⟩) ⟨iv_bl, sx_recv hK (c4_at hI hbi_2) rfl, fun U hU hW => ⟨rfl, iv_use hI hwd hS hU hW⟩⟩ rfl rfl hl.1 rfl (lv_room (Nat.le_of_ble_eq_true rfl)) dX0_claim_38 ⟨Nat.le_of_ble_eq_true rfl, Nat.le_of_ble_eq_true rfl⟩) (fun r_38 e_38 => ?_)
        subst e_38
        refine lv_lload_n hx hb dX0_claim_41 rfl (lv_at hl 3 rfl) ?_
        refine W.lcmp hx hb dX0_claim_42 ?_
        refine lv_if_ge (tgt := 50) hx hb dX0_claim_43 (by decide) (fun c_43 => ?_) (fun c_43 => ?_)
        · have c_43 : ct ≤ (sumL (fL σ 6 i_2) p) := (lg_cmp_ge _ _).mp c_43
          refine lv_aload hx hb dX0_claim_50 (lv_at hl 0 rfl) ?_
          refine lv_lload_n hx hb dX0_claim_52 rfl (lv_at hl 3 rfl) ?_
          refine lv_aload_n hx hb dX0_claim_53 rfl (lv_at hl 1 rfl) ?_
          refine sx_get (ci := 0) (C := RX0) (T := TX0) (N := 10) (v := .int (fI σ 0 0 9)) hx hb hts inX0 hown hK (c0_at hI) rfl 9 (by decide) (hts _ w_1_68) rfl rfl dX0_claim_54 ?_
          refine va_calll (va_runV (As := [.long ct, .int (fI σ 0 0 9)]) (rest := []) ⟨hx, hb, hml, hown, hts⟩ (k_take l D dA sa lo al σ μ i_2 hbi_2 p hpp hp4 hpg ct (fI σ 0 0 9)) (cwV 2 hts (gdV w_2_205 w_2_206 w_2_207 w_1_2 w_2_208) rfl rfl rfl (by decide +kernel) ⟨Nat.le_of_ble_eq_true rfl, Nat.le_of_ble_eq_true rfl⟩) ⟨iv_bl, sx_recv hK (c4_at hI hbi_2) rfl, fun U hU hW => ⟨rfl, iv_use hI hwd hS hU hW⟩⟩ rfl rfl hl.1 rfl (lv_room (Nat.le_of_ble_eq_true rfl)) dX0_claim_57 ⟨Nat.le_of_ble_eq_true rfl, Nat.le_of_ble_eq_true rfl⟩) hS (fun q _ h => h) (fun q h => h) (fun r_57 u9 T9 H1 locs ht9 hvm9 e_57 hB9 hz9 hk9 hS => ?_)
          have hI := iv_take ht9 hB9
          clear hB9 hk9
          obtain ⟨rfl, rfl⟩ := e_57
          have hbt : i_2 < nR (rTk σ i_2 (fI σ 0 0 9) ct p).1 := by rw [rTk_N]; exact hbi_2
          refine lv_lstore (lv' := [(5, .long (rTk σ i_2 (fI σ 0 0 9) ct p).2.2), (4, .ref (al 4 i_2)), (0, .ref (al 0 0)), (1, .int x), (2, .long ct)]) hx hb dX0_claim_60 hl (by decide) rfl (fun ls hl => ?_)
          refine lv_aload hx hb dX0_claim_62 (lv_at hl 1 rfl) ?_
          refine va_callv (va_runV (As := []) (rest := []) ⟨hx, hb, hml, hown, hts⟩ (k_dropParts l D dA sa lo al (rTk σ i_2 (fI σ 0 0 9) ct p).1 μ i_2 hbt p (by rw [rTk_I (by decide) (by decide)]; exact hpp) hp4 (by rw [rTk_R, rTk_G]; exact hpg)) (cwV 0 hts (gdV w_2_173 w_2_174 w_2_175 w_1_2 w_2_176) rfl rfl rfl (by decide +kernel) ⟨Nat.le_of_ble_eq_true rfl, Nat.le_of_ble_eq_true rfl⟩) ⟨iv_bl, sx_recv hK (c4_at hI hbt) rfl, fun U hU hW => ⟨rfl, iv_use hI hwd hS hU hW⟩⟩ rfl rfl hl.1 rfl (lv_room (Nat.le_of_ble_eq_true rfl)) dX0_claim_64 ⟨Nat.le_of_ble_eq_true rfl, Nat.le_of_ble_eq_true rfl⟩) hS (fun q _ h => h) (fun q h => h) (fun u9 T9 H1 locs ht9 hvm9 e_64 hB9 hz9 hk9 hS => ?_)
          have hI := iv_take ht9 hB9
          clear hB9 hk9
          obtain rfl := e_64
          have hbd : i_2 < nR (uI (rDrop (rTk σ i_2 (fI σ 0 0 9) ct p).1 i_2 p) 4 i_2 2 0) := by rw [nR_uI, rDrop_N]; exact hbt
          refine lv_aload_n hx hb dX0_claim_67 rfl (lv_at hl 2 rfl) ?_
          refine lv_aload hx hb dX0_claim_68 (lv_at hl 1 rfl) ?_
          refine lv_iconst (v := 3) hx hb dX0_claim_70 (by decide) ?_
          refine va_callv (va_runV (As := [.ref (al 4 i_2), .int 3]) (rest := []) ⟨hx, hb, hml, hown, hts⟩ (k_finish l D dA sa lo al (uI (rDrop (rTk σ i_2 (fI σ 0 0 9) ct p).1 i_2 p) 4 i_2 2 0) μ i_2 hbd 3) (cwV 2 hts (gdV w_2_177 w_2_179 wp_9 w_1_1 w_2_180) rfl rfl rfl (by decide +kernel) ⟨Nat.le_of_ble_eq_true rfl, Nat.le_of_ble_eq_true rfl⟩) ⟨iv_bl, sx_recv hK (c0_at hI) rfl, fun U hU hW => ⟨rfl, iv_use hI hwd hS hU hW⟩⟩ rfl rfl hl.1 rfl (lv_room (Nat.le_of_ble_eq_true rfl)) dX0_claim_71 ⟨Nat.le_of_ble_eq_true rfl, Nat.le_of_ble_eq_true rfl⟩) hS (fun q _ h => h) (fun q h => h) (fun u9 T9 H1 locs ht9 hvm9 e_71 hB9 hz9 hk9 hS => ?_)
          have hI := iv_take ht9 hB9
          clear hB9 hk9
          obtain rfl := e_71
          refine lv_lload hx hb dX0_claim_74 (lv_at hl 0 rfl) ?_
          refine W.widen (k := 1) (n := 6) (Nat.le_of_ble_eq_true rfl) (Nat.le_of_ble_eq_true rfl) ?_
          exact vx_ret (W.lret (v := (rTk σ i_2 (fI σ 0 0 9) ct p).2.2) hx hb hr (fun t ht hW => ⟨⟨(rTk σ i_2 (fI σ 0 0 9) ct p).2.2, rFin (uI (rDrop (rTk σ i_2 (fI σ 0 0 9) ct p).1 i_2 p) 4 i_2 2 0) i_2 3, rfl, (by unfold cClaim; rw [hix]; simp only [if_pos c_15, if_pos c_33, if_pos (show ct ≤ rCov σ i_2 by rw [hrc9]; exact c_43)]; unfold rGo; rw [hpn, pN_of (p := p) (by rw [rTk_I (by decide) (by decide)]; exact hpp) hp4]), iv_give ht hI⟩, hS.F ht⟩) hS.2.2 dX0_claim_76)
        · have c_43 : ¬ ct ≤ (sumL (fL σ 6 i_2) p) := fun h => c_43 ((lg_cmp_ge _ _).mpr h)
          refine lv_ldc2 (v := (-1)) hx hb hown (hts _ w_1_166) dX0_claim_46 ?_
          refine W.widen (k := 1) (n := 6) (Nat.le_of_ble_eq_true rfl) (Nat.le_of_ble_eq_true rfl) ?_
          exact vx_ret (W.lret (v := (-1)) hx hb hr (fun t ht hW => ⟨⟨(-1), σ, rfl, (by unfold cClaim; rw [hix]; simp only [if_pos c_15, if_pos c_33, if_neg (show ¬ ct ≤ rCov σ i_2 by rw [hrc9]; exact c_43)]), iv_give ht hI⟩, hS.F ht⟩) hS.2.2 dX0_claim_49)
    · have c_15 : ¬ 1 ≤ ct := fun h => c_15 ((lg_cmp_ge _ _).mpr h)
      exact vx_throwS (names := xnames) (text := "no such reservation or cents") (sa := sa 133) hx hb hlt hown xIAE_fit xn_fit (hts _ w_1_191) (hts _ w_1_7) (wd_s hwd (133, "no such reservation or cents") (List.mem_of_getElem? (i := 5) rfl)) (xIAE_hat hts (wd_n hwd)) xIAE_ot (wd_u hwd) (wd_v hwd) hS (hl.1.trans hml.symm) dX0_claim_18 dX0_claim_21 dX0_claim_22 dX0_claim_24 dX0_claim_27 (fun x h => (hnoh x h).elim) (Nat.le_of_ble_eq_true rfl) (Nat.le_of_ble_eq_true rfl) (Nat.le_of_ble_eq_true rfl) (Nat.le_of_ble_eq_true rfl) hlocks (fun t ha9 hz9 hq9 => ⟨_, rfl, ⟨⟨rfl, (by unfold cClaim; rw [hix]; simp only [if_neg c_15])⟩, iv_kept hI hq9⟩, ⟨hz9, fun q h1 h2 => hq9 q h1⟩⟩) (fun z h => by cases h) (Nat.le_of_ble_eq_true rfl) (Nat.le_of_ble_eq_true rfl)
  · have hix := gIx_none hxi_2
    refine W.eq (g2 := F0 m 5 ls (.null :: [])) rfl ?_
    refine lv_astoreN (lv' := [(4, .null), (0, .ref (al 0 0)), (1, .int x), (2, .long ct)]) hx hb dX0_claim_5 hl (by decide) rfl (fun ls hl => ?_)
    refine lv_aloadN hx hb dX0_claim_7 (lv_at hl 0 rfl) ?_
    refine lv_ifnullN (tgt := 18) hx hb dX0_claim_9 (by decide) ?_
    exact vx_throwS (names := xnames) (text := "no such reservation or cents") (sa := sa 133) hx hb hlt hown xIAE_fit xn_fit (hts _ w_1_191) (hts _ w_1_7) (wd_s hwd (133, "no such reservation or cents") (List.mem_of_getElem? (i := 5) rfl)) (xIAE_hat hts (wd_n hwd)) xIAE_ot (wd_u hwd) (wd_v hwd) hS (hl.1.trans hml.symm) dX0_claim_18 dX0_claim_21 dX0_claim_22 dX0_claim_24 dX0_claim_27 (fun x h => (hnoh x h).elim) (Nat.le_of_ble_eq_true rfl) (Nat.le_of_ble_eq_true rfl) (Nat.le_of_ble_eq_true rfl) (Nat.le_of_ble_eq_true rfl) hlocks (fun t ha9 hz9 hq9 => ⟨_, rfl, ⟨⟨rfl, (by unfold cClaim; rw [hix])⟩, iv_kept hI hq9⟩, ⟨hz9, fun q h1 h2 => hq9 q h1⟩⟩) (fun z h => by cases h) (Nat.le_of_ble_eq_true rfl) (Nat.le_of_ble_eq_true rfl)

set_option maxHeartbeats 4000000 in
set_option maxRecDepth 100000 in
theorem t_of (l : Launch) (D : va_G) (dA : Nat → ClassId) (sa : Nat → Nat) (lo : Nat) (al : Nat → Nat → Nat) (σ μ : CS) (hlt : l.stackTraces = false) (x w : Int32) (n r : Nat) (hw : WFc σ n r) : vx_Met l yX0_of wsX0_of ({ frames := 6, cells := 1, slots := 6, locals := 160 }) (va_Pc [.ref (al 0 0), .int x, .int w] (ivP D dA sa lo al σ μ)) (va_Ql (fun z9 (u : CS) => cOf σ r x w = (0, z9, u)) (ivB D dA lo al μ) (fun q => lo ≤ q)) (vx_X (fun u : CS => u = σ) (fun E u t => ((E = "java/lang/IndexOutOfBoundsException" ∧ (cOf σ r x w).1 = 1)) ∧ ivB D dA lo al μ u t) (fun q => lo ≤ q)) 1 6 (fun q => lo ≤ q) := by
  refine vx_ofW (cc := cX0_of) (maxL := 4) (ret := some .long) (by decide) rfl ?_
  intro p e s m args below meth c s₁ B hml hnoh hv
  obtain ⟨rfl, hI, hwd⟩ := hv
  have hx := B.exec
  have hb := B.bytes
  have hr := B.returns
  have hts : ∀ w ∈ WSall, w.before _ s = true := fun w h => atoms_spec (ws := wsX0_of) B.pre w (List.mem_cons_of_mem _ h)
  have hown : s.vm.findClass RX0 = some m.cls := findClass_of_methodNamed B.named
  have hlocks := B.notSynchronized
  have hK := hwd.1
  have hS : va_S (fun q => lo ≤ q) s.heap s.heap [] := va_S.rf
  have hl := lv_entry ([.ref (al 0 0), .int x, .int w]) (n := 4) (Nat.le_of_ble_eq_true rfl)
  rw [lg_entry_eq]
  generalize (lg_sl ([.ref (al 0 0), .int x, .int w]) ++ List.replicate (4 - (lg_sl ([.ref (al 0 0), .int x, .int w])).length) Slot.unset).toArray = ls at hl ⊢
  have hl : lv_has ls 4 [(0, .ref (al 0 0)), (1, .int x), (2, .int w)] := hl
  obtain ⟨hnG, hnR, hn20, hr60, hgc, hrc, hdr, hgs, hrs, hho, hpa⟩ := id hw
  refine lv_aload_n hx hb dX0_of_0 rfl (lv_at hl 0 rfl) ?_
  refine lv_iload_n hx hb dX0_of_1 rfl (lv_at hl 1 rfl) ?_
  refine va_csq (W.runV (As := [.int x]) (rest := []) ⟨hx, hb, hml, hown, hts⟩ (k_reservationNumbered l D dA sa lo al σ μ x r hrc hr60 hrs) (cwV 1 hts (gdV w_2_168 w_2_170 wp_8 w_1_1 w_2_171) rfl rfl rfl (by decide +kernel) ⟨Nat.le_of_ble_eq_true rfl, Nat.le_of_ble_eq_true rfl⟩) ⟨iv_bl, sx_recv hK (c0_at hI) rfl, fun U hU hW => ⟨rfl, iv_use hI hwd hS hU hW⟩⟩ rfl rfl hl.1 rfl (lv_room (Nat.le_of_ble_eq_true rfl)) dX0_of_2 ⟨Nat.le_of_ble_eq_true rfl, Nat.le_of_ble_eq_true rfl⟩) (fun r_2 e_2 => ?_)
  rcases e_2 with ⟨i_2, hi_2, hxi_2, rfl⟩ | ⟨hxi_2, rfl⟩
  · have hix := gIx_some hi_2 (by omega) hxi_2
    have hbi_2 : i_2 < nR σ := (by rw [hnR]; omega)
    refine W.eq (g2 := F0 m 5 ls (.ref (al 4 i_2) :: [])) rfl ?_
    refine lv_astore_n (lv' := [(3, .ref (al 4 i_2)), (0, .ref (al 0 0)), (1, .int x), (2, .int w)]) hx hb dX0_of_5 rfl hl (by decide) rfl (fun ls hl => ?_)
    refine lv_aload_n hx hb dX0_of_6 rfl (lv_at hl 0 rfl) ?_
    refine lv_ifnonnull (tgt := 20) hx hb dX0_of_7 (by decide) ?_
    obtain ⟨p, hp4, hpp, hpg⟩ := hpa i_2 (by omega)
    have hpg : ∀ k, k < p → ∃ g, fR σ 5 i_2 k = some g ∧ g < nG σ := by rw [hnG]; exact hpg
    have hpn : pN σ i_2 = p := pN_of hpp hp4
    refine lv_aload_n hx hb dX0_of_20 rfl (lv_at hl 0 rfl) ?_
    refine lv_iload_n hx hb dX0_of_21 rfl (lv_at hl 3 rfl) ?_
    refine lv_iconst (v := 5) hx hb dX0_of_22 (by decide) ?_
    refine lv_isub hx hb dX0_of_23 ?_
    refine vp_callSi (W.runV (As := [.int (w - 5)]) (rest := []) ⟨hx, hb, hml, hown, hts⟩ (k_hasPart l D dA sa lo al σ μ i_2 hbi_2 (w - 5)) (cwV 1 hts (gdV w_3_21 w_3_22 w_3_23 w_1_2 w_3_24) rfl rfl rfl (by decide +kernel) ⟨Nat.le_of_ble_eq_true rfl, Nat.le_of_ble_eq_true rfl⟩) ⟨iv_bl, sx_recv hK (c4_at hI hbi_2) rfl, fun U hU hW => ⟨rfl, iv_use hI hwd hS hU hW⟩⟩ rfl rfl hl.1 rfl (lv_room (Nat.le_of_ble_eq_true rfl)) dX0_of_24 ⟨Nat.le_of_ble_eq_true rfl, Nat.le_of_ble_eq_true rfl⟩) (fun r_24 e_24 => ?_)
    subst e_24
    refine lv_if_eq (tgt := 39) hx hb dX0_of_27 (by decide) (fun c_27 => ?_) (fun c_27 => ?_)
    · have c_27 := bp_0.mp c_27
      refine lv_aload_n hx hb dX0_of_39 rfl (lv_at hl 0 rfl) ?_
      refine lv_iload_n hx hb dX0_of_40 rfl (lv_at hl 3 rfl) ?_
      refine lv_bipush (v := 9) hx hb dX0_of_41 (by decide) ?_
      refine lv_isub hx hb dX0_of_43 ?_
      refine vp_callSi (W.runV (As := [.int (w - 9)]) (rest := []) ⟨hx, hb, hml, hown, hts⟩ (k_hasPart l D dA sa lo al σ μ i_2 hbi_2 (w - 9)) (cwV 1 hts (gdV w_3_21 w_3_22 w_3_23 w_1_2 w_3_24) rfl rfl rfl (by decide +kernel) ⟨Nat.le_of_ble_eq_true rfl, Nat.le_of_ble_eq_true rfl⟩) ⟨iv_bl, sx_recv hK (c4_at hI hbi_2) rfl, fun U hU hW => ⟨rfl, iv_use hI hwd hS hU hW⟩⟩ rfl rfl hl.1 rfl (lv_room (Nat.le_of_ble_eq_true rfl)) dX0_of_44 ⟨Nat.le_of_ble_eq_true rfl, Nat.le_of_ble_eq_true rfl⟩) (fun r_44 e_44 => ?_)
      subst e_44
      refine lv_if_eq (tgt := 60) hx hb dX0_of_47 (by decide) (fun c_47 => ?_) (fun c_47 => ?_)
      · have c_47 := bp_0.mp c_47
        refine lv_iload_n hx hb dX0_of_60 rfl (lv_at hl 3 rfl) ?_
        by_cases c_61_0 : w = 0
        · refine lv_tableIn (tgt := 96) hx hb dX0_of_61 (by rw [c_61_0]; decide) (by rw [c_61_0]; decide) (by rw [c_61_0]; rfl) (by decide) ?_
          refine lv_aload_n hx hb dX0_of_96 rfl (lv_at hl 0 rfl) ?_
          refine sx_getN (ci := 4) (C := RX4) (T := TX4) (N := 6) (v := .int (fI σ 4 i_2 3)) hx hb hts inX4 hown hK (c4_at hI hbi_2) rfl 3 (by decide) (va_Nw.use rfl (wd_n hwd (.fieldLinkNest "GuaranteeBook" 215 "GuaranteeBook$Reservation" "holder" "I" "GuaranteeBook") (List.mem_of_getElem? (i := 3) rfl))) rfl rfl dX0_of_97 ?_
          refine lv_i2l hx hb dX0_of_100 rfl ?_
          refine W.widen (k := 1) (n := 6) (Nat.le_of_ble_eq_true rfl) (Nat.le_of_ble_eq_true rfl) ?_
          exact vx_ret (W.lret (v := (fI σ 4 i_2 3).toInt64) hx hb hr (fun t ht hW => ⟨⟨(fI σ 4 i_2 3).toInt64, σ, rfl, (by unfold cOf; rw [hix]; simp only [if_neg c_27, if_neg c_47, if_pos c_61_0]), iv_give ht hI⟩, hS.F ht⟩) hS.2.2 dX0_of_101)
        by_cases c_61_1 : w = 1
        · refine lv_tableIn (tgt := 102) hx hb dX0_of_61 (by rw [c_61_1]; decide) (by rw [c_61_1]; decide) (by rw [c_61_1]; rfl) (by decide) ?_
          refine lv_aload_n hx hb dX0_of_102 rfl (lv_at hl 0 rfl) ?_
          refine sx_getN (ci := 4) (C := RX4) (T := TX4) (N := 6) (v := .long (fL σ 4 i_2 4)) hx hb hts inX4 hown hK (c4_at hI hbi_2) rfl 4 (by decide) (va_Nw.use rfl (wd_n hwd (.fieldLinkNest "GuaranteeBook" 216 "GuaranteeBook$Reservation" "debt" "J" "GuaranteeBook") (List.mem_of_getElem? (i := 4) rfl))) rfl rfl dX0_of_103 ?_
          refine W.widen (k := 1) (n := 6) (Nat.le_of_ble_eq_true rfl) (Nat.le_of_ble_eq_true rfl) ?_
          exact vx_ret (W.lret (v := fL σ 4 i_2 4) hx hb hr (fun t ht hW => ⟨⟨fL σ 4 i_2 4, σ, rfl, (by unfold cOf; rw [hix]; simp only [if_neg c_27, if_neg c_47, if_neg c_61_0, if_pos c_61_1]), iv_give ht hI⟩, hS.F ht⟩) hS.2.2 dX0_of_106)
        by_cases c_61_2 : w = 2
        · refine lv_tableIn (tgt := 107) hx hb dX0_of_61 (by rw [c_61_2]; decide) (by rw [c_61_2]; decide) (by rw [c_61_2]; rfl) (by decide) ?_
          refine lv_aload_n hx hb dX0_of_107 rfl (lv_at hl 0 rfl) ?_
          refine vp_callSl (W.runV (As := []) (rest := []) ⟨hx, hb, hml, hown, hts⟩ (k_covered l D dA sa lo al σ μ i_2 hbi_2 p hpp hp4) (cwV 0 hts (gdV w_2_189 w_2_190 w_2_191 w_1_2 w_2_192) rfl rfl rfl (by decide +kernel) ⟨Nat.le_of_ble_eq_true rfl, Nat.le_of_ble_eq_true rfl⟩) ⟨iv_bl, sx_recv hK (c4_at hI hbi_2) rfl, fun U hU hW => ⟨rfl, iv_use hI hwd hS hU hW⟩⟩ rfl rfl hl.1 rfl (lv_room (Nat.le_of_ble_eq_true rfl)) dX0_of_108 ⟨Nat.le_of_ble_eq_true rfl, Nat.le_of_ble_eq_true rfl⟩) (fun r_108 e_108 => ?_)
          subst e_108
          refine W.widen (k := 1) (n := 6) (Nat.le_of_ble_eq_true rfl) (Nat.le_of_ble_eq_true rfl) ?_
          exact vx_ret (W.lret (v := sumL (fL σ 6 i_2) p) hx hb hr (fun t ht hW => ⟨⟨sumL (fL σ 6 i_2) p, σ, rfl, (by unfold cOf; rw [hix]; simp only [if_neg c_27, if_neg c_47, if_neg c_61_0, if_neg c_61_1, if_pos c_61_2]; unfold rCov; rw [hpn]), iv_give ht hI⟩, hS.F ht⟩) hS.2.2 dX0_of_111)
        by_cases c_61_3 : w = 3
        · refine lv_tableIn (tgt := 112) hx hb dX0_of_61 (by rw [c_61_3]; decide) (by rw [c_61_3]; decide) (by rw [c_61_3]; rfl) (by decide) ?_
          refine lv_aload_n hx hb dX0_of_112 rfl (lv_at hl 0 rfl) ?_
          refine sx_getN (ci := 4) (C := RX4) (T := TX4) (N := 6) (v := .int (fI σ 4 i_2 5)) hx hb hts inX4 hown hK (c4_at hI hbi_2) rfl 5 (by decide) (va_Nw.use rfl (wd_n hwd (.fieldLinkNest "GuaranteeBook" 123 "GuaranteeBook$Reservation" "state" "I" "GuaranteeBook") (List.mem_of_getElem? (i := 5) rfl))) rfl rfl dX0_of_113 ?_
          refine lv_i2l hx hb dX0_of_116 rfl ?_
          refine W.widen (k := 1) (n := 6) (Nat.le_of_ble_eq_true rfl) (Nat.le_of_ble_eq_true rfl) ?_
          exact vx_ret (W.lret (v := (fI σ 4 i_2 5).toInt64) hx hb hr (fun t ht hW => ⟨⟨(fI σ 4 i_2 5).toInt64, σ, rfl, (by unfold cOf; rw [hix]; simp only [if_neg c_27, if_neg c_47, if_neg c_61_0, if_neg c_61_1, if_neg c_61_2, if_pos c_61_3]), iv_give ht hI⟩, hS.F ht⟩) hS.2.2 dX0_of_117)
        by_cases c_61_4 : w = 4
        · refine lv_tableIn (tgt := 118) hx hb dX0_of_61 (by rw [c_61_4]; decide) (by rw [c_61_4]; decide) (by rw [c_61_4]; rfl) (by decide) ?_
          refine lv_aload_n hx hb dX0_of_118 rfl (lv_at hl 0 rfl) ?_
          refine sx_getN (ci := 4) (C := RX4) (T := TX4) (N := 6) (v := .int (fI σ 4 i_2 2)) hx hb hts inX4 hown hK (c4_at hI hbi_2) rfl 2 (by decide) (va_Nw.use rfl (wd_n hwd (.fieldLinkNest "GuaranteeBook" 219 "GuaranteeBook$Reservation" "parts" "I" "GuaranteeBook") (List.mem_of_getElem? (i := 2) rfl))) rfl rfl dX0_of_119 ?_
          refine lv_i2l hx hb dX0_of_122 rfl ?_
          refine W.widen (k := 1) (n := 6) (Nat.le_of_ble_eq_true rfl) (Nat.le_of_ble_eq_true rfl) ?_
          exact vx_ret (W.lret (v := (fI σ 4 i_2 2).toInt64) hx hb hr (fun t ht hW => ⟨⟨(fI σ 4 i_2 2).toInt64, σ, rfl, (by unfold cOf; rw [hix]; simp only [if_neg c_27, if_neg c_47, if_neg c_61_0, if_neg c_61_1, if_neg c_61_2, if_neg c_61_3, if_pos c_61_4]), iv_give ht hI⟩, hS.F ht⟩) hS.2.2 dX0_of_123)
        refine lv_tableOut (tgt := 124) hx hb dX0_of_61 (sw_out4 c_61_0 c_61_1 c_61_2 c_61_3 c_61_4) (by decide) ?_
        exact vx_throwS (names := xnames) (text := "no such what or part of a reservation") (sa := sa 222) hx hb hlt hown xIOB_fit xn_fit (hts _ w_2_232) (hts _ w_1_13) (wd_s hwd (222, "no such what or part of a reservation") (List.mem_of_getElem? (i := 9) rfl)) (xIOB_hat hts (wd_n hwd)) xIOB_ot (wd_u hwd) (wd_v hwd) hS (hl.1.trans hml.symm) dX0_of_124 dX0_of_127 dX0_of_128 dX0_of_130 dX0_of_133 (fun x h => (hnoh x h).elim) (Nat.le_of_ble_eq_true rfl) (Nat.le_of_ble_eq_true rfl) (Nat.le_of_ble_eq_true rfl) (Nat.le_of_ble_eq_true rfl) hlocks (fun t ha9 hz9 hq9 => ⟨_, rfl, ⟨⟨rfl, (by unfold cOf; rw [hix]; simp only [if_neg c_27, if_neg c_47, if_neg c_61_0, if_neg c_61_1, if_neg c_61_2, if_neg c_61_3, if_neg c_61_4])⟩, iv_kept hI hq9⟩, ⟨hz9, fun q h1 h2 => hq9 q h1⟩⟩) (fun z h => by cases h) (Nat.le_of_ble_eq_true rfl) (Nat.le_of_ble_eq_true rfl)
      · have c_47 := bp_n0.mp c_47
        obtain ⟨k, hkp, hwk⟩ := has_in c_47 hpp hp4
        have hin : vp_in (w - 9) 4 := by rw [hwk]; exact vp_in_nI (by omega) (by decide)
        refine lv_aload_n hx hb dX0_of_50 rfl (lv_at hl 0 rfl) ?_
        refine sx_getN (ci := 4) (C := RX4) (T := TX4) (N := 6) (v := .ref (al 6 i_2)) hx hb hts inX4 hown hK (c4_at hI hbi_2) rfl 1 (by decide) (va_Nw.use rfl (wd_n hwd (.fieldLinkNest "GuaranteeBook" 211 "GuaranteeBook$Reservation" "covers" "[J" "GuaranteeBook") (List.mem_of_getElem? (i := 1) rfl))) rfl rfl dX0_of_51 ?_
        refine lv_iload_n hx hb dX0_of_54 rfl (lv_at hl 3 rfl) ?_
        refine lv_bipush (v := 9) hx hb dX0_of_55 (by decide) ?_
        refine lv_isub hx hb dX0_of_57 ?_
        refine sx_lald hx hb hK (c6_at hI hbi_2) 1 rfl hin dX0_of_58 ?_
        refine W.widen (k := 1) (n := 6) (Nat.le_of_ble_eq_true rfl) (Nat.le_of_ble_eq_true rfl) ?_
        exact vx_ret (W.lret (v := fL σ 6 i_2 (w - 9).toNatClampNeg) hx hb hr (fun t ht hW => ⟨⟨fL σ 6 i_2 (w - 9).toNatClampNeg, σ, rfl, (by unfold cOf; rw [hix]; simp only [if_neg c_27, if_pos c_47]), iv_give ht hI⟩, hS.F ht⟩) hS.2.2 dX0_of_59)
    · have c_27 := bp_n0.mp c_27
      obtain ⟨k, hkp, hwk⟩ := has_in c_27 hpp hp4
      obtain ⟨g, hg, hgn⟩ := hpg k hkp
      refine lv_aload_n hx hb dX0_of_30 rfl (lv_at hl 0 rfl) ?_
      refine lv_iload_n hx hb dX0_of_31 rfl (lv_at hl 3 rfl) ?_
      refine lv_iconst (v := 5) hx hb dX0_of_32 (by decide) ?_
      refine lv_isub hx hb dX0_of_33 ?_
      refine W.eq (g2 := F0 m 34 ls (.int (nI k) :: [.ref (al 4 i_2)])) (by rw [hwk]) ?_
      refine vp_callSi (W.runV (As := [.int (nI k)]) (rest := []) ⟨hx, hb, hml, hown, hts⟩ (k_numberOfPart l D dA sa lo al σ μ i_2 hbi_2 k g (by omega) hg hgn) (cwV 1 hts (gdV w_3_25 w_3_26 w_3_27 w_1_2 w_3_28) rfl rfl rfl (by decide +kernel) ⟨Nat.le_of_ble_eq_true rfl, Nat.le_of_ble_eq_true rfl⟩) ⟨iv_bl, sx_recv hK (c4_at hI hbi_2) rfl, fun U hU hW => ⟨rfl, iv_use hI hwd hS hU hW⟩⟩ rfl rfl hl.1 rfl (lv_room (Nat.le_of_ble_eq_true rfl)) dX0_of_34 ⟨Nat.le_of_ble_eq_true rfl, Nat.le_of_ble_eq_true rfl⟩) (fun r_34 e_34 => ?_)
      subst e_34
      refine lv_i2l hx hb dX0_of_37 rfl ?_
      refine W.widen (k := 1) (n := 6) (Nat.le_of_ble_eq_true rfl) (Nat.le_of_ble_eq_true rfl) ?_
      exact vx_ret (W.lret (v := (fI σ 1 g 0).toInt64) hx hb hr (fun t ht hW => ⟨⟨(fI σ 1 g 0).toInt64, σ, rfl, (by unfold cOf; rw [hix]; simp only [if_pos c_27]; unfold oNum; rw [hwk, nI_clamp (by omega), hg]), iv_give ht hI⟩, hS.F ht⟩) hS.2.2 dX0_of_38)
  · have hix := gIx_none hxi_2
    refine W.eq (g2 := F0 m 5 ls (.null :: [])) rfl ?_
    refine lv_astore_nN (lv' := [(3, .null), (0, .ref (al 0 0)), (1, .int x), (2, .int w)]) hx hb dX0_of_5 rfl hl (by decide) rfl (fun ls hl => ?_)
    refine lv_aload_nN hx hb dX0_of_6 rfl (lv_at hl 0 rfl) ?_
    refine lv_ifnonnullN hx hb dX0_of_7 ?_
    exact vx_throwS (names := xnames) (text := "no such reservation") (sa := sa 202) hx hb hlt hown xIOB_fit xn_fit (hts _ w_2_232) (hts _ w_1_13) (wd_s hwd (202, "no such reservation") (List.mem_of_getElem? (i := 8) rfl)) (xIOB_hat hts (wd_n hwd)) xIOB_ot (wd_u hwd) (wd_v hwd) hS (hl.1.trans hml.symm) dX0_of_10 dX0_of_13 dX0_of_14 dX0_of_16 dX0_of_19 (fun x h => (hnoh x h).elim) (Nat.le_of_ble_eq_true rfl) (Nat.le_of_ble_eq_true rfl) (Nat.le_of_ble_eq_true rfl) (Nat.le_of_ble_eq_true rfl) hlocks (fun t ha9 hz9 hq9 => ⟨_, rfl, ⟨⟨rfl, (by unfold cOf; rw [hix])⟩, iv_kept hI hq9⟩, ⟨hz9, fun q h1 h2 => hq9 q h1⟩⟩) (fun z h => by cases h) (Nat.le_of_ble_eq_true rfl) (Nat.le_of_ble_eq_true rfl)
end
section
theorem dX5_init_0 : decode cX5_init 0 = .ok (.aload_n 0, 1) := by decide +kernel
theorem dX5_init_1 : decode cX5_init 1 = .ok (.invokespecial 1, 3) := by decide +kernel
theorem dX5_init_4 : decode cX5_init 4 = .ok (.aload_n 0, 1) := by decide +kernel
theorem dX5_init_5 : decode cX5_init 5 = .ok (.bipush 21, 2) := by decide +kernel
theorem dX5_init_7 : decode cX5_init 7 = .ok (.newarray .int, 2) := by decide +kernel
theorem dX5_init_9 : decode cX5_init 9 = .ok (.putfield 7, 3) := by decide +kernel
theorem dX5_init_12 : decode cX5_init 12 = .ok (.aload_n 0, 1) := by decide +kernel
theorem dX5_init_13 : decode cX5_init 13 = .ok (.bipush 21, 2) := by decide +kernel
theorem dX5_init_15 : decode cX5_init 15 = .ok (.newarray .long, 2) := by decide +kernel
theorem dX5_init_17 : decode cX5_init 17 = .ok (.putfield 13, 3) := by decide +kernel
theorem dX5_init_20 : decode cX5_init 20 = .ok (.aload_n 0, 1) := by decide +kernel
theorem dX5_init_21 : decode cX5_init 21 = .ok (.bipush 21, 2) := by decide +kernel
theorem dX5_init_23 : decode cX5_init 23 = .ok (.newarray .int, 2) := by decide +kernel
theorem dX5_init_25 : decode cX5_init 25 = .ok (.putfield 17, 3) := by decide +kernel
theorem dX5_init_28 : decode cX5_init 28 = .ok (.aload_n 0, 1) := by decide +kernel
theorem dX5_init_29 : decode cX5_init 29 = .ok (.bipush 21, 2) := by decide +kernel
theorem dX5_init_31 : decode cX5_init 31 = .ok (.newarray .int, 2) := by decide +kernel
theorem dX5_init_33 : decode cX5_init 33 = .ok (.putfield 20, 3) := by decide +kernel
theorem dX5_init_36 : decode cX5_init 36 = .ok (.aload_n 0, 1) := by decide +kernel
theorem dX5_init_37 : decode cX5_init 37 = .ok (.bipush 21, 2) := by decide +kernel
theorem dX5_init_39 : decode cX5_init 39 = .ok (.newarray .boolean, 2) := by decide +kernel
theorem dX5_init_41 : decode cX5_init 41 = .ok (.putfield 23, 3) := by decide +kernel
theorem dX5_init_44 : decode cX5_init 44 = .ok (.aload_n 0, 1) := by decide +kernel
theorem dX5_init_45 : decode cX5_init 45 = .ok (.bipush 21, 2) := by decide +kernel
theorem dX5_init_47 : decode cX5_init 47 = .ok (.newarray .int, 2) := by decide +kernel
theorem dX5_init_49 : decode cX5_init 49 = .ok (.putfield 27, 3) := by decide +kernel
theorem dX5_init_52 : decode cX5_init 52 = .ok (.aload_n 0, 1) := by decide +kernel
theorem dX5_init_53 : decode cX5_init 53 = .ok (.bipush 21, 2) := by decide +kernel
theorem dX5_init_55 : decode cX5_init 55 = .ok (.newarray .boolean, 2) := by decide +kernel
theorem dX5_init_57 : decode cX5_init 57 = .ok (.putfield 30, 3) := by decide +kernel
theorem dX5_init_60 : decode cX5_init 60 = .ok (.aload_n 0, 1) := by decide +kernel
theorem dX5_init_61 : decode cX5_init 61 = .ok (.bipush 21, 2) := by decide +kernel
theorem dX5_init_63 : decode cX5_init 63 = .ok (.newarray .int, 2) := by decide +kernel
theorem dX5_init_65 : decode cX5_init 65 = .ok (.putfield 33, 3) := by decide +kernel
theorem dX5_init_68 : decode cX5_init 68 = .ok (.aload_n 0, 1) := by decide +kernel
theorem dX5_init_69 : decode cX5_init 69 = .ok (.bipush 21, 2) := by decide +kernel
theorem dX5_init_71 : decode cX5_init 71 = .ok (.newarray .long, 2) := by decide +kernel
theorem dX5_init_73 : decode cX5_init 73 = .ok (.putfield 36, 3) := by decide +kernel
theorem dX5_init_76 : decode cX5_init 76 = .ok (.aload_n 0, 1) := by decide +kernel
theorem dX5_init_77 : decode cX5_init 77 = .ok (.bipush 21, 2) := by decide +kernel
theorem dX5_init_79 : decode cX5_init 79 = .ok (.newarray .long, 2) := by decide +kernel
theorem dX5_init_81 : decode cX5_init 81 = .ok (.putfield 39, 3) := by decide +kernel
theorem dX5_init_84 : decode cX5_init 84 = .ok (.aload_n 0, 1) := by decide +kernel
theorem dX5_init_85 : decode cX5_init 85 = .ok (.bipush 21, 2) := by decide +kernel
theorem dX5_init_87 : decode cX5_init 87 = .ok (.newarray .int, 2) := by decide +kernel
theorem dX5_init_89 : decode cX5_init 89 = .ok (.putfield 42, 3) := by decide +kernel
theorem dX5_init_92 : decode cX5_init 92 = .ok (.aload_n 0, 1) := by decide +kernel
theorem dX5_init_93 : decode cX5_init 93 = .ok (.bipush 20, 2) := by decide +kernel
theorem dX5_init_95 : decode cX5_init 95 = .ok (.newarray .int, 2) := by decide +kernel
theorem dX5_init_97 : decode cX5_init 97 = .ok (.putfield 45, 3) := by decide +kernel
theorem dX5_init_100 : decode cX5_init 100 = .ok (.aload_n 0, 1) := by decide +kernel
theorem dX5_init_101 : decode cX5_init 101 = .ok (.bipush 61, 2) := by decide +kernel
theorem dX5_init_103 : decode cX5_init 103 = .ok (.newarray .int, 2) := by decide +kernel
theorem dX5_init_105 : decode cX5_init 105 = .ok (.putfield 48, 3) := by decide +kernel
theorem dX5_init_108 : decode cX5_init 108 = .ok (.aload_n 0, 1) := by decide +kernel
theorem dX5_init_109 : decode cX5_init 109 = .ok (.bipush 61, 2) := by decide +kernel
theorem dX5_init_111 : decode cX5_init 111 = .ok (.newarray .long, 2) := by decide +kernel
theorem dX5_init_113 : decode cX5_init 113 = .ok (.putfield 51, 3) := by decide +kernel
theorem dX5_init_116 : decode cX5_init 116 = .ok (.aload_n 0, 1) := by decide +kernel
theorem dX5_init_117 : decode cX5_init 117 = .ok (.bipush 61, 2) := by decide +kernel
theorem dX5_init_119 : decode cX5_init 119 = .ok (.newarray .int, 2) := by decide +kernel
theorem dX5_init_121 : decode cX5_init 121 = .ok (.putfield 54, 3) := by decide +kernel
theorem dX5_init_124 : decode cX5_init 124 = .ok (.aload_n 0, 1) := by decide +kernel
theorem dX5_init_125 : decode cX5_init 125 = .ok (.bipush 61, 2) := by decide +kernel
theorem dX5_init_127 : decode cX5_init 127 = .ok (.newarray .int, 2) := by decide +kernel
theorem dX5_init_129 : decode cX5_init 129 = .ok (.putfield 57, 3) := by decide +kernel
theorem dX5_init_132 : decode cX5_init 132 = .ok (.aload_n 0, 1) := by decide +kernel
theorem dX5_init_133 : decode cX5_init 133 = .ok (.sipush 244, 3) := by decide +kernel
theorem dX5_init_136 : decode cX5_init 136 = .ok (.newarray .int, 2) := by decide +kernel
theorem dX5_init_138 : decode cX5_init 138 = .ok (.putfield 60, 3) := by decide +kernel
theorem dX5_init_141 : decode cX5_init 141 = .ok (.aload_n 0, 1) := by decide +kernel
theorem dX5_init_142 : decode cX5_init 142 = .ok (.sipush 244, 3) := by decide +kernel
theorem dX5_init_145 : decode cX5_init 145 = .ok (.newarray .long, 2) := by decide +kernel
theorem dX5_init_147 : decode cX5_init 147 = .ok (.putfield 63, 3) := by decide +kernel
theorem dX5_init_150 : decode cX5_init 150 = .ok (.aload_n 0, 1) := by decide +kernel
theorem dX5_init_151 : decode cX5_init 151 = .ok (.iconst 4, 1) := by decide +kernel
theorem dX5_init_152 : decode cX5_init 152 = .ok (.newarray .boolean, 2) := by decide +kernel
theorem dX5_init_154 : decode cX5_init 154 = .ok (.putfield 66, 3) := by decide +kernel
theorem dX5_init_157 : decode cX5_init 157 = .ok (.aload_n 0, 1) := by decide +kernel
theorem dX5_init_158 : decode cX5_init 158 = .ok (.iconst 4, 1) := by decide +kernel
theorem dX5_init_159 : decode cX5_init 159 = .ok (.newarray .int, 2) := by decide +kernel
theorem dX5_init_161 : decode cX5_init 161 = .ok (.putfield 69, 3) := by decide +kernel
theorem dX5_init_164 : decode cX5_init 164 = .ok (.return_, 1) := by decide +kernel
theorem dX5_thrown_0 : decode cX5_thrown 0 = .ok (.aload_n 0, 1) := by decide +kernel
theorem dX5_thrown_1 : decode cX5_thrown 1 = .ok (.getfield 72, 3) := by decide +kernel
theorem dX5_thrown_4 : decode cX5_thrown 4 = .ok (.ireturn, 1) := by decide +kernel
theorem dX5_refuse_0 : decode cX5_refuse 0 = .ok (.aload_n 0, 1) := by decide +kernel
theorem dX5_refuse_1 : decode cX5_refuse 1 = .ok (.iload_n 1, 1) := by decide +kernel
theorem dX5_refuse_2 : decode cX5_refuse 2 = .ok (.putfield 72, 3) := by decide +kernel
theorem dX5_refuse_5 : decode cX5_refuse 5 = .ok (.iconst 0, 1) := by decide +kernel
theorem dX5_refuse_6 : decode cX5_refuse 6 = .ok (.ireturn, 1) := by decide +kernel
theorem dX5_in_0 : decode cX5_in 0 = .ok (.lload_n 0, 1) := by decide +kernel
theorem dX5_in_1 : decode cX5_in 1 = .ok (.lload_n 2, 1) := by decide +kernel
theorem dX5_in_2 : decode cX5_in 2 = .ok (.lcmp, 1) := by decide +kernel
theorem dX5_in_3 : decode cX5_in 3 = .ok (.ifCond .lt 14, 3) := by decide +kernel
theorem dX5_in_6 : decode cX5_in 6 = .ok (.lload_n 0, 1) := by decide +kernel
theorem dX5_in_7 : decode cX5_in 7 = .ok (.lload 4, 2) := by decide +kernel
theorem dX5_in_9 : decode cX5_in 9 = .ok (.lcmp, 1) := by decide +kernel
theorem dX5_in_10 : decode cX5_in 10 = .ok (.ifCond .gt 7, 3) := by decide +kernel
theorem dX5_in_13 : decode cX5_in 13 = .ok (.iconst 1, 1) := by decide +kernel
theorem dX5_in_14 : decode cX5_in 14 = .ok (.goto 4, 3) := by decide +kernel
theorem dX5_in_17 : decode cX5_in 17 = .ok (.iconst 0, 1) := by decide +kernel
theorem dX5_in_18 : decode cX5_in 18 = .ok (.ireturn, 1) := by decide +kernel
theorem dX5_isGuarantee_0 : decode cX5_isGuarantee 0 = .ok (.iload_n 1, 1) := by decide +kernel
theorem dX5_isGuarantee_1 : decode cX5_isGuarantee 1 = .ok (.iconst 1, 1) := by decide +kernel
theorem dX5_isGuarantee_2 : decode cX5_isGuarantee 2 = .ok (.if_icmp .lt 15, 3) := by decide +kernel
theorem dX5_isGuarantee_5 : decode cX5_isGuarantee 5 = .ok (.iload_n 1, 1) := by decide +kernel
theorem dX5_isGuarantee_6 : decode cX5_isGuarantee 6 = .ok (.aload_n 0, 1) := by decide +kernel
theorem dX5_isGuarantee_7 : decode cX5_isGuarantee 7 = .ok (.getfield 76, 3) := by decide +kernel
theorem dX5_isGuarantee_10 : decode cX5_isGuarantee 10 = .ok (.if_icmp .gt 7, 3) := by decide +kernel
theorem dX5_isGuarantee_13 : decode cX5_isGuarantee 13 = .ok (.iconst 1, 1) := by decide +kernel
theorem dX5_isGuarantee_14 : decode cX5_isGuarantee 14 = .ok (.goto 4, 3) := by decide +kernel
theorem dX5_isGuarantee_17 : decode cX5_isGuarantee 17 = .ok (.iconst 0, 1) := by decide +kernel
theorem dX5_isGuarantee_18 : decode cX5_isGuarantee 18 = .ok (.ireturn, 1) := by decide +kernel
theorem dX5_isReservation_0 : decode cX5_isReservation 0 = .ok (.iload_n 1, 1) := by decide +kernel
theorem dX5_isReservation_1 : decode cX5_isReservation 1 = .ok (.iconst 1, 1) := by decide +kernel
theorem dX5_isReservation_2 : decode cX5_isReservation 2 = .ok (.if_icmp .lt 15, 3) := by decide +kernel
theorem dX5_isReservation_5 : decode cX5_isReservation 5 = .ok (.iload_n 1, 1) := by decide +kernel
theorem dX5_isReservation_6 : decode cX5_isReservation 6 = .ok (.aload_n 0, 1) := by decide +kernel
theorem dX5_isReservation_7 : decode cX5_isReservation 7 = .ok (.getfield 79, 3) := by decide +kernel
theorem dX5_isReservation_10 : decode cX5_isReservation 10 = .ok (.if_icmp .gt 7, 3) := by decide +kernel
theorem dX5_isReservation_13 : decode cX5_isReservation 13 = .ok (.iconst 1, 1) := by decide +kernel
theorem dX5_isReservation_14 : decode cX5_isReservation 14 = .ok (.goto 4, 3) := by decide +kernel
theorem dX5_isReservation_17 : decode cX5_isReservation 17 = .ok (.iconst 0, 1) := by decide +kernel
theorem dX5_isReservation_18 : decode cX5_isReservation 18 = .ok (.ireturn, 1) := by decide +kernel
theorem dX5_isHolder_0 : decode cX5_isHolder 0 = .ok (.iload_n 0, 1) := by decide +kernel
theorem dX5_isHolder_1 : decode cX5_isHolder 1 = .ok (.ifCond .lt 13, 3) := by decide +kernel
theorem dX5_isHolder_4 : decode cX5_isHolder 4 = .ok (.iload_n 0, 1) := by decide +kernel
theorem dX5_isHolder_5 : decode cX5_isHolder 5 = .ok (.bipush 8, 2) := by decide +kernel
theorem dX5_isHolder_7 : decode cX5_isHolder 7 = .ok (.if_icmp .ge 7, 3) := by decide +kernel
theorem dX5_isHolder_10 : decode cX5_isHolder 10 = .ok (.iconst 1, 1) := by decide +kernel
theorem dX5_isHolder_11 : decode cX5_isHolder 11 = .ok (.goto 4, 3) := by decide +kernel
theorem dX5_isHolder_14 : decode cX5_isHolder 14 = .ok (.iconst 0, 1) := by decide +kernel
theorem dX5_isHolder_15 : decode cX5_isHolder 15 = .ok (.ireturn, 1) := by decide +kernel
theorem dX5_guarantee_0 : decode cX5_guarantee 0 = .ok (.lload_n 2, 1) := by decide +kernel
theorem dX5_guarantee_1 : decode cX5_guarantee 1 = .ok (.lconst 1, 1) := by decide +kernel
theorem dX5_guarantee_2 : decode cX5_guarantee 2 = .ok (.ldc2_w 82, 3) := by decide +kernel
theorem dX5_guarantee_5 : decode cX5_guarantee 5 = .ok (.invokestatic 84, 3) := by decide +kernel
theorem dX5_guarantee_8 : decode cX5_guarantee 8 = .ok (.ifCond .eq 53, 3) := by decide +kernel
theorem dX5_guarantee_11 : decode cX5_guarantee 11 = .ok (.iload 4, 2) := by decide +kernel
theorem dX5_guarantee_13 : decode cX5_guarantee 13 = .ok (.i2l, 1) := by decide +kernel
theorem dX5_guarantee_14 : decode cX5_guarantee 14 = .ok (.lconst 0, 1) := by decide +kernel
theorem dX5_guarantee_15 : decode cX5_guarantee 15 = .ok (.ldc2_w 88, 3) := by decide +kernel
theorem dX5_guarantee_18 : decode cX5_guarantee 18 = .ok (.invokestatic 84, 3) := by decide +kernel
theorem dX5_guarantee_21 : decode cX5_guarantee 21 = .ok (.ifCond .eq 40, 3) := by decide +kernel
theorem dX5_guarantee_24 : decode cX5_guarantee 24 = .ok (.iload 5, 2) := by decide +kernel
theorem dX5_guarantee_26 : decode cX5_guarantee 26 = .ok (.i2l, 1) := by decide +kernel
theorem dX5_guarantee_27 : decode cX5_guarantee 27 = .ok (.lconst 1, 1) := by decide +kernel
theorem dX5_guarantee_28 : decode cX5_guarantee 28 = .ok (.ldc2_w 88, 3) := by decide +kernel
theorem dX5_guarantee_31 : decode cX5_guarantee 31 = .ok (.invokestatic 84, 3) := by decide +kernel
theorem dX5_guarantee_34 : decode cX5_guarantee 34 = .ok (.ifCond .eq 27, 3) := by decide +kernel
theorem dX5_guarantee_37 : decode cX5_guarantee 37 = .ok (.iload 4, 2) := by decide +kernel
theorem dX5_guarantee_39 : decode cX5_guarantee 39 = .ok (.iload 5, 2) := by decide +kernel
theorem dX5_guarantee_41 : decode cX5_guarantee 41 = .ok (.if_icmp .gt 20, 3) := by decide +kernel
theorem dX5_guarantee_44 : decode cX5_guarantee 44 = .ok (.iload 7, 2) := by decide +kernel
theorem dX5_guarantee_46 : decode cX5_guarantee 46 = .ok (.i2l, 1) := by decide +kernel
theorem dX5_guarantee_47 : decode cX5_guarantee 47 = .ok (.lconst 0, 1) := by decide +kernel
theorem dX5_guarantee_48 : decode cX5_guarantee 48 = .ok (.ldc2_w 90, 3) := by decide +kernel
theorem dX5_guarantee_51 : decode cX5_guarantee 51 = .ok (.invokestatic 84, 3) := by decide +kernel
theorem dX5_guarantee_54 : decode cX5_guarantee 54 = .ok (.ifCond .eq 7, 3) := by decide +kernel
theorem dX5_guarantee_57 : decode cX5_guarantee 57 = .ok (.iconst 1, 1) := by decide +kernel
theorem dX5_guarantee_58 : decode cX5_guarantee 58 = .ok (.goto 4, 3) := by decide +kernel
theorem dX5_guarantee_61 : decode cX5_guarantee 61 = .ok (.iconst 0, 1) := by decide +kernel
theorem dX5_guarantee_62 : decode cX5_guarantee 62 = .ok (.istore 8, 2) := by decide +kernel
theorem dX5_guarantee_64 : decode cX5_guarantee 64 = .ok (.iload_n 1, 1) := by decide +kernel
theorem dX5_guarantee_65 : decode cX5_guarantee 65 = .ok (.invokestatic 92, 3) := by decide +kernel
theorem dX5_guarantee_68 : decode cX5_guarantee 68 = .ok (.ifCond .eq 8, 3) := by decide +kernel
theorem dX5_guarantee_71 : decode cX5_guarantee 71 = .ok (.iload 8, 2) := by decide +kernel
theorem dX5_guarantee_73 : decode cX5_guarantee 73 = .ok (.ifCond .ne 9, 3) := by decide +kernel
theorem dX5_guarantee_76 : decode cX5_guarantee 76 = .ok (.aload_n 0, 1) := by decide +kernel
theorem dX5_guarantee_77 : decode cX5_guarantee 77 = .ok (.iconst 1, 1) := by decide +kernel
theorem dX5_guarantee_78 : decode cX5_guarantee 78 = .ok (.invokevirtual 96, 3) := by decide +kernel
theorem dX5_guarantee_81 : decode cX5_guarantee 81 = .ok (.ireturn, 1) := by decide +kernel
theorem dX5_guarantee_82 : decode cX5_guarantee 82 = .ok (.aload_n 0, 1) := by decide +kernel
theorem dX5_guarantee_83 : decode cX5_guarantee 83 = .ok (.getfield 76, 3) := by decide +kernel
theorem dX5_guarantee_86 : decode cX5_guarantee 86 = .ok (.bipush 20, 2) := by decide +kernel
theorem dX5_guarantee_88 : decode cX5_guarantee 88 = .ok (.if_icmp .ne 9, 3) := by decide +kernel
theorem dX5_guarantee_91 : decode cX5_guarantee 91 = .ok (.aload_n 0, 1) := by decide +kernel
theorem dX5_guarantee_92 : decode cX5_guarantee 92 = .ok (.iconst 2, 1) := by decide +kernel
theorem dX5_guarantee_93 : decode cX5_guarantee 93 = .ok (.invokevirtual 96, 3) := by decide +kernel
theorem dX5_guarantee_96 : decode cX5_guarantee 96 = .ok (.ireturn, 1) := by decide +kernel
theorem dX5_guarantee_97 : decode cX5_guarantee 97 = .ok (.aload_n 0, 1) := by decide +kernel
theorem dX5_guarantee_98 : decode cX5_guarantee 98 = .ok (.iconst 0, 1) := by decide +kernel
theorem dX5_guarantee_99 : decode cX5_guarantee 99 = .ok (.putfield 72, 3) := by decide +kernel
theorem dX5_guarantee_102 : decode cX5_guarantee 102 = .ok (.aload_n 0, 1) := by decide +kernel
theorem dX5_guarantee_103 : decode cX5_guarantee 103 = .ok (.getfield 45, 3) := by decide +kernel
theorem dX5_guarantee_106 : decode cX5_guarantee 106 = .ok (.aload_n 0, 1) := by decide +kernel
theorem dX5_guarantee_107 : decode cX5_guarantee 107 = .ok (.getfield 76, 3) := by decide +kernel
theorem dX5_guarantee_110 : decode cX5_guarantee 110 = .ok (.aload_n 0, 1) := by decide +kernel
theorem dX5_guarantee_111 : decode cX5_guarantee 111 = .ok (.getfield 76, 3) := by decide +kernel
theorem dX5_guarantee_114 : decode cX5_guarantee 114 = .ok (.iconst 1, 1) := by decide +kernel
theorem dX5_guarantee_115 : decode cX5_guarantee 115 = .ok (.iadd, 1) := by decide +kernel
theorem dX5_guarantee_116 : decode cX5_guarantee 116 = .ok (.iastore, 1) := by decide +kernel
theorem dX5_guarantee_117 : decode cX5_guarantee 117 = .ok (.aload_n 0, 1) := by decide +kernel
theorem dX5_guarantee_118 : decode cX5_guarantee 118 = .ok (.dup, 1) := by decide +kernel
theorem dX5_guarantee_119 : decode cX5_guarantee 119 = .ok (.getfield 76, 3) := by decide +kernel
theorem dX5_guarantee_122 : decode cX5_guarantee 122 = .ok (.iconst 1, 1) := by decide +kernel
theorem dX5_guarantee_123 : decode cX5_guarantee 123 = .ok (.iadd, 1) := by decide +kernel
theorem dX5_guarantee_124 : decode cX5_guarantee 124 = .ok (.putfield 76, 3) := by decide +kernel
theorem dX5_guarantee_127 : decode cX5_guarantee 127 = .ok (.aload_n 0, 1) := by decide +kernel
theorem dX5_guarantee_128 : decode cX5_guarantee 128 = .ok (.getfield 7, 3) := by decide +kernel
theorem dX5_guarantee_131 : decode cX5_guarantee 131 = .ok (.aload_n 0, 1) := by decide +kernel
theorem dX5_guarantee_132 : decode cX5_guarantee 132 = .ok (.getfield 76, 3) := by decide +kernel
theorem dX5_guarantee_135 : decode cX5_guarantee 135 = .ok (.iload_n 1, 1) := by decide +kernel
theorem dX5_guarantee_136 : decode cX5_guarantee 136 = .ok (.iastore, 1) := by decide +kernel
theorem dX5_guarantee_137 : decode cX5_guarantee 137 = .ok (.aload_n 0, 1) := by decide +kernel
theorem dX5_guarantee_138 : decode cX5_guarantee 138 = .ok (.getfield 13, 3) := by decide +kernel
theorem dX5_guarantee_141 : decode cX5_guarantee 141 = .ok (.aload_n 0, 1) := by decide +kernel
theorem dX5_guarantee_142 : decode cX5_guarantee 142 = .ok (.getfield 76, 3) := by decide +kernel
theorem dX5_guarantee_145 : decode cX5_guarantee 145 = .ok (.lload_n 2, 1) := by decide +kernel
theorem dX5_guarantee_146 : decode cX5_guarantee 146 = .ok (.lastore, 1) := by decide +kernel
theorem dX5_guarantee_147 : decode cX5_guarantee 147 = .ok (.aload_n 0, 1) := by decide +kernel
theorem dX5_guarantee_148 : decode cX5_guarantee 148 = .ok (.getfield 17, 3) := by decide +kernel
theorem dX5_guarantee_151 : decode cX5_guarantee 151 = .ok (.aload_n 0, 1) := by decide +kernel
theorem dX5_guarantee_152 : decode cX5_guarantee 152 = .ok (.getfield 76, 3) := by decide +kernel
theorem dX5_guarantee_155 : decode cX5_guarantee 155 = .ok (.iload 4, 2) := by decide +kernel
theorem dX5_guarantee_157 : decode cX5_guarantee 157 = .ok (.iastore, 1) := by decide +kernel
theorem dX5_guarantee_158 : decode cX5_guarantee 158 = .ok (.aload_n 0, 1) := by decide +kernel
theorem dX5_guarantee_159 : decode cX5_guarantee 159 = .ok (.getfield 20, 3) := by decide +kernel
theorem dX5_guarantee_162 : decode cX5_guarantee 162 = .ok (.aload_n 0, 1) := by decide +kernel
theorem dX5_guarantee_163 : decode cX5_guarantee 163 = .ok (.getfield 76, 3) := by decide +kernel
theorem dX5_guarantee_166 : decode cX5_guarantee 166 = .ok (.iload 5, 2) := by decide +kernel
theorem dX5_guarantee_168 : decode cX5_guarantee 168 = .ok (.iastore, 1) := by decide +kernel
theorem dX5_guarantee_169 : decode cX5_guarantee 169 = .ok (.aload_n 0, 1) := by decide +kernel
theorem dX5_guarantee_170 : decode cX5_guarantee 170 = .ok (.getfield 23, 3) := by decide +kernel
theorem dX5_guarantee_173 : decode cX5_guarantee 173 = .ok (.aload_n 0, 1) := by decide +kernel
theorem dX5_guarantee_174 : decode cX5_guarantee 174 = .ok (.getfield 76, 3) := by decide +kernel
theorem dX5_guarantee_177 : decode cX5_guarantee 177 = .ok (.iload 6, 2) := by decide +kernel
theorem dX5_guarantee_179 : decode cX5_guarantee 179 = .ok (.bastore, 1) := by decide +kernel
theorem dX5_guarantee_180 : decode cX5_guarantee 180 = .ok (.aload_n 0, 1) := by decide +kernel
theorem dX5_guarantee_181 : decode cX5_guarantee 181 = .ok (.getfield 27, 3) := by decide +kernel
theorem dX5_guarantee_184 : decode cX5_guarantee 184 = .ok (.aload_n 0, 1) := by decide +kernel
theorem dX5_guarantee_185 : decode cX5_guarantee 185 = .ok (.getfield 76, 3) := by decide +kernel
theorem dX5_guarantee_188 : decode cX5_guarantee 188 = .ok (.iload 7, 2) := by decide +kernel
theorem dX5_guarantee_190 : decode cX5_guarantee 190 = .ok (.iastore, 1) := by decide +kernel
theorem dX5_guarantee_191 : decode cX5_guarantee 191 = .ok (.aload_n 0, 1) := by decide +kernel
theorem dX5_guarantee_192 : decode cX5_guarantee 192 = .ok (.getfield 42, 3) := by decide +kernel
theorem dX5_guarantee_195 : decode cX5_guarantee 195 = .ok (.aload_n 0, 1) := by decide +kernel
theorem dX5_guarantee_196 : decode cX5_guarantee 196 = .ok (.getfield 76, 3) := by decide +kernel
theorem dX5_guarantee_199 : decode cX5_guarantee 199 = .ok (.aload_n 0, 1) := by decide +kernel
theorem dX5_guarantee_200 : decode cX5_guarantee 200 = .ok (.getfield 100, 3) := by decide +kernel
theorem dX5_guarantee_203 : decode cX5_guarantee 203 = .ok (.iastore, 1) := by decide +kernel
theorem dX5_guarantee_204 : decode cX5_guarantee 204 = .ok (.aload_n 0, 1) := by decide +kernel
theorem dX5_guarantee_205 : decode cX5_guarantee 205 = .ok (.getfield 76, 3) := by decide +kernel
theorem dX5_guarantee_208 : decode cX5_guarantee 208 = .ok (.ireturn, 1) := by decide +kernel
theorem dX5_list_0 : decode cX5_list 0 = .ok (.aload_n 0, 1) := by decide +kernel
theorem dX5_list_1 : decode cX5_list 1 = .ok (.iconst 0, 1) := by decide +kernel
theorem dX5_list_2 : decode cX5_list 2 = .ok (.putfield 72, 3) := by decide +kernel
theorem dX5_list_5 : decode cX5_list 5 = .ok (.iload_n 2, 1) := by decide +kernel
theorem dX5_list_6 : decode cX5_list 6 = .ok (.istore_n 3, 1) := by decide +kernel
theorem dX5_list_7 : decode cX5_list 7 = .ok (.iconst 0, 1) := by decide +kernel
theorem dX5_list_8 : decode cX5_list 8 = .ok (.istore 4, 2) := by decide +kernel
theorem dX5_list_10 : decode cX5_list 10 = .ok (.iload 4, 2) := by decide +kernel
theorem dX5_list_12 : decode cX5_list 12 = .ok (.aload_n 0, 1) := by decide +kernel
theorem dX5_list_13 : decode cX5_list 13 = .ok (.getfield 76, 3) := by decide +kernel
theorem dX5_list_16 : decode cX5_list 16 = .ok (.if_icmp .ge 61, 3) := by decide +kernel
theorem dX5_list_19 : decode cX5_list 19 = .ok (.aload_n 0, 1) := by decide +kernel
theorem dX5_list_20 : decode cX5_list 20 = .ok (.getfield 7, 3) := by decide +kernel
theorem dX5_list_23 : decode cX5_list 23 = .ok (.aload_n 0, 1) := by decide +kernel
theorem dX5_list_24 : decode cX5_list 24 = .ok (.getfield 45, 3) := by decide +kernel
theorem dX5_list_27 : decode cX5_list 27 = .ok (.iload 4, 2) := by decide +kernel
theorem dX5_list_29 : decode cX5_list 29 = .ok (.iaload, 1) := by decide +kernel
theorem dX5_list_30 : decode cX5_list 30 = .ok (.iaload, 1) := by decide +kernel
theorem dX5_list_31 : decode cX5_list 31 = .ok (.iload_n 1, 1) := by decide +kernel
theorem dX5_list_32 : decode cX5_list 32 = .ok (.if_icmp .ne 15, 3) := by decide +kernel
theorem dX5_list_35 : decode cX5_list 35 = .ok (.iload_n 3, 1) := by decide +kernel
theorem dX5_list_36 : decode cX5_list 36 = .ok (.ifCond .ne 11, 3) := by decide +kernel
theorem dX5_list_39 : decode cX5_list 39 = .ok (.aload_n 0, 1) := by decide +kernel
theorem dX5_list_40 : decode cX5_list 40 = .ok (.getfield 45, 3) := by decide +kernel
theorem dX5_list_43 : decode cX5_list 43 = .ok (.iload 4, 2) := by decide +kernel
theorem dX5_list_45 : decode cX5_list 45 = .ok (.iaload, 1) := by decide +kernel
theorem dX5_list_46 : decode cX5_list 46 = .ok (.ireturn, 1) := by decide +kernel
theorem dX5_list_47 : decode cX5_list 47 = .ok (.iload_n 3, 1) := by decide +kernel
theorem dX5_list_48 : decode cX5_list 48 = .ok (.aload_n 0, 1) := by decide +kernel
theorem dX5_list_49 : decode cX5_list 49 = .ok (.getfield 7, 3) := by decide +kernel
theorem dX5_list_52 : decode cX5_list 52 = .ok (.aload_n 0, 1) := by decide +kernel
theorem dX5_list_53 : decode cX5_list 53 = .ok (.getfield 45, 3) := by decide +kernel
theorem dX5_list_56 : decode cX5_list 56 = .ok (.iload 4, 2) := by decide +kernel
theorem dX5_list_58 : decode cX5_list 58 = .ok (.iaload, 1) := by decide +kernel
theorem dX5_list_59 : decode cX5_list 59 = .ok (.iaload, 1) := by decide +kernel
theorem dX5_list_60 : decode cX5_list 60 = .ok (.iload_n 1, 1) := by decide +kernel
theorem dX5_list_61 : decode cX5_list 61 = .ok (.if_icmp .ne 7, 3) := by decide +kernel
theorem dX5_list_64 : decode cX5_list 64 = .ok (.iconst 1, 1) := by decide +kernel
theorem dX5_list_65 : decode cX5_list 65 = .ok (.goto 4, 3) := by decide +kernel
theorem dX5_list_68 : decode cX5_list 68 = .ok (.iconst 0, 1) := by decide +kernel
theorem dX5_list_69 : decode cX5_list 69 = .ok (.isub, 1) := by decide +kernel
theorem dX5_list_70 : decode cX5_list 70 = .ok (.istore_n 3, 1) := by decide +kernel
theorem dX5_list_71 : decode cX5_list 71 = .ok (.iinc 4 1, 3) := by decide +kernel
theorem dX5_list_74 : decode cX5_list 74 = .ok (.goto (-64), 3) := by decide +kernel
theorem dX5_list_77 : decode cX5_list 77 = .ok (.iconst (-1), 1) := by decide +kernel
theorem dX5_list_78 : decode cX5_list 78 = .ok (.ireturn, 1) := by decide +kernel
theorem dX5_first_0 : decode cX5_first 0 = .ok (.aload_n 0, 1) := by decide +kernel
theorem dX5_first_1 : decode cX5_first 1 = .ok (.iconst 0, 1) := by decide +kernel
theorem dX5_first_2 : decode cX5_first 2 = .ok (.putfield 72, 3) := by decide +kernel
theorem dX5_first_5 : decode cX5_first 5 = .ok (.aload_n 0, 1) := by decide +kernel
theorem dX5_first_6 : decode cX5_first 6 = .ok (.iload_n 1, 1) := by decide +kernel
theorem dX5_first_7 : decode cX5_first 7 = .ok (.invokevirtual 103, 3) := by decide +kernel
theorem dX5_first_10 : decode cX5_first 10 = .ok (.ifCond .ne 5, 3) := by decide +kernel
theorem dX5_first_13 : decode cX5_first 13 = .ok (.iconst 0, 1) := by decide +kernel
theorem dX5_first_14 : decode cX5_first 14 = .ok (.ireturn, 1) := by decide +kernel
theorem dX5_first_15 : decode cX5_first 15 = .ok (.iconst 0, 1) := by decide +kernel
theorem dX5_first_16 : decode cX5_first 16 = .ok (.istore_n 2, 1) := by decide +kernel
theorem dX5_first_17 : decode cX5_first 17 = .ok (.iconst 0, 1) := by decide +kernel
theorem dX5_first_18 : decode cX5_first 18 = .ok (.istore_n 3, 1) := by decide +kernel
theorem dX5_first_19 : decode cX5_first 19 = .ok (.aload_n 0, 1) := by decide +kernel
theorem dX5_first_20 : decode cX5_first 20 = .ok (.getfield 45, 3) := by decide +kernel
theorem dX5_first_23 : decode cX5_first 23 = .ok (.iload_n 2, 1) := by decide +kernel
theorem dX5_first_24 : decode cX5_first 24 = .ok (.iaload, 1) := by decide +kernel
theorem dX5_first_25 : decode cX5_first 25 = .ok (.iload_n 1, 1) := by decide +kernel
theorem dX5_first_26 : decode cX5_first 26 = .ok (.if_icmp .eq 39, 3) := by decide +kernel
theorem dX5_first_29 : decode cX5_first 29 = .ok (.iload_n 3, 1) := by decide +kernel
theorem dX5_first_30 : decode cX5_first 30 = .ok (.ifCond .ne 23, 3) := by decide +kernel
theorem dX5_first_33 : decode cX5_first 33 = .ok (.aload_n 0, 1) := by decide +kernel
theorem dX5_first_34 : decode cX5_first 34 = .ok (.getfield 7, 3) := by decide +kernel
theorem dX5_first_37 : decode cX5_first 37 = .ok (.aload_n 0, 1) := by decide +kernel
theorem dX5_first_38 : decode cX5_first 38 = .ok (.getfield 45, 3) := by decide +kernel
theorem dX5_first_41 : decode cX5_first 41 = .ok (.iload_n 2, 1) := by decide +kernel
theorem dX5_first_42 : decode cX5_first 42 = .ok (.iaload, 1) := by decide +kernel
theorem dX5_first_43 : decode cX5_first 43 = .ok (.iaload, 1) := by decide +kernel
theorem dX5_first_44 : decode cX5_first 44 = .ok (.aload_n 0, 1) := by decide +kernel
theorem dX5_first_45 : decode cX5_first 45 = .ok (.getfield 7, 3) := by decide +kernel
theorem dX5_first_48 : decode cX5_first 48 = .ok (.iload_n 1, 1) := by decide +kernel
theorem dX5_first_49 : decode cX5_first 49 = .ok (.iaload, 1) := by decide +kernel
theorem dX5_first_50 : decode cX5_first 50 = .ok (.if_icmp .ne 7, 3) := by decide +kernel
theorem dX5_first_53 : decode cX5_first 53 = .ok (.iconst 1, 1) := by decide +kernel
theorem dX5_first_54 : decode cX5_first 54 = .ok (.goto 4, 3) := by decide +kernel
theorem dX5_first_57 : decode cX5_first 57 = .ok (.iconst 0, 1) := by decide +kernel
theorem dX5_first_58 : decode cX5_first 58 = .ok (.istore_n 3, 1) := by decide +kernel
theorem dX5_first_59 : decode cX5_first 59 = .ok (.iinc 2 1, 3) := by decide +kernel
theorem dX5_first_62 : decode cX5_first 62 = .ok (.goto (-43), 3) := by decide +kernel
theorem dX5_first_65 : decode cX5_first 65 = .ok (.iload_n 2, 1) := by decide +kernel
theorem dX5_first_66 : decode cX5_first 66 = .ok (.istore 4, 2) := by decide +kernel
theorem dX5_first_68 : decode cX5_first 68 = .ok (.iload 4, 2) := by decide +kernel
theorem dX5_first_70 : decode cX5_first 70 = .ok (.ifCond .le 29, 3) := by decide +kernel
theorem dX5_first_73 : decode cX5_first 73 = .ok (.iload_n 3, 1) := by decide +kernel
theorem dX5_first_74 : decode cX5_first 74 = .ok (.ifCond .eq 25, 3) := by decide +kernel
theorem dX5_first_77 : decode cX5_first 77 = .ok (.aload_n 0, 1) := by decide +kernel
theorem dX5_first_78 : decode cX5_first 78 = .ok (.getfield 45, 3) := by decide +kernel
theorem dX5_first_81 : decode cX5_first 81 = .ok (.iload 4, 2) := by decide +kernel
theorem dX5_first_83 : decode cX5_first 83 = .ok (.aload_n 0, 1) := by decide +kernel
theorem dX5_first_84 : decode cX5_first 84 = .ok (.getfield 45, 3) := by decide +kernel
theorem dX5_first_87 : decode cX5_first 87 = .ok (.iload 4, 2) := by decide +kernel
theorem dX5_first_89 : decode cX5_first 89 = .ok (.iconst 1, 1) := by decide +kernel
theorem dX5_first_90 : decode cX5_first 90 = .ok (.isub, 1) := by decide +kernel
theorem dX5_first_91 : decode cX5_first 91 = .ok (.iaload, 1) := by decide +kernel
theorem dX5_first_92 : decode cX5_first 92 = .ok (.iastore, 1) := by decide +kernel
theorem dX5_first_93 : decode cX5_first 93 = .ok (.iinc 4 (-1), 3) := by decide +kernel
theorem dX5_first_96 : decode cX5_first 96 = .ok (.goto (-28), 3) := by decide +kernel
theorem dX5_first_99 : decode cX5_first 99 = .ok (.aload_n 0, 1) := by decide +kernel
theorem dX5_first_100 : decode cX5_first 100 = .ok (.getfield 45, 3) := by decide +kernel
theorem dX5_first_103 : decode cX5_first 103 = .ok (.iload_n 3, 1) := by decide +kernel
theorem dX5_first_104 : decode cX5_first 104 = .ok (.ifCond .eq 7, 3) := by decide +kernel
theorem dX5_first_107 : decode cX5_first 107 = .ok (.iconst 0, 1) := by decide +kernel
theorem dX5_first_108 : decode cX5_first 108 = .ok (.goto 4, 3) := by decide +kernel
theorem dX5_first_111 : decode cX5_first 111 = .ok (.iload_n 2, 1) := by decide +kernel
theorem dX5_first_112 : decode cX5_first 112 = .ok (.iload_n 1, 1) := by decide +kernel
theorem dX5_first_113 : decode cX5_first 113 = .ok (.iastore, 1) := by decide +kernel
theorem dX5_first_114 : decode cX5_first 114 = .ok (.iload_n 3, 1) := by decide +kernel
theorem dX5_first_115 : decode cX5_first 115 = .ok (.ireturn, 1) := by decide +kernel
theorem dX5_needs_0 : decode cX5_needs 0 = .ok (.lload_n 2, 1) := by decide +kernel
theorem dX5_needs_1 : decode cX5_needs 1 = .ok (.aload_n 0, 1) := by decide +kernel
theorem dX5_needs_2 : decode cX5_needs 2 = .ok (.getfield 17, 3) := by decide +kernel
theorem dX5_needs_5 : decode cX5_needs 5 = .ok (.iload_n 1, 1) := by decide +kernel
theorem dX5_needs_6 : decode cX5_needs 6 = .ok (.iaload, 1) := by decide +kernel
theorem dX5_needs_7 : decode cX5_needs 7 = .ok (.i2l, 1) := by decide +kernel
theorem dX5_needs_8 : decode cX5_needs 8 = .ok (.lmul, 1) := by decide +kernel
theorem dX5_needs_9 : decode cX5_needs 9 = .ok (.lstore 4, 2) := by decide +kernel
theorem dX5_needs_11 : decode cX5_needs 11 = .ok (.lload 4, 2) := by decide +kernel
theorem dX5_needs_13 : decode cX5_needs 13 = .ok (.aload_n 0, 1) := by decide +kernel
theorem dX5_needs_14 : decode cX5_needs 14 = .ok (.getfield 20, 3) := by decide +kernel
theorem dX5_needs_17 : decode cX5_needs 17 = .ok (.iload_n 1, 1) := by decide +kernel
theorem dX5_needs_18 : decode cX5_needs 18 = .ok (.iaload, 1) := by decide +kernel
theorem dX5_needs_19 : decode cX5_needs 19 = .ok (.i2l, 1) := by decide +kernel
theorem dX5_needs_20 : decode cX5_needs 20 = .ok (.ldiv, 1) := by decide +kernel
theorem dX5_needs_21 : decode cX5_needs 21 = .ok (.lload 4, 2) := by decide +kernel
theorem dX5_needs_23 : decode cX5_needs 23 = .ok (.aload_n 0, 1) := by decide +kernel
theorem dX5_needs_24 : decode cX5_needs 24 = .ok (.getfield 20, 3) := by decide +kernel
theorem dX5_needs_27 : decode cX5_needs 27 = .ok (.iload_n 1, 1) := by decide +kernel
theorem dX5_needs_28 : decode cX5_needs 28 = .ok (.iaload, 1) := by decide +kernel
theorem dX5_needs_29 : decode cX5_needs 29 = .ok (.i2l, 1) := by decide +kernel
theorem dX5_needs_30 : decode cX5_needs 30 = .ok (.lrem, 1) := by decide +kernel
theorem dX5_needs_31 : decode cX5_needs 31 = .ok (.lconst 0, 1) := by decide +kernel
theorem dX5_needs_32 : decode cX5_needs 32 = .ok (.lcmp, 1) := by decide +kernel
theorem dX5_needs_33 : decode cX5_needs 33 = .ok (.ifCond .le 7, 3) := by decide +kernel
theorem dX5_needs_36 : decode cX5_needs 36 = .ok (.lconst 1, 1) := by decide +kernel
theorem dX5_needs_37 : decode cX5_needs 37 = .ok (.goto 4, 3) := by decide +kernel
theorem dX5_needs_40 : decode cX5_needs 40 = .ok (.lconst 0, 1) := by decide +kernel
theorem dX5_needs_41 : decode cX5_needs 41 = .ok (.ladd, 1) := by decide +kernel
theorem dX5_needs_42 : decode cX5_needs 42 = .ok (.lreturn, 1) := by decide +kernel
theorem dX5_needed_0 : decode cX5_needed 0 = .ok (.lconst 0, 1) := by decide +kernel
theorem dX5_needed_1 : decode cX5_needed 1 = .ok (.lstore_n 2, 1) := by decide +kernel
theorem dX5_needed_2 : decode cX5_needed 2 = .ok (.iconst 1, 1) := by decide +kernel
theorem dX5_needed_3 : decode cX5_needed 3 = .ok (.istore 4, 2) := by decide +kernel
theorem dX5_needed_5 : decode cX5_needed 5 = .ok (.iload 4, 2) := by decide +kernel
theorem dX5_needed_7 : decode cX5_needed 7 = .ok (.aload_n 0, 1) := by decide +kernel
theorem dX5_needed_8 : decode cX5_needed 8 = .ok (.getfield 79, 3) := by decide +kernel
theorem dX5_needed_11 : decode cX5_needed 11 = .ok (.if_icmp .gt 68, 3) := by decide +kernel
theorem dX5_needed_14 : decode cX5_needed 14 = .ok (.iconst 4, 1) := by decide +kernel
theorem dX5_needed_15 : decode cX5_needed 15 = .ok (.iload 4, 2) := by decide +kernel
theorem dX5_needed_17 : decode cX5_needed 17 = .ok (.imul, 1) := by decide +kernel
theorem dX5_needed_18 : decode cX5_needed 18 = .ok (.istore 5, 2) := by decide +kernel
theorem dX5_needed_20 : decode cX5_needed 20 = .ok (.iload 5, 2) := by decide +kernel
theorem dX5_needed_22 : decode cX5_needed 22 = .ok (.iconst 4, 1) := by decide +kernel
theorem dX5_needed_23 : decode cX5_needed 23 = .ok (.iload 4, 2) := by decide +kernel
theorem dX5_needed_25 : decode cX5_needed 25 = .ok (.imul, 1) := by decide +kernel
theorem dX5_needed_26 : decode cX5_needed 26 = .ok (.aload_n 0, 1) := by decide +kernel
theorem dX5_needed_27 : decode cX5_needed 27 = .ok (.getfield 57, 3) := by decide +kernel
theorem dX5_needed_30 : decode cX5_needed 30 = .ok (.iload 4, 2) := by decide +kernel
theorem dX5_needed_32 : decode cX5_needed 32 = .ok (.iaload, 1) := by decide +kernel
theorem dX5_needed_33 : decode cX5_needed 33 = .ok (.iadd, 1) := by decide +kernel
theorem dX5_needed_34 : decode cX5_needed 34 = .ok (.if_icmp .ge 39, 3) := by decide +kernel
theorem dX5_needed_37 : decode cX5_needed 37 = .ok (.lload_n 2, 1) := by decide +kernel
theorem dX5_needed_38 : decode cX5_needed 38 = .ok (.aload_n 0, 1) := by decide +kernel
theorem dX5_needed_39 : decode cX5_needed 39 = .ok (.getfield 60, 3) := by decide +kernel
theorem dX5_needed_42 : decode cX5_needed 42 = .ok (.iload 5, 2) := by decide +kernel
theorem dX5_needed_44 : decode cX5_needed 44 = .ok (.iaload, 1) := by decide +kernel
theorem dX5_needed_45 : decode cX5_needed 45 = .ok (.iload_n 1, 1) := by decide +kernel
theorem dX5_needed_46 : decode cX5_needed 46 = .ok (.if_icmp .ne 18, 3) := by decide +kernel
theorem dX5_needed_49 : decode cX5_needed 49 = .ok (.aload_n 0, 1) := by decide +kernel
theorem dX5_needed_50 : decode cX5_needed 50 = .ok (.iload_n 1, 1) := by decide +kernel
theorem dX5_needed_51 : decode cX5_needed 51 = .ok (.aload_n 0, 1) := by decide +kernel
theorem dX5_needed_52 : decode cX5_needed 52 = .ok (.getfield 63, 3) := by decide +kernel
theorem dX5_needed_55 : decode cX5_needed 55 = .ok (.iload 5, 2) := by decide +kernel
theorem dX5_needed_57 : decode cX5_needed 57 = .ok (.laload, 1) := by decide +kernel
theorem dX5_needed_58 : decode cX5_needed 58 = .ok (.invokevirtual 106, 3) := by decide +kernel
theorem dX5_needed_61 : decode cX5_needed 61 = .ok (.goto 4, 3) := by decide +kernel
theorem dX5_needed_64 : decode cX5_needed 64 = .ok (.lconst 0, 1) := by decide +kernel
theorem dX5_needed_65 : decode cX5_needed 65 = .ok (.ladd, 1) := by decide +kernel
theorem dX5_needed_66 : decode cX5_needed 66 = .ok (.lstore_n 2, 1) := by decide +kernel
theorem dX5_needed_67 : decode cX5_needed 67 = .ok (.iinc 5 1, 3) := by decide +kernel
theorem dX5_needed_70 : decode cX5_needed 70 = .ok (.goto (-50), 3) := by decide +kernel
theorem dX5_needed_73 : decode cX5_needed 73 = .ok (.iinc 4 1, 3) := by decide +kernel
theorem dX5_needed_76 : decode cX5_needed 76 = .ok (.goto (-71), 3) := by decide +kernel
theorem dX5_needed_79 : decode cX5_needed 79 = .ok (.lload_n 2, 1) := by decide +kernel
theorem dX5_needed_80 : decode cX5_needed 80 = .ok (.lreturn, 1) := by decide +kernel
theorem dX5_used_0 : decode cX5_used 0 = .ok (.iconst 0, 1) := by decide +kernel
theorem dX5_used_1 : decode cX5_used 1 = .ok (.istore_n 2, 1) := by decide +kernel
theorem dX5_used_2 : decode cX5_used 2 = .ok (.iconst 1, 1) := by decide +kernel
theorem dX5_used_3 : decode cX5_used 3 = .ok (.istore_n 3, 1) := by decide +kernel
theorem dX5_used_4 : decode cX5_used 4 = .ok (.iload_n 3, 1) := by decide +kernel
theorem dX5_used_5 : decode cX5_used 5 = .ok (.aload_n 0, 1) := by decide +kernel
theorem dX5_used_6 : decode cX5_used 6 = .ok (.getfield 79, 3) := by decide +kernel
theorem dX5_used_9 : decode cX5_used 9 = .ok (.if_icmp .gt 54, 3) := by decide +kernel
theorem dX5_used_12 : decode cX5_used 12 = .ok (.iconst 4, 1) := by decide +kernel
theorem dX5_used_13 : decode cX5_used 13 = .ok (.iload_n 3, 1) := by decide +kernel
theorem dX5_used_14 : decode cX5_used 14 = .ok (.imul, 1) := by decide +kernel
theorem dX5_used_15 : decode cX5_used 15 = .ok (.istore 4, 2) := by decide +kernel
theorem dX5_used_17 : decode cX5_used 17 = .ok (.iload 4, 2) := by decide +kernel
theorem dX5_used_19 : decode cX5_used 19 = .ok (.iconst 4, 1) := by decide +kernel
theorem dX5_used_20 : decode cX5_used 20 = .ok (.iload_n 3, 1) := by decide +kernel
theorem dX5_used_21 : decode cX5_used 21 = .ok (.imul, 1) := by decide +kernel
theorem dX5_used_22 : decode cX5_used 22 = .ok (.aload_n 0, 1) := by decide +kernel
theorem dX5_used_23 : decode cX5_used 23 = .ok (.getfield 57, 3) := by decide +kernel
theorem dX5_used_26 : decode cX5_used 26 = .ok (.iload_n 3, 1) := by decide +kernel
theorem dX5_used_27 : decode cX5_used 27 = .ok (.iaload, 1) := by decide +kernel
theorem dX5_used_28 : decode cX5_used 28 = .ok (.iadd, 1) := by decide +kernel
theorem dX5_used_29 : decode cX5_used 29 = .ok (.if_icmp .ge 28, 3) := by decide +kernel
theorem dX5_used_32 : decode cX5_used 32 = .ok (.iload_n 2, 1) := by decide +kernel
theorem dX5_used_33 : decode cX5_used 33 = .ok (.aload_n 0, 1) := by decide +kernel
theorem dX5_used_34 : decode cX5_used 34 = .ok (.getfield 60, 3) := by decide +kernel
theorem dX5_used_37 : decode cX5_used 37 = .ok (.iload 4, 2) := by decide +kernel
theorem dX5_used_39 : decode cX5_used 39 = .ok (.iaload, 1) := by decide +kernel
theorem dX5_used_40 : decode cX5_used 40 = .ok (.iload_n 1, 1) := by decide +kernel
theorem dX5_used_41 : decode cX5_used 41 = .ok (.if_icmp .ne 7, 3) := by decide +kernel
theorem dX5_used_44 : decode cX5_used 44 = .ok (.iconst 1, 1) := by decide +kernel
theorem dX5_used_45 : decode cX5_used 45 = .ok (.goto 4, 3) := by decide +kernel
theorem dX5_used_48 : decode cX5_used 48 = .ok (.iconst 0, 1) := by decide +kernel
theorem dX5_used_49 : decode cX5_used 49 = .ok (.iadd, 1) := by decide +kernel
theorem dX5_used_50 : decode cX5_used 50 = .ok (.istore_n 2, 1) := by decide +kernel
theorem dX5_used_51 : decode cX5_used 51 = .ok (.iinc 4 1, 3) := by decide +kernel
theorem dX5_used_54 : decode cX5_used 54 = .ok (.goto (-37), 3) := by decide +kernel
theorem dX5_used_57 : decode cX5_used 57 = .ok (.iinc 3 1, 3) := by decide +kernel
theorem dX5_used_60 : decode cX5_used 60 = .ok (.goto (-56), 3) := by decide +kernel
theorem dX5_used_63 : decode cX5_used 63 = .ok (.iload_n 2, 1) := by decide +kernel
theorem dX5_used_64 : decode cX5_used 64 = .ok (.ireturn, 1) := by decide +kernel
theorem dX5_freeOf_0 : decode cX5_freeOf 0 = .ok (.aload_n 0, 1) := by decide +kernel
theorem dX5_freeOf_1 : decode cX5_freeOf 1 = .ok (.getfield 13, 3) := by decide +kernel
theorem dX5_freeOf_4 : decode cX5_freeOf 4 = .ok (.iload_n 1, 1) := by decide +kernel
theorem dX5_freeOf_5 : decode cX5_freeOf 5 = .ok (.laload, 1) := by decide +kernel
theorem dX5_freeOf_6 : decode cX5_freeOf 6 = .ok (.aload_n 0, 1) := by decide +kernel
theorem dX5_freeOf_7 : decode cX5_freeOf 7 = .ok (.iload_n 1, 1) := by decide +kernel
theorem dX5_freeOf_8 : decode cX5_freeOf 8 = .ok (.invokevirtual 110, 3) := by decide +kernel
theorem dX5_freeOf_11 : decode cX5_freeOf 11 = .ok (.lsub, 1) := by decide +kernel
theorem dX5_freeOf_12 : decode cX5_freeOf 12 = .ok (.lstore_n 2, 1) := by decide +kernel
theorem dX5_freeOf_13 : decode cX5_freeOf 13 = .ok (.lload_n 2, 1) := by decide +kernel
theorem dX5_freeOf_14 : decode cX5_freeOf 14 = .ok (.lconst 0, 1) := by decide +kernel
theorem dX5_freeOf_15 : decode cX5_freeOf 15 = .ok (.lcmp, 1) := by decide +kernel
theorem dX5_freeOf_16 : decode cX5_freeOf 16 = .ok (.ifCond .ge 7, 3) := by decide +kernel
theorem dX5_freeOf_19 : decode cX5_freeOf 19 = .ok (.lconst 0, 1) := by decide +kernel
theorem dX5_freeOf_20 : decode cX5_freeOf 20 = .ok (.goto 4, 3) := by decide +kernel
theorem dX5_freeOf_23 : decode cX5_freeOf 23 = .ok (.lload_n 2, 1) := by decide +kernel
theorem dX5_freeOf_24 : decode cX5_freeOf 24 = .ok (.lreturn, 1) := by decide +kernel
theorem dX5_may_0 : decode cX5_may 0 = .ok (.aload_n 0, 1) := by decide +kernel
theorem dX5_may_1 : decode cX5_may 1 = .ok (.getfield 30, 3) := by decide +kernel
theorem dX5_may_4 : decode cX5_may 4 = .ok (.iload_n 1, 1) := by decide +kernel
theorem dX5_may_5 : decode cX5_may 5 = .ok (.baload, 1) := by decide +kernel
theorem dX5_may_6 : decode cX5_may 6 = .ok (.ifCond .ne 20, 3) := by decide +kernel
theorem dX5_may_9 : decode cX5_may 9 = .ok (.aload_n 0, 1) := by decide +kernel
theorem dX5_may_10 : decode cX5_may 10 = .ok (.getfield 23, 3) := by decide +kernel
theorem dX5_may_13 : decode cX5_may 13 = .ok (.iload_n 1, 1) := by decide +kernel
theorem dX5_may_14 : decode cX5_may 14 = .ok (.baload, 1) := by decide +kernel
theorem dX5_may_15 : decode cX5_may 15 = .ok (.ifCond .eq 13, 3) := by decide +kernel
theorem dX5_may_18 : decode cX5_may 18 = .ok (.aload_n 0, 1) := by decide +kernel
theorem dX5_may_19 : decode cX5_may 19 = .ok (.iload_n 1, 1) := by decide +kernel
theorem dX5_may_20 : decode cX5_may 20 = .ok (.invokevirtual 114, 3) := by decide +kernel
theorem dX5_may_23 : decode cX5_may 23 = .ok (.ifCond .le 5, 3) := by decide +kernel
theorem dX5_may_26 : decode cX5_may 26 = .ok (.lconst 0, 1) := by decide +kernel
theorem dX5_may_27 : decode cX5_may 27 = .ok (.lreturn, 1) := by decide +kernel
theorem dX5_may_28 : decode cX5_may 28 = .ok (.aload_n 0, 1) := by decide +kernel
theorem dX5_may_29 : decode cX5_may 29 = .ok (.getfield 17, 3) := by decide +kernel
theorem dX5_may_32 : decode cX5_may 32 = .ok (.iload_n 1, 1) := by decide +kernel
theorem dX5_may_33 : decode cX5_may 33 = .ok (.iaload, 1) := by decide +kernel
theorem dX5_may_34 : decode cX5_may 34 = .ok (.ifCond .ne 9, 3) := by decide +kernel
theorem dX5_may_37 : decode cX5_may 37 = .ok (.ldc2_w 82, 3) := by decide +kernel
theorem dX5_may_40 : decode cX5_may 40 = .ok (.goto 24, 3) := by decide +kernel
theorem dX5_may_43 : decode cX5_may 43 = .ok (.aload_n 0, 1) := by decide +kernel
theorem dX5_may_44 : decode cX5_may 44 = .ok (.iload_n 1, 1) := by decide +kernel
theorem dX5_may_45 : decode cX5_may 45 = .ok (.invokevirtual 117, 3) := by decide +kernel
theorem dX5_may_48 : decode cX5_may 48 = .ok (.aload_n 0, 1) := by decide +kernel
theorem dX5_may_49 : decode cX5_may 49 = .ok (.getfield 20, 3) := by decide +kernel
theorem dX5_may_52 : decode cX5_may 52 = .ok (.iload_n 1, 1) := by decide +kernel
theorem dX5_may_53 : decode cX5_may 53 = .ok (.iaload, 1) := by decide +kernel
theorem dX5_may_54 : decode cX5_may 54 = .ok (.i2l, 1) := by decide +kernel
theorem dX5_may_55 : decode cX5_may 55 = .ok (.lmul, 1) := by decide +kernel
theorem dX5_may_56 : decode cX5_may 56 = .ok (.aload_n 0, 1) := by decide +kernel
theorem dX5_may_57 : decode cX5_may 57 = .ok (.getfield 17, 3) := by decide +kernel
theorem dX5_may_60 : decode cX5_may 60 = .ok (.iload_n 1, 1) := by decide +kernel
theorem dX5_may_61 : decode cX5_may 61 = .ok (.iaload, 1) := by decide +kernel
theorem dX5_may_62 : decode cX5_may 62 = .ok (.i2l, 1) := by decide +kernel
theorem dX5_may_63 : decode cX5_may 63 = .ok (.ldiv, 1) := by decide +kernel
theorem dX5_may_64 : decode cX5_may 64 = .ok (.lreturn, 1) := by decide +kernel
theorem dX5_together_0 : decode cX5_together 0 = .ok (.lconst 0, 1) := by decide +kernel
theorem dX5_together_1 : decode cX5_together 1 = .ok (.lstore_n 2, 1) := by decide +kernel
theorem dX5_together_2 : decode cX5_together 2 = .ok (.iconst 1, 1) := by decide +kernel
theorem dX5_together_3 : decode cX5_together 3 = .ok (.istore 4, 2) := by decide +kernel
theorem dX5_together_5 : decode cX5_together 5 = .ok (.iload 4, 2) := by decide +kernel
theorem dX5_together_7 : decode cX5_together 7 = .ok (.aload_n 0, 1) := by decide +kernel
theorem dX5_together_8 : decode cX5_together 8 = .ok (.getfield 76, 3) := by decide +kernel
theorem dX5_together_11 : decode cX5_together 11 = .ok (.if_icmp .gt 33, 3) := by decide +kernel
theorem dX5_together_14 : decode cX5_together 14 = .ok (.lload_n 2, 1) := by decide +kernel
theorem dX5_together_15 : decode cX5_together 15 = .ok (.aload_n 0, 1) := by decide +kernel
theorem dX5_together_16 : decode cX5_together 16 = .ok (.getfield 7, 3) := by decide +kernel
theorem dX5_together_19 : decode cX5_together 19 = .ok (.iload 4, 2) := by decide +kernel
theorem dX5_together_21 : decode cX5_together 21 = .ok (.iaload, 1) := by decide +kernel
theorem dX5_together_22 : decode cX5_together 22 = .ok (.iload_n 1, 1) := by decide +kernel
theorem dX5_together_23 : decode cX5_together 23 = .ok (.if_icmp .ne 12, 3) := by decide +kernel
theorem dX5_together_26 : decode cX5_together 26 = .ok (.aload_n 0, 1) := by decide +kernel
theorem dX5_together_27 : decode cX5_together 27 = .ok (.iload 4, 2) := by decide +kernel
theorem dX5_together_29 : decode cX5_together 29 = .ok (.invokevirtual 120, 3) := by decide +kernel
theorem dX5_together_32 : decode cX5_together 32 = .ok (.goto 4, 3) := by decide +kernel
theorem dX5_together_35 : decode cX5_together 35 = .ok (.lconst 0, 1) := by decide +kernel
theorem dX5_together_36 : decode cX5_together 36 = .ok (.ladd, 1) := by decide +kernel
theorem dX5_together_37 : decode cX5_together 37 = .ok (.lstore_n 2, 1) := by decide +kernel
theorem dX5_together_38 : decode cX5_together 38 = .ok (.iinc 4 1, 3) := by decide +kernel
theorem dX5_together_41 : decode cX5_together 41 = .ok (.goto (-36), 3) := by decide +kernel
theorem dX5_together_44 : decode cX5_together 44 = .ok (.lload_n 2, 1) := by decide +kernel
theorem dX5_together_45 : decode cX5_together 45 = .ok (.ldc2_w 123, 3) := by decide +kernel
theorem dX5_together_48 : decode cX5_together 48 = .ok (.lcmp, 1) := by decide +kernel
theorem dX5_together_49 : decode cX5_together 49 = .ok (.ifCond .le 9, 3) := by decide +kernel
theorem dX5_together_52 : decode cX5_together 52 = .ok (.ldc2_w 123, 3) := by decide +kernel
theorem dX5_together_55 : decode cX5_together 55 = .ok (.goto 4, 3) := by decide +kernel
theorem dX5_together_58 : decode cX5_together 58 = .ok (.lload_n 2, 1) := by decide +kernel
theorem dX5_together_59 : decode cX5_together 59 = .ok (.lreturn, 1) := by decide +kernel
theorem dX5_free_0 : decode cX5_free 0 = .ok (.aload_n 0, 1) := by decide +kernel
theorem dX5_free_1 : decode cX5_free 1 = .ok (.iconst 0, 1) := by decide +kernel
theorem dX5_free_2 : decode cX5_free 2 = .ok (.putfield 72, 3) := by decide +kernel
theorem dX5_free_5 : decode cX5_free 5 = .ok (.iload_n 1, 1) := by decide +kernel
theorem dX5_free_6 : decode cX5_free 6 = .ok (.invokestatic 92, 3) := by decide +kernel
theorem dX5_free_9 : decode cX5_free 9 = .ok (.ifCond .eq 11, 3) := by decide +kernel
theorem dX5_free_12 : decode cX5_free 12 = .ok (.aload_n 0, 1) := by decide +kernel
theorem dX5_free_13 : decode cX5_free 13 = .ok (.iload_n 1, 1) := by decide +kernel
theorem dX5_free_14 : decode cX5_free 14 = .ok (.invokevirtual 125, 3) := by decide +kernel
theorem dX5_free_17 : decode cX5_free 17 = .ok (.goto 6, 3) := by decide +kernel
theorem dX5_free_20 : decode cX5_free 20 = .ok (.ldc2_w 128, 3) := by decide +kernel
theorem dX5_free_23 : decode cX5_free 23 = .ok (.lreturn, 1) := by decide +kernel
theorem dX5_lays_0 : decode cX5_lays 0 = .ok (.aload_n 0, 1) := by decide +kernel
theorem dX5_lays_1 : decode cX5_lays 1 = .ok (.getfield 79, 3) := by decide +kernel
theorem dX5_lays_4 : decode cX5_lays 4 = .ok (.iconst 1, 1) := by decide +kernel
theorem dX5_lays_5 : decode cX5_lays 5 = .ok (.iadd, 1) := by decide +kernel
theorem dX5_lays_6 : decode cX5_lays 6 = .ok (.istore 4, 2) := by decide +kernel
theorem dX5_lays_8 : decode cX5_lays 8 = .ok (.lload_n 2, 1) := by decide +kernel
theorem dX5_lays_9 : decode cX5_lays 9 = .ok (.lstore 5, 2) := by decide +kernel
theorem dX5_lays_11 : decode cX5_lays 11 = .ok (.iconst 0, 1) := by decide +kernel
theorem dX5_lays_12 : decode cX5_lays 12 = .ok (.istore 7, 2) := by decide +kernel
theorem dX5_lays_14 : decode cX5_lays 14 = .ok (.iconst 0, 1) := by decide +kernel
theorem dX5_lays_15 : decode cX5_lays 15 = .ok (.istore 8, 2) := by decide +kernel
theorem dX5_lays_17 : decode cX5_lays 17 = .ok (.iload 8, 2) := by decide +kernel
theorem dX5_lays_19 : decode cX5_lays 19 = .ok (.aload_n 0, 1) := by decide +kernel
theorem dX5_lays_20 : decode cX5_lays 20 = .ok (.getfield 76, 3) := by decide +kernel
theorem dX5_lays_23 : decode cX5_lays 23 = .ok (.if_icmp .ge 125, 3) := by decide +kernel
theorem dX5_lays_26 : decode cX5_lays 26 = .ok (.lload 5, 2) := by decide +kernel
theorem dX5_lays_28 : decode cX5_lays 28 = .ok (.lconst 0, 1) := by decide +kernel
theorem dX5_lays_29 : decode cX5_lays 29 = .ok (.lcmp, 1) := by decide +kernel
theorem dX5_lays_30 : decode cX5_lays 30 = .ok (.ifCond .le 118, 3) := by decide +kernel
theorem dX5_lays_33 : decode cX5_lays 33 = .ok (.aload_n 0, 1) := by decide +kernel
theorem dX5_lays_34 : decode cX5_lays 34 = .ok (.getfield 45, 3) := by decide +kernel
theorem dX5_lays_37 : decode cX5_lays 37 = .ok (.iload 8, 2) := by decide +kernel
theorem dX5_lays_39 : decode cX5_lays 39 = .ok (.iaload, 1) := by decide +kernel
theorem dX5_lays_40 : decode cX5_lays 40 = .ok (.istore 9, 2) := by decide +kernel
theorem dX5_lays_42 : decode cX5_lays 42 = .ok (.aload_n 0, 1) := by decide +kernel
theorem dX5_lays_43 : decode cX5_lays 43 = .ok (.getfield 7, 3) := by decide +kernel
theorem dX5_lays_46 : decode cX5_lays 46 = .ok (.iload 9, 2) := by decide +kernel
theorem dX5_lays_48 : decode cX5_lays 48 = .ok (.iaload, 1) := by decide +kernel
theorem dX5_lays_49 : decode cX5_lays 49 = .ok (.iload_n 1, 1) := by decide +kernel
theorem dX5_lays_50 : decode cX5_lays 50 = .ok (.if_icmp .ne 12, 3) := by decide +kernel
theorem dX5_lays_53 : decode cX5_lays 53 = .ok (.aload_n 0, 1) := by decide +kernel
theorem dX5_lays_54 : decode cX5_lays 54 = .ok (.iload 9, 2) := by decide +kernel
theorem dX5_lays_56 : decode cX5_lays 56 = .ok (.invokevirtual 120, 3) := by decide +kernel
theorem dX5_lays_59 : decode cX5_lays 59 = .ok (.goto 4, 3) := by decide +kernel
theorem dX5_lays_62 : decode cX5_lays 62 = .ok (.lconst 0, 1) := by decide +kernel
theorem dX5_lays_63 : decode cX5_lays 63 = .ok (.lstore 10, 2) := by decide +kernel
theorem dX5_lays_65 : decode cX5_lays 65 = .ok (.lload 10, 2) := by decide +kernel
theorem dX5_lays_67 : decode cX5_lays 67 = .ok (.lload 5, 2) := by decide +kernel
theorem dX5_lays_69 : decode cX5_lays 69 = .ok (.lcmp, 1) := by decide +kernel
theorem dX5_lays_70 : decode cX5_lays 70 = .ok (.ifCond .ge 8, 3) := by decide +kernel
theorem dX5_lays_73 : decode cX5_lays 73 = .ok (.lload 10, 2) := by decide +kernel
theorem dX5_lays_75 : decode cX5_lays 75 = .ok (.goto 5, 3) := by decide +kernel
theorem dX5_lays_78 : decode cX5_lays 78 = .ok (.lload 5, 2) := by decide +kernel
theorem dX5_lays_80 : decode cX5_lays 80 = .ok (.lstore 10, 2) := by decide +kernel
theorem dX5_lays_82 : decode cX5_lays 82 = .ok (.lload 10, 2) := by decide +kernel
theorem dX5_lays_84 : decode cX5_lays 84 = .ok (.lconst 0, 1) := by decide +kernel
theorem dX5_lays_85 : decode cX5_lays 85 = .ok (.lcmp, 1) := by decide +kernel
theorem dX5_lays_86 : decode cX5_lays 86 = .ok (.ifCond .le 11, 3) := by decide +kernel
theorem dX5_lays_89 : decode cX5_lays 89 = .ok (.iload 7, 2) := by decide +kernel
theorem dX5_lays_91 : decode cX5_lays 91 = .ok (.iconst 4, 1) := by decide +kernel
theorem dX5_lays_92 : decode cX5_lays 92 = .ok (.if_icmp .ne 5, 3) := by decide +kernel
theorem dX5_lays_95 : decode cX5_lays 95 = .ok (.iconst 0, 1) := by decide +kernel
theorem dX5_lays_96 : decode cX5_lays 96 = .ok (.ireturn, 1) := by decide +kernel
theorem dX5_lays_97 : decode cX5_lays 97 = .ok (.lload 10, 2) := by decide +kernel
theorem dX5_lays_99 : decode cX5_lays 99 = .ok (.lconst 0, 1) := by decide +kernel
theorem dX5_lays_100 : decode cX5_lays 100 = .ok (.lcmp, 1) := by decide +kernel
theorem dX5_lays_101 : decode cX5_lays 101 = .ok (.ifCond .le 41, 3) := by decide +kernel
theorem dX5_lays_104 : decode cX5_lays 104 = .ok (.aload_n 0, 1) := by decide +kernel
theorem dX5_lays_105 : decode cX5_lays 105 = .ok (.getfield 60, 3) := by decide +kernel
theorem dX5_lays_108 : decode cX5_lays 108 = .ok (.iconst 4, 1) := by decide +kernel
theorem dX5_lays_109 : decode cX5_lays 109 = .ok (.iload 4, 2) := by decide +kernel
theorem dX5_lays_111 : decode cX5_lays 111 = .ok (.imul, 1) := by decide +kernel
theorem dX5_lays_112 : decode cX5_lays 112 = .ok (.iload 7, 2) := by decide +kernel
theorem dX5_lays_114 : decode cX5_lays 114 = .ok (.iadd, 1) := by decide +kernel
theorem dX5_lays_115 : decode cX5_lays 115 = .ok (.iload 9, 2) := by decide +kernel
theorem dX5_lays_117 : decode cX5_lays 117 = .ok (.iastore, 1) := by decide +kernel
theorem dX5_lays_118 : decode cX5_lays 118 = .ok (.aload_n 0, 1) := by decide +kernel
theorem dX5_lays_119 : decode cX5_lays 119 = .ok (.getfield 63, 3) := by decide +kernel
theorem dX5_lays_122 : decode cX5_lays 122 = .ok (.iconst 4, 1) := by decide +kernel
theorem dX5_lays_123 : decode cX5_lays 123 = .ok (.iload 4, 2) := by decide +kernel
theorem dX5_lays_125 : decode cX5_lays 125 = .ok (.imul, 1) := by decide +kernel
theorem dX5_lays_126 : decode cX5_lays 126 = .ok (.iload 7, 2) := by decide +kernel
theorem dX5_lays_128 : decode cX5_lays 128 = .ok (.iadd, 1) := by decide +kernel
theorem dX5_lays_129 : decode cX5_lays 129 = .ok (.lload 10, 2) := by decide +kernel
theorem dX5_lays_131 : decode cX5_lays 131 = .ok (.lastore, 1) := by decide +kernel
theorem dX5_lays_132 : decode cX5_lays 132 = .ok (.iinc 7 1, 3) := by decide +kernel
theorem dX5_lays_135 : decode cX5_lays 135 = .ok (.lload 5, 2) := by decide +kernel
theorem dX5_lays_137 : decode cX5_lays 137 = .ok (.lload 10, 2) := by decide +kernel
theorem dX5_lays_139 : decode cX5_lays 139 = .ok (.lsub, 1) := by decide +kernel
theorem dX5_lays_140 : decode cX5_lays 140 = .ok (.lstore 5, 2) := by decide +kernel
theorem dX5_lays_142 : decode cX5_lays 142 = .ok (.iinc 8 1, 3) := by decide +kernel
theorem dX5_lays_145 : decode cX5_lays 145 = .ok (.goto (-128), 3) := by decide +kernel
theorem dX5_lays_148 : decode cX5_lays 148 = .ok (.aload_n 0, 1) := by decide +kernel
theorem dX5_lays_149 : decode cX5_lays 149 = .ok (.getfield 57, 3) := by decide +kernel
theorem dX5_lays_152 : decode cX5_lays 152 = .ok (.iload 4, 2) := by decide +kernel
theorem dX5_lays_154 : decode cX5_lays 154 = .ok (.lload 5, 2) := by decide +kernel
theorem dX5_lays_156 : decode cX5_lays 156 = .ok (.lconst 0, 1) := by decide +kernel
theorem dX5_lays_157 : decode cX5_lays 157 = .ok (.lcmp, 1) := by decide +kernel
theorem dX5_lays_158 : decode cX5_lays 158 = .ok (.ifCond .ne 8, 3) := by decide +kernel
theorem dX5_lays_161 : decode cX5_lays 161 = .ok (.iload 7, 2) := by decide +kernel
theorem dX5_lays_163 : decode cX5_lays 163 = .ok (.goto 4, 3) := by decide +kernel
theorem dX5_lays_166 : decode cX5_lays 166 = .ok (.iconst 0, 1) := by decide +kernel
theorem dX5_lays_167 : decode cX5_lays 167 = .ok (.iastore, 1) := by decide +kernel
theorem dX5_lays_168 : decode cX5_lays 168 = .ok (.lload 5, 2) := by decide +kernel
theorem dX5_lays_170 : decode cX5_lays 170 = .ok (.lconst 0, 1) := by decide +kernel
theorem dX5_lays_171 : decode cX5_lays 171 = .ok (.lcmp, 1) := by decide +kernel
theorem dX5_lays_172 : decode cX5_lays 172 = .ok (.ifCond .ne 7, 3) := by decide +kernel
theorem dX5_lays_175 : decode cX5_lays 175 = .ok (.iconst 1, 1) := by decide +kernel
theorem dX5_lays_176 : decode cX5_lays 176 = .ok (.goto 4, 3) := by decide +kernel
theorem dX5_lays_179 : decode cX5_lays 179 = .ok (.iconst 0, 1) := by decide +kernel
theorem dX5_lays_180 : decode cX5_lays 180 = .ok (.ireturn, 1) := by decide +kernel
theorem dX5_reserve_0 : decode cX5_reserve 0 = .ok (.iload_n 1, 1) := by decide +kernel
theorem dX5_reserve_1 : decode cX5_reserve 1 = .ok (.i2l, 1) := by decide +kernel
theorem dX5_reserve_2 : decode cX5_reserve 2 = .ok (.lconst 0, 1) := by decide +kernel
theorem dX5_reserve_3 : decode cX5_reserve 3 = .ok (.ldc2_w 130, 3) := by decide +kernel
theorem dX5_reserve_6 : decode cX5_reserve 6 = .ok (.invokestatic 84, 3) := by decide +kernel
theorem dX5_reserve_9 : decode cX5_reserve 9 = .ok (.ifCond .eq 21, 3) := by decide +kernel
theorem dX5_reserve_12 : decode cX5_reserve 12 = .ok (.iload_n 2, 1) := by decide +kernel
theorem dX5_reserve_13 : decode cX5_reserve 13 = .ok (.invokestatic 92, 3) := by decide +kernel
theorem dX5_reserve_16 : decode cX5_reserve 16 = .ok (.ifCond .eq 14, 3) := by decide +kernel
theorem dX5_reserve_19 : decode cX5_reserve 19 = .ok (.lload_n 3, 1) := by decide +kernel
theorem dX5_reserve_20 : decode cX5_reserve 20 = .ok (.lconst 1, 1) := by decide +kernel
theorem dX5_reserve_21 : decode cX5_reserve 21 = .ok (.ldc2_w 82, 3) := by decide +kernel
theorem dX5_reserve_24 : decode cX5_reserve 24 = .ok (.invokestatic 84, 3) := by decide +kernel
theorem dX5_reserve_27 : decode cX5_reserve 27 = .ok (.ifCond .ne 9, 3) := by decide +kernel
theorem dX5_reserve_30 : decode cX5_reserve 30 = .ok (.aload_n 0, 1) := by decide +kernel
theorem dX5_reserve_31 : decode cX5_reserve 31 = .ok (.iconst 1, 1) := by decide +kernel
theorem dX5_reserve_32 : decode cX5_reserve 32 = .ok (.invokevirtual 96, 3) := by decide +kernel
theorem dX5_reserve_35 : decode cX5_reserve 35 = .ok (.ireturn, 1) := by decide +kernel
theorem dX5_reserve_36 : decode cX5_reserve 36 = .ok (.aload_n 0, 1) := by decide +kernel
theorem dX5_reserve_37 : decode cX5_reserve 37 = .ok (.getfield 79, 3) := by decide +kernel
theorem dX5_reserve_40 : decode cX5_reserve 40 = .ok (.bipush 60, 2) := by decide +kernel
theorem dX5_reserve_42 : decode cX5_reserve 42 = .ok (.if_icmp .ne 9, 3) := by decide +kernel
theorem dX5_reserve_45 : decode cX5_reserve 45 = .ok (.aload_n 0, 1) := by decide +kernel
theorem dX5_reserve_46 : decode cX5_reserve 46 = .ok (.iconst 2, 1) := by decide +kernel
theorem dX5_reserve_47 : decode cX5_reserve 47 = .ok (.invokevirtual 96, 3) := by decide +kernel
theorem dX5_reserve_50 : decode cX5_reserve 50 = .ok (.ireturn, 1) := by decide +kernel
theorem dX5_reserve_51 : decode cX5_reserve 51 = .ok (.aload_n 0, 1) := by decide +kernel
theorem dX5_reserve_52 : decode cX5_reserve 52 = .ok (.iconst 0, 1) := by decide +kernel
theorem dX5_reserve_53 : decode cX5_reserve 53 = .ok (.putfield 72, 3) := by decide +kernel
theorem dX5_reserve_56 : decode cX5_reserve 56 = .ok (.aload_n 0, 1) := by decide +kernel
theorem dX5_reserve_57 : decode cX5_reserve 57 = .ok (.iload_n 2, 1) := by decide +kernel
theorem dX5_reserve_58 : decode cX5_reserve 58 = .ok (.lload_n 3, 1) := by decide +kernel
theorem dX5_reserve_59 : decode cX5_reserve 59 = .ok (.invokevirtual 132, 3) := by decide +kernel
theorem dX5_reserve_62 : decode cX5_reserve 62 = .ok (.ifCond .ne 14, 3) := by decide +kernel
theorem dX5_reserve_65 : decode cX5_reserve 65 = .ok (.ldc2_w 136, 3) := by decide +kernel
theorem dX5_reserve_68 : decode cX5_reserve 68 = .ok (.aload_n 0, 1) := by decide +kernel
theorem dX5_reserve_69 : decode cX5_reserve 69 = .ok (.iload_n 2, 1) := by decide +kernel
theorem dX5_reserve_70 : decode cX5_reserve 70 = .ok (.invokevirtual 125, 3) := by decide +kernel
theorem dX5_reserve_73 : decode cX5_reserve 73 = .ok (.lsub, 1) := by decide +kernel
theorem dX5_reserve_74 : decode cX5_reserve 74 = .ok (.l2i, 1) := by decide +kernel
theorem dX5_reserve_75 : decode cX5_reserve 75 = .ok (.ireturn, 1) := by decide +kernel
theorem dX5_reserve_76 : decode cX5_reserve 76 = .ok (.aload_n 0, 1) := by decide +kernel
theorem dX5_reserve_77 : decode cX5_reserve 77 = .ok (.getfield 66, 3) := by decide +kernel
theorem dX5_reserve_80 : decode cX5_reserve 80 = .ok (.iload_n 1, 1) := by decide +kernel
theorem dX5_reserve_81 : decode cX5_reserve 81 = .ok (.baload, 1) := by decide +kernel
theorem dX5_reserve_82 : decode cX5_reserve 82 = .ok (.ifCond .eq 34, 3) := by decide +kernel
theorem dX5_reserve_85 : decode cX5_reserve 85 = .ok (.aload_n 0, 1) := by decide +kernel
theorem dX5_reserve_86 : decode cX5_reserve 86 = .ok (.getfield 66, 3) := by decide +kernel
theorem dX5_reserve_89 : decode cX5_reserve 89 = .ok (.iload_n 1, 1) := by decide +kernel
theorem dX5_reserve_90 : decode cX5_reserve 90 = .ok (.iconst 0, 1) := by decide +kernel
theorem dX5_reserve_91 : decode cX5_reserve 91 = .ok (.bastore, 1) := by decide +kernel
theorem dX5_reserve_92 : decode cX5_reserve 92 = .ok (.aload_n 0, 1) := by decide +kernel
theorem dX5_reserve_93 : decode cX5_reserve 93 = .ok (.getfield 69, 3) := by decide +kernel
theorem dX5_reserve_96 : decode cX5_reserve 96 = .ok (.iload_n 1, 1) := by decide +kernel
theorem dX5_reserve_97 : decode cX5_reserve 97 = .ok (.dup2, 1) := by decide +kernel
theorem dX5_reserve_98 : decode cX5_reserve 98 = .ok (.iaload, 1) := by decide +kernel
theorem dX5_reserve_99 : decode cX5_reserve 99 = .ok (.iconst 1, 1) := by decide +kernel
theorem dX5_reserve_100 : decode cX5_reserve 100 = .ok (.iadd, 1) := by decide +kernel
theorem dX5_reserve_101 : decode cX5_reserve 101 = .ok (.iastore, 1) := by decide +kernel
theorem dX5_reserve_102 : decode cX5_reserve 102 = .ok (.aload_n 0, 1) := by decide +kernel
theorem dX5_reserve_103 : decode cX5_reserve 103 = .ok (.getfield 57, 3) := by decide +kernel
theorem dX5_reserve_106 : decode cX5_reserve 106 = .ok (.aload_n 0, 1) := by decide +kernel
theorem dX5_reserve_107 : decode cX5_reserve 107 = .ok (.getfield 79, 3) := by decide +kernel
theorem dX5_reserve_110 : decode cX5_reserve 110 = .ok (.iconst 1, 1) := by decide +kernel
theorem dX5_reserve_111 : decode cX5_reserve 111 = .ok (.iadd, 1) := by decide +kernel
theorem dX5_reserve_112 : decode cX5_reserve 112 = .ok (.iconst 0, 1) := by decide +kernel
theorem dX5_reserve_113 : decode cX5_reserve 113 = .ok (.iastore, 1) := by decide +kernel
theorem dX5_reserve_114 : decode cX5_reserve 114 = .ok (.iconst (-1), 1) := by decide +kernel
theorem dX5_reserve_115 : decode cX5_reserve 115 = .ok (.ireturn, 1) := by decide +kernel
theorem dX5_reserve_116 : decode cX5_reserve 116 = .ok (.aload_n 0, 1) := by decide +kernel
theorem dX5_reserve_117 : decode cX5_reserve 117 = .ok (.dup, 1) := by decide +kernel
theorem dX5_reserve_118 : decode cX5_reserve 118 = .ok (.getfield 79, 3) := by decide +kernel
theorem dX5_reserve_121 : decode cX5_reserve 121 = .ok (.iconst 1, 1) := by decide +kernel
theorem dX5_reserve_122 : decode cX5_reserve 122 = .ok (.iadd, 1) := by decide +kernel
theorem dX5_reserve_123 : decode cX5_reserve 123 = .ok (.putfield 79, 3) := by decide +kernel
theorem dX5_reserve_126 : decode cX5_reserve 126 = .ok (.aload_n 0, 1) := by decide +kernel
theorem dX5_reserve_127 : decode cX5_reserve 127 = .ok (.getfield 48, 3) := by decide +kernel
theorem dX5_reserve_130 : decode cX5_reserve 130 = .ok (.aload_n 0, 1) := by decide +kernel
theorem dX5_reserve_131 : decode cX5_reserve 131 = .ok (.getfield 79, 3) := by decide +kernel
theorem dX5_reserve_134 : decode cX5_reserve 134 = .ok (.iload_n 2, 1) := by decide +kernel
theorem dX5_reserve_135 : decode cX5_reserve 135 = .ok (.iastore, 1) := by decide +kernel
theorem dX5_reserve_136 : decode cX5_reserve 136 = .ok (.aload_n 0, 1) := by decide +kernel
theorem dX5_reserve_137 : decode cX5_reserve 137 = .ok (.getfield 51, 3) := by decide +kernel
theorem dX5_reserve_140 : decode cX5_reserve 140 = .ok (.aload_n 0, 1) := by decide +kernel
theorem dX5_reserve_141 : decode cX5_reserve 141 = .ok (.getfield 79, 3) := by decide +kernel
theorem dX5_reserve_144 : decode cX5_reserve 144 = .ok (.lload_n 3, 1) := by decide +kernel
theorem dX5_reserve_145 : decode cX5_reserve 145 = .ok (.lastore, 1) := by decide +kernel
theorem dX5_reserve_146 : decode cX5_reserve 146 = .ok (.aload_n 0, 1) := by decide +kernel
theorem dX5_reserve_147 : decode cX5_reserve 147 = .ok (.getfield 79, 3) := by decide +kernel
theorem dX5_reserve_150 : decode cX5_reserve 150 = .ok (.ireturn, 1) := by decide +kernel
theorem dX5_covered_0 : decode cX5_covered 0 = .ok (.lconst 0, 1) := by decide +kernel
theorem dX5_covered_1 : decode cX5_covered 1 = .ok (.lstore_n 2, 1) := by decide +kernel
theorem dX5_covered_2 : decode cX5_covered 2 = .ok (.iconst 4, 1) := by decide +kernel
theorem dX5_covered_3 : decode cX5_covered 3 = .ok (.iload_n 1, 1) := by decide +kernel
theorem dX5_covered_4 : decode cX5_covered 4 = .ok (.imul, 1) := by decide +kernel
theorem dX5_covered_5 : decode cX5_covered 5 = .ok (.istore 4, 2) := by decide +kernel
theorem dX5_covered_7 : decode cX5_covered 7 = .ok (.iload 4, 2) := by decide +kernel
theorem dX5_covered_9 : decode cX5_covered 9 = .ok (.iconst 4, 1) := by decide +kernel
theorem dX5_covered_10 : decode cX5_covered 10 = .ok (.iload_n 1, 1) := by decide +kernel
theorem dX5_covered_11 : decode cX5_covered 11 = .ok (.imul, 1) := by decide +kernel
theorem dX5_covered_12 : decode cX5_covered 12 = .ok (.aload_n 0, 1) := by decide +kernel
theorem dX5_covered_13 : decode cX5_covered 13 = .ok (.getfield 57, 3) := by decide +kernel
theorem dX5_covered_16 : decode cX5_covered 16 = .ok (.iload_n 1, 1) := by decide +kernel
theorem dX5_covered_17 : decode cX5_covered 17 = .ok (.iaload, 1) := by decide +kernel
theorem dX5_covered_18 : decode cX5_covered 18 = .ok (.iadd, 1) := by decide +kernel
theorem dX5_covered_19 : decode cX5_covered 19 = .ok (.if_icmp .ge 19, 3) := by decide +kernel
theorem dX5_covered_22 : decode cX5_covered 22 = .ok (.lload_n 2, 1) := by decide +kernel
theorem dX5_covered_23 : decode cX5_covered 23 = .ok (.aload_n 0, 1) := by decide +kernel
theorem dX5_covered_24 : decode cX5_covered 24 = .ok (.getfield 63, 3) := by decide +kernel
theorem dX5_covered_27 : decode cX5_covered 27 = .ok (.iload 4, 2) := by decide +kernel
theorem dX5_covered_29 : decode cX5_covered 29 = .ok (.laload, 1) := by decide +kernel
theorem dX5_covered_30 : decode cX5_covered 30 = .ok (.ladd, 1) := by decide +kernel
theorem dX5_covered_31 : decode cX5_covered 31 = .ok (.lstore_n 2, 1) := by decide +kernel
theorem dX5_covered_32 : decode cX5_covered 32 = .ok (.iinc 4 1, 3) := by decide +kernel
theorem dX5_covered_35 : decode cX5_covered 35 = .ok (.goto (-28), 3) := by decide +kernel
theorem dX5_covered_38 : decode cX5_covered 38 = .ok (.lload_n 2, 1) := by decide +kernel
theorem dX5_covered_39 : decode cX5_covered 39 = .ok (.lreturn, 1) := by decide +kernel
theorem dX5_end_0 : decode cX5_end 0 = .ok (.aload_n 0, 1) := by decide +kernel
theorem dX5_end_1 : decode cX5_end 1 = .ok (.iload_n 1, 1) := by decide +kernel
theorem dX5_end_2 : decode cX5_end 2 = .ok (.invokevirtual 138, 3) := by decide +kernel
theorem dX5_end_5 : decode cX5_end 5 = .ok (.ifCond .eq 13, 3) := by decide +kernel
theorem dX5_end_8 : decode cX5_end 8 = .ok (.iload_n 2, 1) := by decide +kernel
theorem dX5_end_9 : decode cX5_end 9 = .ok (.iconst 1, 1) := by decide +kernel
theorem dX5_end_10 : decode cX5_end 10 = .ok (.if_icmp .lt 8, 3) := by decide +kernel
theorem dX5_end_13 : decode cX5_end 13 = .ok (.iload_n 2, 1) := by decide +kernel
theorem dX5_end_14 : decode cX5_end 14 = .ok (.iconst 2, 1) := by decide +kernel
theorem dX5_end_15 : decode cX5_end 15 = .ok (.if_icmp .le 9, 3) := by decide +kernel
theorem dX5_end_18 : decode cX5_end 18 = .ok (.aload_n 0, 1) := by decide +kernel
theorem dX5_end_19 : decode cX5_end 19 = .ok (.iconst 1, 1) := by decide +kernel
theorem dX5_end_20 : decode cX5_end 20 = .ok (.invokevirtual 96, 3) := by decide +kernel
theorem dX5_end_23 : decode cX5_end 23 = .ok (.ireturn, 1) := by decide +kernel
theorem dX5_end_24 : decode cX5_end 24 = .ok (.aload_n 0, 1) := by decide +kernel
theorem dX5_end_25 : decode cX5_end 25 = .ok (.iconst 0, 1) := by decide +kernel
theorem dX5_end_26 : decode cX5_end 26 = .ok (.putfield 72, 3) := by decide +kernel
theorem dX5_end_29 : decode cX5_end 29 = .ok (.aload_n 0, 1) := by decide +kernel
theorem dX5_end_30 : decode cX5_end 30 = .ok (.getfield 54, 3) := by decide +kernel
theorem dX5_end_33 : decode cX5_end 33 = .ok (.iload_n 1, 1) := by decide +kernel
theorem dX5_end_34 : decode cX5_end 34 = .ok (.iaload, 1) := by decide +kernel
theorem dX5_end_35 : decode cX5_end 35 = .ok (.ifCond .le 5, 3) := by decide +kernel
theorem dX5_end_38 : decode cX5_end 38 = .ok (.iconst 0, 1) := by decide +kernel
theorem dX5_end_39 : decode cX5_end 39 = .ok (.ireturn, 1) := by decide +kernel
theorem dX5_end_40 : decode cX5_end 40 = .ok (.aload_n 0, 1) := by decide +kernel
theorem dX5_end_41 : decode cX5_end 41 = .ok (.getfield 54, 3) := by decide +kernel
theorem dX5_end_44 : decode cX5_end 44 = .ok (.iload_n 1, 1) := by decide +kernel
theorem dX5_end_45 : decode cX5_end 45 = .ok (.iload_n 2, 1) := by decide +kernel
theorem dX5_end_46 : decode cX5_end 46 = .ok (.iastore, 1) := by decide +kernel
theorem dX5_end_47 : decode cX5_end 47 = .ok (.aload_n 0, 1) := by decide +kernel
theorem dX5_end_48 : decode cX5_end 48 = .ok (.getfield 57, 3) := by decide +kernel
theorem dX5_end_51 : decode cX5_end 51 = .ok (.iload_n 1, 1) := by decide +kernel
theorem dX5_end_52 : decode cX5_end 52 = .ok (.iconst 0, 1) := by decide +kernel
theorem dX5_end_53 : decode cX5_end 53 = .ok (.iastore, 1) := by decide +kernel
theorem dX5_end_54 : decode cX5_end 54 = .ok (.iconst 1, 1) := by decide +kernel
theorem dX5_end_55 : decode cX5_end 55 = .ok (.ireturn, 1) := by decide +kernel
theorem dX5_reduce_0 : decode cX5_reduce 0 = .ok (.aload_n 0, 1) := by decide +kernel
theorem dX5_reduce_1 : decode cX5_reduce 1 = .ok (.iload_n 1, 1) := by decide +kernel
theorem dX5_reduce_2 : decode cX5_reduce 2 = .ok (.invokevirtual 138, 3) := by decide +kernel
theorem dX5_reduce_5 : decode cX5_reduce 5 = .ok (.ifCond .eq 9, 3) := by decide +kernel
theorem dX5_reduce_8 : decode cX5_reduce 8 = .ok (.lload_n 2, 1) := by decide +kernel
theorem dX5_reduce_9 : decode cX5_reduce 9 = .ok (.lconst 1, 1) := by decide +kernel
theorem dX5_reduce_10 : decode cX5_reduce 10 = .ok (.lcmp, 1) := by decide +kernel
theorem dX5_reduce_11 : decode cX5_reduce 11 = .ok (.ifCond .ge 10, 3) := by decide +kernel
theorem dX5_reduce_14 : decode cX5_reduce 14 = .ok (.aload_n 0, 1) := by decide +kernel
theorem dX5_reduce_15 : decode cX5_reduce 15 = .ok (.iconst 1, 1) := by decide +kernel
theorem dX5_reduce_16 : decode cX5_reduce 16 = .ok (.invokevirtual 96, 3) := by decide +kernel
theorem dX5_reduce_19 : decode cX5_reduce 19 = .ok (.i2l, 1) := by decide +kernel
theorem dX5_reduce_20 : decode cX5_reduce 20 = .ok (.lreturn, 1) := by decide +kernel
theorem dX5_reduce_21 : decode cX5_reduce 21 = .ok (.aload_n 0, 1) := by decide +kernel
theorem dX5_reduce_22 : decode cX5_reduce 22 = .ok (.iconst 0, 1) := by decide +kernel
theorem dX5_reduce_23 : decode cX5_reduce 23 = .ok (.putfield 72, 3) := by decide +kernel
theorem dX5_reduce_26 : decode cX5_reduce 26 = .ok (.aload_n 0, 1) := by decide +kernel
theorem dX5_reduce_27 : decode cX5_reduce 27 = .ok (.getfield 54, 3) := by decide +kernel
theorem dX5_reduce_30 : decode cX5_reduce 30 = .ok (.iload_n 1, 1) := by decide +kernel
theorem dX5_reduce_31 : decode cX5_reduce 31 = .ok (.iaload, 1) := by decide +kernel
theorem dX5_reduce_32 : decode cX5_reduce 32 = .ok (.ifCond .gt 13, 3) := by decide +kernel
theorem dX5_reduce_35 : decode cX5_reduce 35 = .ok (.aload_n 0, 1) := by decide +kernel
theorem dX5_reduce_36 : decode cX5_reduce 36 = .ok (.iload_n 1, 1) := by decide +kernel
theorem dX5_reduce_37 : decode cX5_reduce 37 = .ok (.invokevirtual 141, 3) := by decide +kernel
theorem dX5_reduce_40 : decode cX5_reduce 40 = .ok (.lload_n 2, 1) := by decide +kernel
theorem dX5_reduce_41 : decode cX5_reduce 41 = .ok (.lcmp, 1) := by decide +kernel
theorem dX5_reduce_42 : decode cX5_reduce 42 = .ok (.ifCond .gt 7, 3) := by decide +kernel
theorem dX5_reduce_45 : decode cX5_reduce 45 = .ok (.ldc2_w 128, 3) := by decide +kernel
theorem dX5_reduce_48 : decode cX5_reduce 48 = .ok (.lreturn, 1) := by decide +kernel
theorem dX5_reduce_49 : decode cX5_reduce 49 = .ok (.lload_n 2, 1) := by decide +kernel
theorem dX5_reduce_50 : decode cX5_reduce 50 = .ok (.lstore 4, 2) := by decide +kernel
theorem dX5_reduce_52 : decode cX5_reduce 52 = .ok (.lload 4, 2) := by decide +kernel
theorem dX5_reduce_54 : decode cX5_reduce 54 = .ok (.lconst 0, 1) := by decide +kernel
theorem dX5_reduce_55 : decode cX5_reduce 55 = .ok (.lcmp, 1) := by decide +kernel
theorem dX5_reduce_56 : decode cX5_reduce 56 = .ok (.ifCond .le 92, 3) := by decide +kernel
theorem dX5_reduce_59 : decode cX5_reduce 59 = .ok (.iconst 4, 1) := by decide +kernel
theorem dX5_reduce_60 : decode cX5_reduce 60 = .ok (.iload_n 1, 1) := by decide +kernel
theorem dX5_reduce_61 : decode cX5_reduce 61 = .ok (.imul, 1) := by decide +kernel
theorem dX5_reduce_62 : decode cX5_reduce 62 = .ok (.aload_n 0, 1) := by decide +kernel
theorem dX5_reduce_63 : decode cX5_reduce 63 = .ok (.getfield 57, 3) := by decide +kernel
theorem dX5_reduce_66 : decode cX5_reduce 66 = .ok (.iload_n 1, 1) := by decide +kernel
theorem dX5_reduce_67 : decode cX5_reduce 67 = .ok (.iaload, 1) := by decide +kernel
theorem dX5_reduce_68 : decode cX5_reduce 68 = .ok (.iadd, 1) := by decide +kernel
theorem dX5_reduce_69 : decode cX5_reduce 69 = .ok (.iconst 1, 1) := by decide +kernel
theorem dX5_reduce_70 : decode cX5_reduce 70 = .ok (.isub, 1) := by decide +kernel
theorem dX5_reduce_71 : decode cX5_reduce 71 = .ok (.istore 6, 2) := by decide +kernel
theorem dX5_reduce_73 : decode cX5_reduce 73 = .ok (.aload_n 0, 1) := by decide +kernel
theorem dX5_reduce_74 : decode cX5_reduce 74 = .ok (.getfield 63, 3) := by decide +kernel
theorem dX5_reduce_77 : decode cX5_reduce 77 = .ok (.iload 6, 2) := by decide +kernel
theorem dX5_reduce_79 : decode cX5_reduce 79 = .ok (.laload, 1) := by decide +kernel
theorem dX5_reduce_80 : decode cX5_reduce 80 = .ok (.lload 4, 2) := by decide +kernel
theorem dX5_reduce_82 : decode cX5_reduce 82 = .ok (.lcmp, 1) := by decide +kernel
theorem dX5_reduce_83 : decode cX5_reduce 83 = .ok (.ifCond .ge 13, 3) := by decide +kernel
theorem dX5_reduce_86 : decode cX5_reduce 86 = .ok (.aload_n 0, 1) := by decide +kernel
theorem dX5_reduce_87 : decode cX5_reduce 87 = .ok (.getfield 63, 3) := by decide +kernel
theorem dX5_reduce_90 : decode cX5_reduce 90 = .ok (.iload 6, 2) := by decide +kernel
theorem dX5_reduce_92 : decode cX5_reduce 92 = .ok (.laload, 1) := by decide +kernel
theorem dX5_reduce_93 : decode cX5_reduce 93 = .ok (.goto 5, 3) := by decide +kernel
theorem dX5_reduce_96 : decode cX5_reduce 96 = .ok (.lload 4, 2) := by decide +kernel
theorem dX5_reduce_98 : decode cX5_reduce 98 = .ok (.lstore 7, 2) := by decide +kernel
theorem dX5_reduce_100 : decode cX5_reduce 100 = .ok (.aload_n 0, 1) := by decide +kernel
theorem dX5_reduce_101 : decode cX5_reduce 101 = .ok (.getfield 63, 3) := by decide +kernel
theorem dX5_reduce_104 : decode cX5_reduce 104 = .ok (.iload 6, 2) := by decide +kernel
theorem dX5_reduce_106 : decode cX5_reduce 106 = .ok (.dup2, 1) := by decide +kernel
theorem dX5_reduce_107 : decode cX5_reduce 107 = .ok (.laload, 1) := by decide +kernel
theorem dX5_reduce_108 : decode cX5_reduce 108 = .ok (.lload 7, 2) := by decide +kernel
theorem dX5_reduce_110 : decode cX5_reduce 110 = .ok (.lsub, 1) := by decide +kernel
theorem dX5_reduce_111 : decode cX5_reduce 111 = .ok (.lastore, 1) := by decide +kernel
theorem dX5_reduce_112 : decode cX5_reduce 112 = .ok (.lload 4, 2) := by decide +kernel
theorem dX5_reduce_114 : decode cX5_reduce 114 = .ok (.lload 7, 2) := by decide +kernel
theorem dX5_reduce_116 : decode cX5_reduce 116 = .ok (.lsub, 1) := by decide +kernel
theorem dX5_reduce_117 : decode cX5_reduce 117 = .ok (.lstore 4, 2) := by decide +kernel
theorem dX5_reduce_119 : decode cX5_reduce 119 = .ok (.aload_n 0, 1) := by decide +kernel
theorem dX5_reduce_120 : decode cX5_reduce 120 = .ok (.getfield 57, 3) := by decide +kernel
theorem dX5_reduce_123 : decode cX5_reduce 123 = .ok (.iload_n 1, 1) := by decide +kernel
theorem dX5_reduce_124 : decode cX5_reduce 124 = .ok (.dup2, 1) := by decide +kernel
theorem dX5_reduce_125 : decode cX5_reduce 125 = .ok (.iaload, 1) := by decide +kernel
theorem dX5_reduce_126 : decode cX5_reduce 126 = .ok (.aload_n 0, 1) := by decide +kernel
theorem dX5_reduce_127 : decode cX5_reduce 127 = .ok (.getfield 63, 3) := by decide +kernel
theorem dX5_reduce_130 : decode cX5_reduce 130 = .ok (.iload 6, 2) := by decide +kernel
theorem dX5_reduce_132 : decode cX5_reduce 132 = .ok (.laload, 1) := by decide +kernel
theorem dX5_reduce_133 : decode cX5_reduce 133 = .ok (.lconst 0, 1) := by decide +kernel
theorem dX5_reduce_134 : decode cX5_reduce 134 = .ok (.lcmp, 1) := by decide +kernel
theorem dX5_reduce_135 : decode cX5_reduce 135 = .ok (.ifCond .ne 7, 3) := by decide +kernel
theorem dX5_reduce_138 : decode cX5_reduce 138 = .ok (.iconst 1, 1) := by decide +kernel
theorem dX5_reduce_139 : decode cX5_reduce 139 = .ok (.goto 4, 3) := by decide +kernel
theorem dX5_reduce_142 : decode cX5_reduce 142 = .ok (.iconst 0, 1) := by decide +kernel
theorem dX5_reduce_143 : decode cX5_reduce 143 = .ok (.isub, 1) := by decide +kernel
theorem dX5_reduce_144 : decode cX5_reduce 144 = .ok (.iastore, 1) := by decide +kernel
theorem dX5_reduce_145 : decode cX5_reduce 145 = .ok (.goto (-93), 3) := by decide +kernel
theorem dX5_reduce_148 : decode cX5_reduce 148 = .ok (.aload_n 0, 1) := by decide +kernel
theorem dX5_reduce_149 : decode cX5_reduce 149 = .ok (.iload_n 1, 1) := by decide +kernel
theorem dX5_reduce_150 : decode cX5_reduce 150 = .ok (.invokevirtual 141, 3) := by decide +kernel
theorem dX5_reduce_153 : decode cX5_reduce 153 = .ok (.lreturn, 1) := by decide +kernel
theorem dX5_endRow_0 : decode cX5_endRow 0 = .ok (.aload_n 0, 1) := by decide +kernel
theorem dX5_endRow_1 : decode cX5_endRow 1 = .ok (.getfield 39, 3) := by decide +kernel
theorem dX5_endRow_4 : decode cX5_endRow 4 = .ok (.iload_n 1, 1) := by decide +kernel
theorem dX5_endRow_5 : decode cX5_endRow 5 = .ok (.dup2, 1) := by decide +kernel
theorem dX5_endRow_6 : decode cX5_endRow 6 = .ok (.laload, 1) := by decide +kernel
theorem dX5_endRow_7 : decode cX5_endRow 7 = .ok (.aload_n 0, 1) := by decide +kernel
theorem dX5_endRow_8 : decode cX5_endRow 8 = .ok (.iload_n 1, 1) := by decide +kernel
theorem dX5_endRow_9 : decode cX5_endRow 9 = .ok (.invokevirtual 144, 3) := by decide +kernel
theorem dX5_endRow_12 : decode cX5_endRow 12 = .ok (.ladd, 1) := by decide +kernel
theorem dX5_endRow_13 : decode cX5_endRow 13 = .ok (.lastore, 1) := by decide +kernel
theorem dX5_endRow_14 : decode cX5_endRow 14 = .ok (.aload_n 0, 1) := by decide +kernel
theorem dX5_endRow_15 : decode cX5_endRow 15 = .ok (.getfield 42, 3) := by decide +kernel
theorem dX5_endRow_18 : decode cX5_endRow 18 = .ok (.iload_n 1, 1) := by decide +kernel
theorem dX5_endRow_19 : decode cX5_endRow 19 = .ok (.aload_n 0, 1) := by decide +kernel
theorem dX5_endRow_20 : decode cX5_endRow 20 = .ok (.getfield 100, 3) := by decide +kernel
theorem dX5_endRow_23 : decode cX5_endRow 23 = .ok (.iastore, 1) := by decide +kernel
theorem dX5_endRow_24 : decode cX5_endRow 24 = .ok (.return_, 1) := by decide +kernel
theorem dX5_running_0 : decode cX5_running 0 = .ok (.aload_n 0, 1) := by decide +kernel
theorem dX5_running_1 : decode cX5_running 1 = .ok (.getfield 30, 3) := by decide +kernel
theorem dX5_running_4 : decode cX5_running 4 = .ok (.iload_n 1, 1) := by decide +kernel
theorem dX5_running_5 : decode cX5_running 5 = .ok (.baload, 1) := by decide +kernel
theorem dX5_running_6 : decode cX5_running 6 = .ok (.ifCond .eq 12, 3) := by decide +kernel
theorem dX5_running_9 : decode cX5_running 9 = .ok (.aload_n 0, 1) := by decide +kernel
theorem dX5_running_10 : decode cX5_running 10 = .ok (.getfield 33, 3) := by decide +kernel
theorem dX5_running_13 : decode cX5_running 13 = .ok (.iload_n 1, 1) := by decide +kernel
theorem dX5_running_14 : decode cX5_running 14 = .ok (.iaload, 1) := by decide +kernel
theorem dX5_running_15 : decode cX5_running 15 = .ok (.goto 7, 3) := by decide +kernel
theorem dX5_running_18 : decode cX5_running 18 = .ok (.aload_n 0, 1) := by decide +kernel
theorem dX5_running_19 : decode cX5_running 19 = .ok (.getfield 100, 3) := by decide +kernel
theorem dX5_running_22 : decode cX5_running 22 = .ok (.istore_n 2, 1) := by decide +kernel
theorem dX5_running_23 : decode cX5_running 23 = .ok (.iload_n 2, 1) := by decide +kernel
theorem dX5_running_24 : decode cX5_running 24 = .ok (.aload_n 0, 1) := by decide +kernel
theorem dX5_running_25 : decode cX5_running 25 = .ok (.getfield 42, 3) := by decide +kernel
theorem dX5_running_28 : decode cX5_running 28 = .ok (.iload_n 1, 1) := by decide +kernel
theorem dX5_running_29 : decode cX5_running 29 = .ok (.iaload, 1) := by decide +kernel
theorem dX5_running_30 : decode cX5_running 30 = .ok (.if_icmp .gt 7, 3) := by decide +kernel
theorem dX5_running_33 : decode cX5_running 33 = .ok (.lconst 0, 1) := by decide +kernel
theorem dX5_running_34 : decode cX5_running 34 = .ok (.goto 31, 3) := by decide +kernel
theorem dX5_running_37 : decode cX5_running 37 = .ok (.aload_n 0, 1) := by decide +kernel
theorem dX5_running_38 : decode cX5_running 38 = .ok (.getfield 13, 3) := by decide +kernel
theorem dX5_running_41 : decode cX5_running 41 = .ok (.iload_n 1, 1) := by decide +kernel
theorem dX5_running_42 : decode cX5_running 42 = .ok (.laload, 1) := by decide +kernel
theorem dX5_running_43 : decode cX5_running 43 = .ok (.iload_n 2, 1) := by decide +kernel
theorem dX5_running_44 : decode cX5_running 44 = .ok (.aload_n 0, 1) := by decide +kernel
theorem dX5_running_45 : decode cX5_running 45 = .ok (.getfield 42, 3) := by decide +kernel
theorem dX5_running_48 : decode cX5_running 48 = .ok (.iload_n 1, 1) := by decide +kernel
theorem dX5_running_49 : decode cX5_running 49 = .ok (.iaload, 1) := by decide +kernel
theorem dX5_running_50 : decode cX5_running 50 = .ok (.isub, 1) := by decide +kernel
theorem dX5_running_51 : decode cX5_running 51 = .ok (.i2l, 1) := by decide +kernel
theorem dX5_running_52 : decode cX5_running 52 = .ok (.lmul, 1) := by decide +kernel
theorem dX5_running_53 : decode cX5_running 53 = .ok (.aload_n 0, 1) := by decide +kernel
theorem dX5_running_54 : decode cX5_running 54 = .ok (.getfield 27, 3) := by decide +kernel
theorem dX5_running_57 : decode cX5_running 57 = .ok (.iload_n 1, 1) := by decide +kernel
theorem dX5_running_58 : decode cX5_running 58 = .ok (.iaload, 1) := by decide +kernel
theorem dX5_running_59 : decode cX5_running 59 = .ok (.i2l, 1) := by decide +kernel
theorem dX5_running_60 : decode cX5_running 60 = .ok (.lmul, 1) := by decide +kernel
theorem dX5_running_61 : decode cX5_running 61 = .ok (.ldc2_w 147, 3) := by decide +kernel
theorem dX5_running_64 : decode cX5_running 64 = .ok (.ldiv, 1) := by decide +kernel
theorem dX5_running_65 : decode cX5_running 65 = .ok (.lreturn, 1) := by decide +kernel
theorem dX5_claim_0 : decode cX5_claim 0 = .ok (.aload_n 0, 1) := by decide +kernel
theorem dX5_claim_1 : decode cX5_claim 1 = .ok (.iload_n 1, 1) := by decide +kernel
theorem dX5_claim_2 : decode cX5_claim 2 = .ok (.invokevirtual 138, 3) := by decide +kernel
theorem dX5_claim_5 : decode cX5_claim 5 = .ok (.ifCond .eq 9, 3) := by decide +kernel
theorem dX5_claim_8 : decode cX5_claim 8 = .ok (.lload_n 2, 1) := by decide +kernel
theorem dX5_claim_9 : decode cX5_claim 9 = .ok (.lconst 1, 1) := by decide +kernel
theorem dX5_claim_10 : decode cX5_claim 10 = .ok (.lcmp, 1) := by decide +kernel
theorem dX5_claim_11 : decode cX5_claim 11 = .ok (.ifCond .ge 10, 3) := by decide +kernel
theorem dX5_claim_14 : decode cX5_claim 14 = .ok (.aload_n 0, 1) := by decide +kernel
theorem dX5_claim_15 : decode cX5_claim 15 = .ok (.iconst 1, 1) := by decide +kernel
theorem dX5_claim_16 : decode cX5_claim 16 = .ok (.invokevirtual 96, 3) := by decide +kernel
theorem dX5_claim_19 : decode cX5_claim 19 = .ok (.i2l, 1) := by decide +kernel
theorem dX5_claim_20 : decode cX5_claim 20 = .ok (.lreturn, 1) := by decide +kernel
theorem dX5_claim_21 : decode cX5_claim 21 = .ok (.aload_n 0, 1) := by decide +kernel
theorem dX5_claim_22 : decode cX5_claim 22 = .ok (.iconst 0, 1) := by decide +kernel
theorem dX5_claim_23 : decode cX5_claim 23 = .ok (.putfield 72, 3) := by decide +kernel
theorem dX5_claim_26 : decode cX5_claim 26 = .ok (.aload_n 0, 1) := by decide +kernel
theorem dX5_claim_27 : decode cX5_claim 27 = .ok (.getfield 54, 3) := by decide +kernel
theorem dX5_claim_30 : decode cX5_claim 30 = .ok (.iload_n 1, 1) := by decide +kernel
theorem dX5_claim_31 : decode cX5_claim 31 = .ok (.iaload, 1) := by decide +kernel
theorem dX5_claim_32 : decode cX5_claim 32 = .ok (.ifCond .gt 13, 3) := by decide +kernel
theorem dX5_claim_35 : decode cX5_claim 35 = .ok (.aload_n 0, 1) := by decide +kernel
theorem dX5_claim_36 : decode cX5_claim 36 = .ok (.iload_n 1, 1) := by decide +kernel
theorem dX5_claim_37 : decode cX5_claim 37 = .ok (.invokevirtual 141, 3) := by decide +kernel
theorem dX5_claim_40 : decode cX5_claim 40 = .ok (.lload_n 2, 1) := by decide +kernel
theorem dX5_claim_41 : decode cX5_claim 41 = .ok (.lcmp, 1) := by decide +kernel
theorem dX5_claim_42 : decode cX5_claim 42 = .ok (.ifCond .ge 7, 3) := by decide +kernel
theorem dX5_claim_45 : decode cX5_claim 45 = .ok (.ldc2_w 128, 3) := by decide +kernel
theorem dX5_claim_48 : decode cX5_claim 48 = .ok (.lreturn, 1) := by decide +kernel
theorem dX5_claim_49 : decode cX5_claim 49 = .ok (.lload_n 2, 1) := by decide +kernel
theorem dX5_claim_50 : decode cX5_claim 50 = .ok (.lstore 4, 2) := by decide +kernel
theorem dX5_claim_52 : decode cX5_claim 52 = .ok (.lconst 0, 1) := by decide +kernel
theorem dX5_claim_53 : decode cX5_claim 53 = .ok (.lstore 6, 2) := by decide +kernel
theorem dX5_claim_55 : decode cX5_claim 55 = .ok (.iconst 4, 1) := by decide +kernel
theorem dX5_claim_56 : decode cX5_claim 56 = .ok (.iload_n 1, 1) := by decide +kernel
theorem dX5_claim_57 : decode cX5_claim 57 = .ok (.imul, 1) := by decide +kernel
theorem dX5_claim_58 : decode cX5_claim 58 = .ok (.istore 8, 2) := by decide +kernel
theorem dX5_claim_60 : decode cX5_claim 60 = .ok (.iload 8, 2) := by decide +kernel
theorem dX5_claim_62 : decode cX5_claim 62 = .ok (.iconst 4, 1) := by decide +kernel
theorem dX5_claim_63 : decode cX5_claim 63 = .ok (.iload_n 1, 1) := by decide +kernel
theorem dX5_claim_64 : decode cX5_claim 64 = .ok (.imul, 1) := by decide +kernel
theorem dX5_claim_65 : decode cX5_claim 65 = .ok (.aload_n 0, 1) := by decide +kernel
theorem dX5_claim_66 : decode cX5_claim 66 = .ok (.getfield 57, 3) := by decide +kernel
theorem dX5_claim_69 : decode cX5_claim 69 = .ok (.iload_n 1, 1) := by decide +kernel
theorem dX5_claim_70 : decode cX5_claim 70 = .ok (.iaload, 1) := by decide +kernel
theorem dX5_claim_71 : decode cX5_claim 71 = .ok (.iadd, 1) := by decide +kernel
theorem dX5_claim_72 : decode cX5_claim 72 = .ok (.if_icmp .ge 123, 3) := by decide +kernel
theorem dX5_claim_75 : decode cX5_claim 75 = .ok (.aload_n 0, 1) := by decide +kernel
theorem dX5_claim_76 : decode cX5_claim 76 = .ok (.getfield 60, 3) := by decide +kernel
theorem dX5_claim_79 : decode cX5_claim 79 = .ok (.iload 8, 2) := by decide +kernel
theorem dX5_claim_81 : decode cX5_claim 81 = .ok (.iaload, 1) := by decide +kernel
theorem dX5_claim_82 : decode cX5_claim 82 = .ok (.istore 9, 2) := by decide +kernel
theorem dX5_claim_84 : decode cX5_claim 84 = .ok (.aload_n 0, 1) := by decide +kernel
theorem dX5_claim_85 : decode cX5_claim 85 = .ok (.getfield 63, 3) := by decide +kernel
theorem dX5_claim_88 : decode cX5_claim 88 = .ok (.iload 8, 2) := by decide +kernel
theorem dX5_claim_90 : decode cX5_claim 90 = .ok (.laload, 1) := by decide +kernel
theorem dX5_claim_91 : decode cX5_claim 91 = .ok (.lload 4, 2) := by decide +kernel
theorem dX5_claim_93 : decode cX5_claim 93 = .ok (.lcmp, 1) := by decide +kernel
theorem dX5_claim_94 : decode cX5_claim 94 = .ok (.ifCond .ge 13, 3) := by decide +kernel
theorem dX5_claim_97 : decode cX5_claim 97 = .ok (.aload_n 0, 1) := by decide +kernel
theorem dX5_claim_98 : decode cX5_claim 98 = .ok (.getfield 63, 3) := by decide +kernel
theorem dX5_claim_101 : decode cX5_claim 101 = .ok (.iload 8, 2) := by decide +kernel
theorem dX5_claim_103 : decode cX5_claim 103 = .ok (.laload, 1) := by decide +kernel
theorem dX5_claim_104 : decode cX5_claim 104 = .ok (.goto 5, 3) := by decide +kernel
theorem dX5_claim_107 : decode cX5_claim 107 = .ok (.lload 4, 2) := by decide +kernel
theorem dX5_claim_109 : decode cX5_claim 109 = .ok (.lstore 10, 2) := by decide +kernel
theorem dX5_claim_111 : decode cX5_claim 111 = .ok (.lload 4, 2) := by decide +kernel
theorem dX5_claim_113 : decode cX5_claim 113 = .ok (.lload 10, 2) := by decide +kernel
theorem dX5_claim_115 : decode cX5_claim 115 = .ok (.lsub, 1) := by decide +kernel
theorem dX5_claim_116 : decode cX5_claim 116 = .ok (.lstore 4, 2) := by decide +kernel
theorem dX5_claim_118 : decode cX5_claim 118 = .ok (.lload 10, 2) := by decide +kernel
theorem dX5_claim_120 : decode cX5_claim 120 = .ok (.aload_n 0, 1) := by decide +kernel
theorem dX5_claim_121 : decode cX5_claim 121 = .ok (.getfield 13, 3) := by decide +kernel
theorem dX5_claim_124 : decode cX5_claim 124 = .ok (.iload 9, 2) := by decide +kernel
theorem dX5_claim_126 : decode cX5_claim 126 = .ok (.laload, 1) := by decide +kernel
theorem dX5_claim_127 : decode cX5_claim 127 = .ok (.lcmp, 1) := by decide +kernel
theorem dX5_claim_128 : decode cX5_claim 128 = .ok (.ifCond .ge 8, 3) := by decide +kernel
theorem dX5_claim_131 : decode cX5_claim 131 = .ok (.lload 10, 2) := by decide +kernel
theorem dX5_claim_133 : decode cX5_claim 133 = .ok (.goto 10, 3) := by decide +kernel
theorem dX5_claim_136 : decode cX5_claim 136 = .ok (.aload_n 0, 1) := by decide +kernel
theorem dX5_claim_137 : decode cX5_claim 137 = .ok (.getfield 13, 3) := by decide +kernel
theorem dX5_claim_140 : decode cX5_claim 140 = .ok (.iload 9, 2) := by decide +kernel
theorem dX5_claim_142 : decode cX5_claim 142 = .ok (.laload, 1) := by decide +kernel
theorem dX5_claim_143 : decode cX5_claim 143 = .ok (.lstore 10, 2) := by decide +kernel
theorem dX5_claim_145 : decode cX5_claim 145 = .ok (.lload 10, 2) := by decide +kernel
theorem dX5_claim_147 : decode cX5_claim 147 = .ok (.lconst 0, 1) := by decide +kernel
theorem dX5_claim_148 : decode cX5_claim 148 = .ok (.lcmp, 1) := by decide +kernel
theorem dX5_claim_149 : decode cX5_claim 149 = .ok (.ifCond .le 40, 3) := by decide +kernel
theorem dX5_claim_152 : decode cX5_claim 152 = .ok (.aload_n 0, 1) := by decide +kernel
theorem dX5_claim_153 : decode cX5_claim 153 = .ok (.iload 9, 2) := by decide +kernel
theorem dX5_claim_155 : decode cX5_claim 155 = .ok (.invokevirtual 149, 3) := by decide +kernel
theorem dX5_claim_158 : decode cX5_claim 158 = .ok (.aload_n 0, 1) := by decide +kernel
theorem dX5_claim_159 : decode cX5_claim 159 = .ok (.getfield 13, 3) := by decide +kernel
theorem dX5_claim_162 : decode cX5_claim 162 = .ok (.iload 9, 2) := by decide +kernel
theorem dX5_claim_164 : decode cX5_claim 164 = .ok (.dup2, 1) := by decide +kernel
theorem dX5_claim_165 : decode cX5_claim 165 = .ok (.laload, 1) := by decide +kernel
theorem dX5_claim_166 : decode cX5_claim 166 = .ok (.lload 10, 2) := by decide +kernel
theorem dX5_claim_168 : decode cX5_claim 168 = .ok (.lsub, 1) := by decide +kernel
theorem dX5_claim_169 : decode cX5_claim 169 = .ok (.lastore, 1) := by decide +kernel
theorem dX5_claim_170 : decode cX5_claim 170 = .ok (.aload_n 0, 1) := by decide +kernel
theorem dX5_claim_171 : decode cX5_claim 171 = .ok (.getfield 36, 3) := by decide +kernel
theorem dX5_claim_174 : decode cX5_claim 174 = .ok (.iload 9, 2) := by decide +kernel
theorem dX5_claim_176 : decode cX5_claim 176 = .ok (.dup2, 1) := by decide +kernel
theorem dX5_claim_177 : decode cX5_claim 177 = .ok (.laload, 1) := by decide +kernel
theorem dX5_claim_178 : decode cX5_claim 178 = .ok (.lload 10, 2) := by decide +kernel
theorem dX5_claim_180 : decode cX5_claim 180 = .ok (.ladd, 1) := by decide +kernel
theorem dX5_claim_181 : decode cX5_claim 181 = .ok (.lastore, 1) := by decide +kernel
theorem dX5_claim_182 : decode cX5_claim 182 = .ok (.lload 6, 2) := by decide +kernel
theorem dX5_claim_184 : decode cX5_claim 184 = .ok (.lload 10, 2) := by decide +kernel
theorem dX5_claim_186 : decode cX5_claim 186 = .ok (.ladd, 1) := by decide +kernel
theorem dX5_claim_187 : decode cX5_claim 187 = .ok (.lstore 6, 2) := by decide +kernel
theorem dX5_claim_189 : decode cX5_claim 189 = .ok (.iinc 8 1, 3) := by decide +kernel
theorem dX5_claim_192 : decode cX5_claim 192 = .ok (.goto (-132), 3) := by decide +kernel
theorem dX5_claim_195 : decode cX5_claim 195 = .ok (.aload_n 0, 1) := by decide +kernel
theorem dX5_claim_196 : decode cX5_claim 196 = .ok (.getfield 54, 3) := by decide +kernel
theorem dX5_claim_199 : decode cX5_claim 199 = .ok (.iload_n 1, 1) := by decide +kernel
theorem dX5_claim_200 : decode cX5_claim 200 = .ok (.iconst 3, 1) := by decide +kernel
theorem dX5_claim_201 : decode cX5_claim 201 = .ok (.iastore, 1) := by decide +kernel
theorem dX5_claim_202 : decode cX5_claim 202 = .ok (.aload_n 0, 1) := by decide +kernel
theorem dX5_claim_203 : decode cX5_claim 203 = .ok (.getfield 57, 3) := by decide +kernel
theorem dX5_claim_206 : decode cX5_claim 206 = .ok (.iload_n 1, 1) := by decide +kernel
theorem dX5_claim_207 : decode cX5_claim 207 = .ok (.iconst 0, 1) := by decide +kernel
theorem dX5_claim_208 : decode cX5_claim 208 = .ok (.iastore, 1) := by decide +kernel
theorem dX5_claim_209 : decode cX5_claim 209 = .ok (.lload 6, 2) := by decide +kernel
theorem dX5_claim_211 : decode cX5_claim 211 = .ok (.lreturn, 1) := by decide +kernel
theorem dX5_close_0 : decode cX5_close 0 = .ok (.aload_n 0, 1) := by decide +kernel
theorem dX5_close_1 : decode cX5_close 1 = .ok (.iconst 0, 1) := by decide +kernel
theorem dX5_close_2 : decode cX5_close 2 = .ok (.putfield 72, 3) := by decide +kernel
theorem dX5_close_5 : decode cX5_close 5 = .ok (.aload_n 0, 1) := by decide +kernel
theorem dX5_close_6 : decode cX5_close 6 = .ok (.iload_n 1, 1) := by decide +kernel
theorem dX5_close_7 : decode cX5_close 7 = .ok (.invokevirtual 103, 3) := by decide +kernel
theorem dX5_close_10 : decode cX5_close 10 = .ok (.ifCond .eq 12, 3) := by decide +kernel
theorem dX5_close_13 : decode cX5_close 13 = .ok (.aload_n 0, 1) := by decide +kernel
theorem dX5_close_14 : decode cX5_close 14 = .ok (.getfield 30, 3) := by decide +kernel
theorem dX5_close_17 : decode cX5_close 17 = .ok (.iload_n 1, 1) := by decide +kernel
theorem dX5_close_18 : decode cX5_close 18 = .ok (.baload, 1) := by decide +kernel
theorem dX5_close_19 : decode cX5_close 19 = .ok (.ifCond .eq 5, 3) := by decide +kernel
theorem dX5_close_22 : decode cX5_close 22 = .ok (.iconst 0, 1) := by decide +kernel
theorem dX5_close_23 : decode cX5_close 23 = .ok (.ireturn, 1) := by decide +kernel
theorem dX5_close_24 : decode cX5_close 24 = .ok (.aload_n 0, 1) := by decide +kernel
theorem dX5_close_25 : decode cX5_close 25 = .ok (.getfield 30, 3) := by decide +kernel
theorem dX5_close_28 : decode cX5_close 28 = .ok (.iload_n 1, 1) := by decide +kernel
theorem dX5_close_29 : decode cX5_close 29 = .ok (.iconst 1, 1) := by decide +kernel
theorem dX5_close_30 : decode cX5_close 30 = .ok (.bastore, 1) := by decide +kernel
theorem dX5_close_31 : decode cX5_close 31 = .ok (.aload_n 0, 1) := by decide +kernel
theorem dX5_close_32 : decode cX5_close 32 = .ok (.getfield 33, 3) := by decide +kernel
theorem dX5_close_35 : decode cX5_close 35 = .ok (.iload_n 1, 1) := by decide +kernel
theorem dX5_close_36 : decode cX5_close 36 = .ok (.aload_n 0, 1) := by decide +kernel
theorem dX5_close_37 : decode cX5_close 37 = .ok (.getfield 100, 3) := by decide +kernel
theorem dX5_close_40 : decode cX5_close 40 = .ok (.iastore, 1) := by decide +kernel
theorem dX5_close_41 : decode cX5_close 41 = .ok (.iconst 1, 1) := by decide +kernel
theorem dX5_close_42 : decode cX5_close 42 = .ok (.ireturn, 1) := by decide +kernel
theorem dX5_fails_0 : decode cX5_fails 0 = .ok (.aload_n 0, 1) := by decide +kernel
theorem dX5_fails_1 : decode cX5_fails 1 = .ok (.iconst 0, 1) := by decide +kernel
theorem dX5_fails_2 : decode cX5_fails 2 = .ok (.putfield 72, 3) := by decide +kernel
theorem dX5_fails_5 : decode cX5_fails 5 = .ok (.iload_n 1, 1) := by decide +kernel
theorem dX5_fails_6 : decode cX5_fails 6 = .ok (.i2l, 1) := by decide +kernel
theorem dX5_fails_7 : decode cX5_fails 7 = .ok (.lconst 0, 1) := by decide +kernel
theorem dX5_fails_8 : decode cX5_fails 8 = .ok (.ldc2_w 130, 3) := by decide +kernel
theorem dX5_fails_11 : decode cX5_fails 11 = .ok (.invokestatic 84, 3) := by decide +kernel
theorem dX5_fails_14 : decode cX5_fails 14 = .ok (.ifCond .eq 13, 3) := by decide +kernel
theorem dX5_fails_17 : decode cX5_fails 17 = .ok (.aload_n 0, 1) := by decide +kernel
theorem dX5_fails_18 : decode cX5_fails 18 = .ok (.getfield 66, 3) := by decide +kernel
theorem dX5_fails_21 : decode cX5_fails 21 = .ok (.iload_n 1, 1) := by decide +kernel
theorem dX5_fails_22 : decode cX5_fails 22 = .ok (.baload, 1) := by decide +kernel
theorem dX5_fails_23 : decode cX5_fails 23 = .ok (.iload_n 2, 1) := by decide +kernel
theorem dX5_fails_24 : decode cX5_fails 24 = .ok (.if_icmp .ne 5, 3) := by decide +kernel
theorem dX5_fails_27 : decode cX5_fails 27 = .ok (.iconst 0, 1) := by decide +kernel
theorem dX5_fails_28 : decode cX5_fails 28 = .ok (.ireturn, 1) := by decide +kernel
theorem dX5_fails_29 : decode cX5_fails 29 = .ok (.aload_n 0, 1) := by decide +kernel
theorem dX5_fails_30 : decode cX5_fails 30 = .ok (.getfield 66, 3) := by decide +kernel
theorem dX5_fails_33 : decode cX5_fails 33 = .ok (.iload_n 1, 1) := by decide +kernel
theorem dX5_fails_34 : decode cX5_fails 34 = .ok (.iload_n 2, 1) := by decide +kernel
theorem dX5_fails_35 : decode cX5_fails 35 = .ok (.bastore, 1) := by decide +kernel
theorem dX5_fails_36 : decode cX5_fails 36 = .ok (.iconst 1, 1) := by decide +kernel
theorem dX5_fails_37 : decode cX5_fails 37 = .ok (.ireturn, 1) := by decide +kernel
theorem dX5_tick_0 : decode cX5_tick 0 = .ok (.aload_n 0, 1) := by decide +kernel
theorem dX5_tick_1 : decode cX5_tick 1 = .ok (.iconst 0, 1) := by decide +kernel
theorem dX5_tick_2 : decode cX5_tick 2 = .ok (.putfield 72, 3) := by decide +kernel
theorem dX5_tick_5 : decode cX5_tick 5 = .ok (.iload_n 1, 1) := by decide +kernel
theorem dX5_tick_6 : decode cX5_tick 6 = .ok (.aload_n 0, 1) := by decide +kernel
theorem dX5_tick_7 : decode cX5_tick 7 = .ok (.getfield 100, 3) := by decide +kernel
theorem dX5_tick_10 : decode cX5_tick 10 = .ok (.if_icmp .lt 9, 3) := by decide +kernel
theorem dX5_tick_13 : decode cX5_tick 13 = .ok (.iload_n 1, 1) := by decide +kernel
theorem dX5_tick_14 : decode cX5_tick 14 = .ok (.ldc 153, 2) := by decide +kernel
theorem dX5_tick_16 : decode cX5_tick 16 = .ok (.if_icmp .le 5, 3) := by decide +kernel
theorem dX5_tick_19 : decode cX5_tick 19 = .ok (.iconst 0, 1) := by decide +kernel
theorem dX5_tick_20 : decode cX5_tick 20 = .ok (.ireturn, 1) := by decide +kernel
theorem dX5_tick_21 : decode cX5_tick 21 = .ok (.aload_n 0, 1) := by decide +kernel
theorem dX5_tick_22 : decode cX5_tick 22 = .ok (.iload_n 1, 1) := by decide +kernel
theorem dX5_tick_23 : decode cX5_tick 23 = .ok (.putfield 100, 3) := by decide +kernel
theorem dX5_tick_26 : decode cX5_tick 26 = .ok (.iconst 1, 1) := by decide +kernel
theorem dX5_tick_27 : decode cX5_tick 27 = .ok (.ireturn, 1) := by decide +kernel
theorem dX5_interest_0 : decode cX5_interest 0 = .ok (.aload_n 0, 1) := by decide +kernel
theorem dX5_interest_1 : decode cX5_interest 1 = .ok (.iload_n 1, 1) := by decide +kernel
theorem dX5_interest_2 : decode cX5_interest 2 = .ok (.invokevirtual 103, 3) := by decide +kernel
theorem dX5_interest_5 : decode cX5_interest 5 = .ok (.ifCond .ne 10, 3) := by decide +kernel
theorem dX5_interest_8 : decode cX5_interest 8 = .ok (.aload_n 0, 1) := by decide +kernel
theorem dX5_interest_9 : decode cX5_interest 9 = .ok (.iconst 1, 1) := by decide +kernel
theorem dX5_interest_10 : decode cX5_interest 10 = .ok (.invokevirtual 96, 3) := by decide +kernel
theorem dX5_interest_13 : decode cX5_interest 13 = .ok (.i2l, 1) := by decide +kernel
theorem dX5_interest_14 : decode cX5_interest 14 = .ok (.lreturn, 1) := by decide +kernel
theorem dX5_interest_15 : decode cX5_interest 15 = .ok (.aload_n 0, 1) := by decide +kernel
theorem dX5_interest_16 : decode cX5_interest 16 = .ok (.iconst 0, 1) := by decide +kernel
theorem dX5_interest_17 : decode cX5_interest 17 = .ok (.putfield 72, 3) := by decide +kernel
theorem dX5_interest_20 : decode cX5_interest 20 = .ok (.aload_n 0, 1) := by decide +kernel
theorem dX5_interest_21 : decode cX5_interest 21 = .ok (.getfield 39, 3) := by decide +kernel
theorem dX5_interest_24 : decode cX5_interest 24 = .ok (.iload_n 1, 1) := by decide +kernel
theorem dX5_interest_25 : decode cX5_interest 25 = .ok (.laload, 1) := by decide +kernel
theorem dX5_interest_26 : decode cX5_interest 26 = .ok (.aload_n 0, 1) := by decide +kernel
theorem dX5_interest_27 : decode cX5_interest 27 = .ok (.iload_n 1, 1) := by decide +kernel
theorem dX5_interest_28 : decode cX5_interest 28 = .ok (.invokevirtual 144, 3) := by decide +kernel
theorem dX5_interest_31 : decode cX5_interest 31 = .ok (.ladd, 1) := by decide +kernel
theorem dX5_interest_32 : decode cX5_interest 32 = .ok (.lreturn, 1) := by decide +kernel
theorem dX5_look_0 : decode cX5_look 0 = .ok (.aload_n 0, 1) := by decide +kernel
theorem dX5_look_1 : decode cX5_look 1 = .ok (.iload_n 1, 1) := by decide +kernel
theorem dX5_look_2 : decode cX5_look 2 = .ok (.invokevirtual 103, 3) := by decide +kernel
theorem dX5_look_5 : decode cX5_look 5 = .ok (.ifCond .eq 13, 3) := by decide +kernel
theorem dX5_look_8 : decode cX5_look 8 = .ok (.iload_n 2, 1) := by decide +kernel
theorem dX5_look_9 : decode cX5_look 9 = .ok (.ifCond .lt 9, 3) := by decide +kernel
theorem dX5_look_12 : decode cX5_look 12 = .ok (.iload_n 2, 1) := by decide +kernel
theorem dX5_look_13 : decode cX5_look 13 = .ok (.bipush 8, 2) := by decide +kernel
theorem dX5_look_15 : decode cX5_look 15 = .ok (.if_icmp .le 10, 3) := by decide +kernel
theorem dX5_look_18 : decode cX5_look 18 = .ok (.aload_n 0, 1) := by decide +kernel
theorem dX5_look_19 : decode cX5_look 19 = .ok (.iconst 1, 1) := by decide +kernel
theorem dX5_look_20 : decode cX5_look 20 = .ok (.invokevirtual 96, 3) := by decide +kernel
theorem dX5_look_23 : decode cX5_look 23 = .ok (.i2l, 1) := by decide +kernel
theorem dX5_look_24 : decode cX5_look 24 = .ok (.lreturn, 1) := by decide +kernel
theorem dX5_look_25 : decode cX5_look 25 = .ok (.aload_n 0, 1) := by decide +kernel
theorem dX5_look_26 : decode cX5_look 26 = .ok (.iconst 0, 1) := by decide +kernel
theorem dX5_look_27 : decode cX5_look 27 = .ok (.putfield 72, 3) := by decide +kernel
theorem dX5_look_30 : decode cX5_look 30 = .ok (.aload_n 0, 1) := by decide +kernel
theorem dX5_look_31 : decode cX5_look 31 = .ok (.iload_n 1, 1) := by decide +kernel
theorem dX5_look_32 : decode cX5_look 32 = .ok (.invokevirtual 110, 3) := by decide +kernel
theorem dX5_look_35 : decode cX5_look 35 = .ok (.aload_n 0, 1) := by decide +kernel
theorem dX5_look_36 : decode cX5_look 36 = .ok (.getfield 13, 3) := by decide +kernel
theorem dX5_look_39 : decode cX5_look 39 = .ok (.iload_n 1, 1) := by decide +kernel
theorem dX5_look_40 : decode cX5_look 40 = .ok (.laload, 1) := by decide +kernel
theorem dX5_look_41 : decode cX5_look 41 = .ok (.lsub, 1) := by decide +kernel
theorem dX5_look_42 : decode cX5_look 42 = .ok (.lstore_n 3, 1) := by decide +kernel
theorem dX5_look_43 : decode cX5_look 43 = .ok (.iload_n 2, 1) := by decide +kernel
theorem dX5_look_44 : decode cX5_look 44 = .ok (.tableswitch 115 0 7 #[48, 56, 63, 69, 75, 81, 88, 103], 48) := by decide +kernel
theorem dX5_look_92 : decode cX5_look 92 = .ok (.aload_n 0, 1) := by decide +kernel
theorem dX5_look_93 : decode cX5_look 93 = .ok (.getfield 7, 3) := by decide +kernel
theorem dX5_look_96 : decode cX5_look 96 = .ok (.iload_n 1, 1) := by decide +kernel
theorem dX5_look_97 : decode cX5_look 97 = .ok (.iaload, 1) := by decide +kernel
theorem dX5_look_98 : decode cX5_look 98 = .ok (.i2l, 1) := by decide +kernel
theorem dX5_look_99 : decode cX5_look 99 = .ok (.lreturn, 1) := by decide +kernel
theorem dX5_look_100 : decode cX5_look 100 = .ok (.aload_n 0, 1) := by decide +kernel
theorem dX5_look_101 : decode cX5_look 101 = .ok (.getfield 13, 3) := by decide +kernel
theorem dX5_look_104 : decode cX5_look 104 = .ok (.iload_n 1, 1) := by decide +kernel
theorem dX5_look_105 : decode cX5_look 105 = .ok (.laload, 1) := by decide +kernel
theorem dX5_look_106 : decode cX5_look 106 = .ok (.lreturn, 1) := by decide +kernel
theorem dX5_look_107 : decode cX5_look 107 = .ok (.aload_n 0, 1) := by decide +kernel
theorem dX5_look_108 : decode cX5_look 108 = .ok (.iload_n 1, 1) := by decide +kernel
theorem dX5_look_109 : decode cX5_look 109 = .ok (.invokevirtual 110, 3) := by decide +kernel
theorem dX5_look_112 : decode cX5_look 112 = .ok (.lreturn, 1) := by decide +kernel
theorem dX5_look_113 : decode cX5_look 113 = .ok (.aload_n 0, 1) := by decide +kernel
theorem dX5_look_114 : decode cX5_look 114 = .ok (.iload_n 1, 1) := by decide +kernel
theorem dX5_look_115 : decode cX5_look 115 = .ok (.invokevirtual 117, 3) := by decide +kernel
theorem dX5_look_118 : decode cX5_look 118 = .ok (.lreturn, 1) := by decide +kernel
theorem dX5_look_119 : decode cX5_look 119 = .ok (.aload_n 0, 1) := by decide +kernel
theorem dX5_look_120 : decode cX5_look 120 = .ok (.iload_n 1, 1) := by decide +kernel
theorem dX5_look_121 : decode cX5_look 121 = .ok (.invokevirtual 120, 3) := by decide +kernel
theorem dX5_look_124 : decode cX5_look 124 = .ok (.lreturn, 1) := by decide +kernel
theorem dX5_look_125 : decode cX5_look 125 = .ok (.aload_n 0, 1) := by decide +kernel
theorem dX5_look_126 : decode cX5_look 126 = .ok (.iload_n 1, 1) := by decide +kernel
theorem dX5_look_127 : decode cX5_look 127 = .ok (.invokevirtual 114, 3) := by decide +kernel
theorem dX5_look_130 : decode cX5_look 130 = .ok (.i2l, 1) := by decide +kernel
theorem dX5_look_131 : decode cX5_look 131 = .ok (.lreturn, 1) := by decide +kernel
theorem dX5_look_132 : decode cX5_look 132 = .ok (.aload_n 0, 1) := by decide +kernel
theorem dX5_look_133 : decode cX5_look 133 = .ok (.getfield 30, 3) := by decide +kernel
theorem dX5_look_136 : decode cX5_look 136 = .ok (.iload_n 1, 1) := by decide +kernel
theorem dX5_look_137 : decode cX5_look 137 = .ok (.baload, 1) := by decide +kernel
theorem dX5_look_138 : decode cX5_look 138 = .ok (.ifCond .eq 7, 3) := by decide +kernel
theorem dX5_look_141 : decode cX5_look 141 = .ok (.lconst 1, 1) := by decide +kernel
theorem dX5_look_142 : decode cX5_look 142 = .ok (.goto 4, 3) := by decide +kernel
theorem dX5_look_145 : decode cX5_look 145 = .ok (.lconst 0, 1) := by decide +kernel
theorem dX5_look_146 : decode cX5_look 146 = .ok (.lreturn, 1) := by decide +kernel
theorem dX5_look_147 : decode cX5_look 147 = .ok (.lload_n 3, 1) := by decide +kernel
theorem dX5_look_148 : decode cX5_look 148 = .ok (.lconst 0, 1) := by decide +kernel
theorem dX5_look_149 : decode cX5_look 149 = .ok (.lcmp, 1) := by decide +kernel
theorem dX5_look_150 : decode cX5_look 150 = .ok (.ifCond .le 7, 3) := by decide +kernel
theorem dX5_look_153 : decode cX5_look 153 = .ok (.lload_n 3, 1) := by decide +kernel
theorem dX5_look_154 : decode cX5_look 154 = .ok (.goto 4, 3) := by decide +kernel
theorem dX5_look_157 : decode cX5_look 157 = .ok (.lconst 0, 1) := by decide +kernel
theorem dX5_look_158 : decode cX5_look 158 = .ok (.lreturn, 1) := by decide +kernel
theorem dX5_look_159 : decode cX5_look 159 = .ok (.aload_n 0, 1) := by decide +kernel
theorem dX5_look_160 : decode cX5_look 160 = .ok (.getfield 36, 3) := by decide +kernel
theorem dX5_look_163 : decode cX5_look 163 = .ok (.iload_n 1, 1) := by decide +kernel
theorem dX5_look_164 : decode cX5_look 164 = .ok (.laload, 1) := by decide +kernel
theorem dX5_look_165 : decode cX5_look 165 = .ok (.lreturn, 1) := by decide +kernel
theorem dX5_of_0 : decode cX5_of 0 = .ok (.aload_n 0, 1) := by decide +kernel
theorem dX5_of_1 : decode cX5_of 1 = .ok (.iload_n 1, 1) := by decide +kernel
theorem dX5_of_2 : decode cX5_of 2 = .ok (.invokevirtual 138, 3) := by decide +kernel
theorem dX5_of_5 : decode cX5_of 5 = .ok (.ifCond .eq 17, 3) := by decide +kernel
theorem dX5_of_8 : decode cX5_of 8 = .ok (.iload_n 2, 1) := by decide +kernel
theorem dX5_of_9 : decode cX5_of 9 = .ok (.ifCond .lt 13, 3) := by decide +kernel
theorem dX5_of_12 : decode cX5_of 12 = .ok (.iload_n 2, 1) := by decide +kernel
theorem dX5_of_13 : decode cX5_of 13 = .ok (.bipush 13, 2) := by decide +kernel
theorem dX5_of_15 : decode cX5_of 15 = .ok (.if_icmp .ge 7, 3) := by decide +kernel
theorem dX5_of_18 : decode cX5_of 18 = .ok (.iconst 1, 1) := by decide +kernel
theorem dX5_of_19 : decode cX5_of 19 = .ok (.goto 4, 3) := by decide +kernel
theorem dX5_of_22 : decode cX5_of 22 = .ok (.iconst 0, 1) := by decide +kernel
theorem dX5_of_23 : decode cX5_of 23 = .ok (.istore_n 3, 1) := by decide +kernel
theorem dX5_of_24 : decode cX5_of 24 = .ok (.iload_n 2, 1) := by decide +kernel
theorem dX5_of_25 : decode cX5_of 25 = .ok (.iconst 5, 1) := by decide +kernel
theorem dX5_of_26 : decode cX5_of 26 = .ok (.if_icmp .ge 7, 3) := by decide +kernel
theorem dX5_of_29 : decode cX5_of 29 = .ok (.iconst 0, 1) := by decide +kernel
theorem dX5_of_30 : decode cX5_of 30 = .ok (.goto 19, 3) := by decide +kernel
theorem dX5_of_33 : decode cX5_of 33 = .ok (.iload_n 2, 1) := by decide +kernel
theorem dX5_of_34 : decode cX5_of 34 = .ok (.bipush 9, 2) := by decide +kernel
theorem dX5_of_36 : decode cX5_of 36 = .ok (.if_icmp .ge 9, 3) := by decide +kernel
theorem dX5_of_39 : decode cX5_of 39 = .ok (.iload_n 2, 1) := by decide +kernel
theorem dX5_of_40 : decode cX5_of 40 = .ok (.iconst 5, 1) := by decide +kernel
theorem dX5_of_41 : decode cX5_of 41 = .ok (.isub, 1) := by decide +kernel
theorem dX5_of_42 : decode cX5_of 42 = .ok (.goto 7, 3) := by decide +kernel
theorem dX5_of_45 : decode cX5_of 45 = .ok (.iload_n 2, 1) := by decide +kernel
theorem dX5_of_46 : decode cX5_of 46 = .ok (.bipush 9, 2) := by decide +kernel
theorem dX5_of_48 : decode cX5_of 48 = .ok (.isub, 1) := by decide +kernel
theorem dX5_of_49 : decode cX5_of 49 = .ok (.istore 4, 2) := by decide +kernel
theorem dX5_of_51 : decode cX5_of 51 = .ok (.iload_n 3, 1) := by decide +kernel
theorem dX5_of_52 : decode cX5_of 52 = .ok (.ifCond .eq 27, 3) := by decide +kernel
theorem dX5_of_55 : decode cX5_of 55 = .ok (.iload_n 2, 1) := by decide +kernel
theorem dX5_of_56 : decode cX5_of 56 = .ok (.iconst 4, 1) := by decide +kernel
theorem dX5_of_57 : decode cX5_of 57 = .ok (.if_icmp .le 29, 3) := by decide +kernel
theorem dX5_of_60 : decode cX5_of 60 = .ok (.iload 4, 2) := by decide +kernel
theorem dX5_of_62 : decode cX5_of 62 = .ok (.aload_n 0, 1) := by decide +kernel
theorem dX5_of_63 : decode cX5_of 63 = .ok (.getfield 57, 3) := by decide +kernel
theorem dX5_of_66 : decode cX5_of 66 = .ok (.iload_n 3, 1) := by decide +kernel
theorem dX5_of_67 : decode cX5_of 67 = .ok (.ifCond .eq 7, 3) := by decide +kernel
theorem dX5_of_70 : decode cX5_of 70 = .ok (.iload_n 1, 1) := by decide +kernel
theorem dX5_of_71 : decode cX5_of 71 = .ok (.goto 4, 3) := by decide +kernel
theorem dX5_of_74 : decode cX5_of 74 = .ok (.iconst 0, 1) := by decide +kernel
theorem dX5_of_75 : decode cX5_of 75 = .ok (.iaload, 1) := by decide +kernel
theorem dX5_of_76 : decode cX5_of 76 = .ok (.if_icmp .lt 10, 3) := by decide +kernel
theorem dX5_of_79 : decode cX5_of 79 = .ok (.aload_n 0, 1) := by decide +kernel
theorem dX5_of_80 : decode cX5_of 80 = .ok (.iconst 1, 1) := by decide +kernel
theorem dX5_of_81 : decode cX5_of 81 = .ok (.invokevirtual 96, 3) := by decide +kernel
theorem dX5_of_84 : decode cX5_of 84 = .ok (.i2l, 1) := by decide +kernel
theorem dX5_of_85 : decode cX5_of 85 = .ok (.lreturn, 1) := by decide +kernel
theorem dX5_of_86 : decode cX5_of 86 = .ok (.aload_n 0, 1) := by decide +kernel
theorem dX5_of_87 : decode cX5_of 87 = .ok (.iconst 0, 1) := by decide +kernel
theorem dX5_of_88 : decode cX5_of 88 = .ok (.putfield 72, 3) := by decide +kernel
theorem dX5_of_91 : decode cX5_of 91 = .ok (.iload_n 2, 1) := by decide +kernel
theorem dX5_of_92 : decode cX5_of 92 = .ok (.tableswitch 73 0 4 #[36, 44, 51, 57, 65], 36) := by decide +kernel
theorem dX5_of_128 : decode cX5_of 128 = .ok (.aload_n 0, 1) := by decide +kernel
theorem dX5_of_129 : decode cX5_of 129 = .ok (.getfield 48, 3) := by decide +kernel
theorem dX5_of_132 : decode cX5_of 132 = .ok (.iload_n 1, 1) := by decide +kernel
theorem dX5_of_133 : decode cX5_of 133 = .ok (.iaload, 1) := by decide +kernel
theorem dX5_of_134 : decode cX5_of 134 = .ok (.i2l, 1) := by decide +kernel
theorem dX5_of_135 : decode cX5_of 135 = .ok (.lreturn, 1) := by decide +kernel
theorem dX5_of_136 : decode cX5_of 136 = .ok (.aload_n 0, 1) := by decide +kernel
theorem dX5_of_137 : decode cX5_of 137 = .ok (.getfield 51, 3) := by decide +kernel
theorem dX5_of_140 : decode cX5_of 140 = .ok (.iload_n 1, 1) := by decide +kernel
theorem dX5_of_141 : decode cX5_of 141 = .ok (.laload, 1) := by decide +kernel
theorem dX5_of_142 : decode cX5_of 142 = .ok (.lreturn, 1) := by decide +kernel
theorem dX5_of_143 : decode cX5_of 143 = .ok (.aload_n 0, 1) := by decide +kernel
theorem dX5_of_144 : decode cX5_of 144 = .ok (.iload_n 1, 1) := by decide +kernel
theorem dX5_of_145 : decode cX5_of 145 = .ok (.invokevirtual 141, 3) := by decide +kernel
theorem dX5_of_148 : decode cX5_of 148 = .ok (.lreturn, 1) := by decide +kernel
theorem dX5_of_149 : decode cX5_of 149 = .ok (.aload_n 0, 1) := by decide +kernel
theorem dX5_of_150 : decode cX5_of 150 = .ok (.getfield 54, 3) := by decide +kernel
theorem dX5_of_153 : decode cX5_of 153 = .ok (.iload_n 1, 1) := by decide +kernel
theorem dX5_of_154 : decode cX5_of 154 = .ok (.iaload, 1) := by decide +kernel
theorem dX5_of_155 : decode cX5_of 155 = .ok (.i2l, 1) := by decide +kernel
theorem dX5_of_156 : decode cX5_of 156 = .ok (.lreturn, 1) := by decide +kernel
theorem dX5_of_157 : decode cX5_of 157 = .ok (.aload_n 0, 1) := by decide +kernel
theorem dX5_of_158 : decode cX5_of 158 = .ok (.getfield 57, 3) := by decide +kernel
theorem dX5_of_161 : decode cX5_of 161 = .ok (.iload_n 1, 1) := by decide +kernel
theorem dX5_of_162 : decode cX5_of 162 = .ok (.iaload, 1) := by decide +kernel
theorem dX5_of_163 : decode cX5_of 163 = .ok (.i2l, 1) := by decide +kernel
theorem dX5_of_164 : decode cX5_of 164 = .ok (.lreturn, 1) := by decide +kernel
theorem dX5_of_165 : decode cX5_of 165 = .ok (.iload_n 2, 1) := by decide +kernel
theorem dX5_of_166 : decode cX5_of 166 = .ok (.bipush 9, 2) := by decide +kernel
theorem dX5_of_168 : decode cX5_of 168 = .ok (.if_icmp .ge 18, 3) := by decide +kernel
theorem dX5_of_171 : decode cX5_of 171 = .ok (.aload_n 0, 1) := by decide +kernel
theorem dX5_of_172 : decode cX5_of 172 = .ok (.getfield 60, 3) := by decide +kernel
theorem dX5_of_175 : decode cX5_of 175 = .ok (.iconst 4, 1) := by decide +kernel
theorem dX5_of_176 : decode cX5_of 176 = .ok (.iload_n 1, 1) := by decide +kernel
theorem dX5_of_177 : decode cX5_of 177 = .ok (.imul, 1) := by decide +kernel
theorem dX5_of_178 : decode cX5_of 178 = .ok (.iload 4, 2) := by decide +kernel
theorem dX5_of_180 : decode cX5_of 180 = .ok (.iadd, 1) := by decide +kernel
theorem dX5_of_181 : decode cX5_of 181 = .ok (.iaload, 1) := by decide +kernel
theorem dX5_of_182 : decode cX5_of 182 = .ok (.i2l, 1) := by decide +kernel
theorem dX5_of_183 : decode cX5_of 183 = .ok (.goto 14, 3) := by decide +kernel
theorem dX5_of_186 : decode cX5_of 186 = .ok (.aload_n 0, 1) := by decide +kernel
theorem dX5_of_187 : decode cX5_of 187 = .ok (.getfield 63, 3) := by decide +kernel
theorem dX5_of_190 : decode cX5_of 190 = .ok (.iconst 4, 1) := by decide +kernel
theorem dX5_of_191 : decode cX5_of 191 = .ok (.iload_n 1, 1) := by decide +kernel
theorem dX5_of_192 : decode cX5_of 192 = .ok (.imul, 1) := by decide +kernel
theorem dX5_of_193 : decode cX5_of 193 = .ok (.iload 4, 2) := by decide +kernel
theorem dX5_of_195 : decode cX5_of 195 = .ok (.iadd, 1) := by decide +kernel
theorem dX5_of_196 : decode cX5_of 196 = .ok (.laload, 1) := by decide +kernel
theorem dX5_of_197 : decode cX5_of 197 = .ok (.lreturn, 1) := by decide +kernel
theorem dX5_count_0 : decode cX5_count 0 = .ok (.aload_n 0, 1) := by decide +kernel
theorem dX5_count_1 : decode cX5_count 1 = .ok (.iconst 0, 1) := by decide +kernel
theorem dX5_count_2 : decode cX5_count 2 = .ok (.putfield 72, 3) := by decide +kernel
theorem dX5_count_5 : decode cX5_count 5 = .ok (.iconst 0, 1) := by decide +kernel
theorem dX5_count_6 : decode cX5_count 6 = .ok (.istore_n 2, 1) := by decide +kernel
theorem dX5_count_7 : decode cX5_count 7 = .ok (.iconst 1, 1) := by decide +kernel
theorem dX5_count_8 : decode cX5_count 8 = .ok (.istore_n 3, 1) := by decide +kernel
theorem dX5_count_9 : decode cX5_count 9 = .ok (.iload_n 3, 1) := by decide +kernel
theorem dX5_count_10 : decode cX5_count 10 = .ok (.aload_n 0, 1) := by decide +kernel
theorem dX5_count_11 : decode cX5_count 11 = .ok (.getfield 79, 3) := by decide +kernel
theorem dX5_count_14 : decode cX5_count 14 = .ok (.if_icmp .gt 26, 3) := by decide +kernel
theorem dX5_count_17 : decode cX5_count 17 = .ok (.iload_n 2, 1) := by decide +kernel
theorem dX5_count_18 : decode cX5_count 18 = .ok (.aload_n 0, 1) := by decide +kernel
theorem dX5_count_19 : decode cX5_count 19 = .ok (.getfield 54, 3) := by decide +kernel
theorem dX5_count_22 : decode cX5_count 22 = .ok (.iload_n 3, 1) := by decide +kernel
theorem dX5_count_23 : decode cX5_count 23 = .ok (.iaload, 1) := by decide +kernel
theorem dX5_count_24 : decode cX5_count 24 = .ok (.ifCond .ne 7, 3) := by decide +kernel
theorem dX5_count_27 : decode cX5_count 27 = .ok (.iconst 1, 1) := by decide +kernel
theorem dX5_count_28 : decode cX5_count 28 = .ok (.goto 4, 3) := by decide +kernel
theorem dX5_count_31 : decode cX5_count 31 = .ok (.iconst 0, 1) := by decide +kernel
theorem dX5_count_32 : decode cX5_count 32 = .ok (.iadd, 1) := by decide +kernel
theorem dX5_count_33 : decode cX5_count 33 = .ok (.istore_n 2, 1) := by decide +kernel
theorem dX5_count_34 : decode cX5_count 34 = .ok (.iinc 3 1, 3) := by decide +kernel
theorem dX5_count_37 : decode cX5_count 37 = .ok (.goto (-28), 3) := by decide +kernel
theorem dX5_count_40 : decode cX5_count 40 = .ok (.iload_n 1, 1) := by decide +kernel
theorem dX5_count_41 : decode cX5_count 41 = .ok (.bipush 10, 2) := by decide +kernel
theorem dX5_count_43 : decode cX5_count 43 = .ok (.if_icmp .lt 23, 3) := by decide +kernel
theorem dX5_count_46 : decode cX5_count 46 = .ok (.iload_n 1, 1) := by decide +kernel
theorem dX5_count_47 : decode cX5_count 47 = .ok (.bipush 14, 2) := by decide +kernel
theorem dX5_count_49 : decode cX5_count 49 = .ok (.if_icmp .ge 15, 3) := by decide +kernel
theorem dX5_count_52 : decode cX5_count 52 = .ok (.aload_n 0, 1) := by decide +kernel
theorem dX5_count_53 : decode cX5_count 53 = .ok (.getfield 69, 3) := by decide +kernel
theorem dX5_count_56 : decode cX5_count 56 = .ok (.iload_n 1, 1) := by decide +kernel
theorem dX5_count_57 : decode cX5_count 57 = .ok (.bipush 10, 2) := by decide +kernel
theorem dX5_count_59 : decode cX5_count 59 = .ok (.isub, 1) := by decide +kernel
theorem dX5_count_60 : decode cX5_count 60 = .ok (.iaload, 1) := by decide +kernel
theorem dX5_count_61 : decode cX5_count 61 = .ok (.goto 4, 3) := by decide +kernel
theorem dX5_count_64 : decode cX5_count 64 = .ok (.iconst (-1), 1) := by decide +kernel
theorem dX5_count_65 : decode cX5_count 65 = .ok (.ireturn, 1) := by decide +kernel
theorem dX5_count_66 : decode cX5_count 66 = .ok (.iload_n 1, 1) := by decide +kernel
theorem dX5_count_67 : decode cX5_count 67 = .ok (.tableswitch 46 0 3 #[29, 34, 39, 41], 29) := by decide +kernel
theorem dX5_count_96 : decode cX5_count 96 = .ok (.aload_n 0, 1) := by decide +kernel
theorem dX5_count_97 : decode cX5_count 97 = .ok (.getfield 76, 3) := by decide +kernel
theorem dX5_count_100 : decode cX5_count 100 = .ok (.ireturn, 1) := by decide +kernel
theorem dX5_count_101 : decode cX5_count 101 = .ok (.aload_n 0, 1) := by decide +kernel
theorem dX5_count_102 : decode cX5_count 102 = .ok (.getfield 79, 3) := by decide +kernel
theorem dX5_count_105 : decode cX5_count 105 = .ok (.ireturn, 1) := by decide +kernel
theorem dX5_count_106 : decode cX5_count 106 = .ok (.iload_n 2, 1) := by decide +kernel
theorem dX5_count_107 : decode cX5_count 107 = .ok (.ireturn, 1) := by decide +kernel
theorem dX5_count_108 : decode cX5_count 108 = .ok (.aload_n 0, 1) := by decide +kernel
theorem dX5_count_109 : decode cX5_count 109 = .ok (.getfield 100, 3) := by decide +kernel
theorem dX5_count_112 : decode cX5_count 112 = .ok (.ireturn, 1) := by decide +kernel
theorem dX5_count_113 : decode cX5_count 113 = .ok (.iconst (-1), 1) := by decide +kernel
theorem dX5_count_114 : decode cX5_count 114 = .ok (.ireturn, 1) := by decide +kernel
end
section
/-! THE MODEL'S METHODS, in the order of their own steps -/
abbrev pIn (x a b : Int64) : Prop := ¬ x < a ∧ ¬ b < x
abbrev pNum (x : Int32) (c : Int32) : Prop := ¬ x < 1 ∧ ¬ c < x
theorem i4mul (a : Nat) : 4 * nI a = nI (4 * a) := pk_mul 4 a
def mNeeds (μ : CS) (g : Nat) (x : Int64) : Int64 := (x * (fI μ 9 2 g).toInt64) / (fI μ 9 3 g).toInt64 + (if (x * (fI μ 9 2 g).toInt64) - (x * (fI μ 9 2 g).toInt64) / (fI μ 9 3 g).toInt64 * (fI μ 9 3 g).toInt64 ≤ 0 then 0 else 1)
def mP (μ : CS) (j : Nat) : Nat := (fI μ 9 15 j).toNatClampNeg
def mNdI (μ : CS) (g j : Nat) (a : Int64) : Nat → Int64
  | 0 => a
  | k + 1 => mNdI μ g j a k + (if fI μ 9 16 (4 * j + k) = nI g then mNeeds μ g (fL μ 9 17 (4 * j + k)) else 0)
def mNd (μ : CS) (g : Nat) : Nat → Int64
  | 0 => 0
  | j + 1 => mNdI μ g (j + 1) (mNd μ g j) (mP μ (j + 1))
def mUsI (μ : CS) (g j : Nat) (a : Int32) : Nat → Int32
  | 0 => a
  | k + 1 => mUsI μ g j a k + (if fI μ 9 16 (4 * j + k) = nI g then 1 else 0)
def mUs (μ : CS) (g : Nat) : Nat → Int32
  | 0 => 0
  | j + 1 => mUsI μ g (j + 1) (mUs μ g j) (mP μ (j + 1))
def mFree (μ : CS) (g r : Nat) : Int64 := if 0 ≤ fL μ 9 1 g - mNd μ g r then fL μ 9 1 g - mNd μ g r else 0
def mMay (μ : CS) (g r : Nat) : Int64 := if ¬ fI μ 9 6 g = 0 ∨ (¬ fI μ 9 4 g = 0 ∧ ¬ mUs μ g r ≤ 0) then 0 else if fI μ 9 2 g = 0 then 1000000000 else mFree μ g r * (fI μ 9 3 g).toInt64 / (fI μ 9 2 g).toInt64
def mTg (μ : CS) (r : Nat) (h : Int32) : Nat → Int64
  | 0 => 0
  | g + 1 => mTg μ r h g + (if fI μ 9 0 (g + 1) = h then mMay μ (g + 1) r else 0)
def mTog (μ : CS) (n r : Nat) (h : Int32) : Int64 := if mTg μ r h n ≤ 2000000000 then mTg μ r h n else 2000000000
def mCov (μ : CS) (j : Nat) : Nat → Int64
  | 0 => 0
  | k + 1 => mCov μ j k + fL μ 9 17 (4 * j + k)
def mRun (μ : CS) (g : Nat) : Int64 := if (if fI μ 9 6 g = 0 then fI μ 8 0 2 else fI μ 9 7 g) ≤ fI μ 9 10 g then 0 else fL μ 9 1 g * ((if fI μ 9 6 g = 0 then fI μ 8 0 2 else fI μ 9 7 g) - fI μ 9 10 g).toInt64 * (fI μ 9 5 g).toInt64 / 3650000
/-- the model is well made -/
def WFm (μ : CS) (n r : Nat) : Prop := n ≤ 20 ∧ r ≤ 60 ∧ fI μ 8 0 1 = nI n ∧ fI μ 8 0 15 = nI r ∧ (∀ k, k < n → ∃ g, 1 ≤ g ∧ g ≤ n ∧ fI μ 9 11 k = nI g) ∧ (∀ j, j ≤ r → ∃ p, p ≤ 4 ∧ fI μ 9 15 j = nI p) ∧ (∀ j k, 1 ≤ j → j ≤ r → k < mP μ j → ∃ g, 1 ≤ g ∧ g ≤ n ∧ fI μ 9 16 (4 * j + k) = nI g) ∧ (∀ g, 1 ≤ g → g ≤ n → ¬ fI μ 9 3 g = 0)
theorem gt_end {x : Int32} {n k : Nat} (hn : x = nI n) (c : x < nI (k + 1)) (hk : k ≤ n) (h : n < 2 ^ 30) : k = n := by
  rw [hn] at c
  have := (nI_ltI (by omega) (by omega)).mp c
  omega
theorem gt_lt {x : Int32} {n k : Nat} (hn : x = nI n) (c : ¬ x < nI (k + 1)) (h : k < 2 ^ 30) (h2 : n < 2 ^ 30) : k < n := by
  rcases Nat.lt_or_ge k n with h1 | h1
  · exact h1
  · exact absurd (by rw [hn]; exact nI_lt (by omega) (by omega)) c
theorem run_le {a b : Int32} (h : b < a) : ¬ a ≤ b := fun q => Int32.lt_irrefl (Int32.lt_of_lt_of_le h q)
theorem run_le2 {a b : Int32} (h : ¬ b < a) : a ≤ b := Int32.not_lt.mp h
abbrev mGood (a : Int64) (u d rt : Int32) : Prop := pIn a 1 1000000000 ∧ pIn u.toInt64 0 100 ∧ pIn d.toInt64 1 100 ∧ ¬ d < u ∧ pIn rt.toInt64 0 1000
def dG0 (μ : CS) (n : Nat) : CS := uI (uI (uI μ 8 0 0 0) 9 11 n (nI n + 1)) 8 0 1 (nI n + 1)
def dGuar (μ : CS) (n : Nat) (h : Int32) (a : Int64) (u d one rt : Int32) : CS := uI (uI (uI (uI (uI (uL (uI (dG0 μ n) 9 0 (n + 1) h) 9 1 (n + 1) a) 9 2 (n + 1) u) 9 3 (n + 1) d) 9 4 (n + 1) one) 9 5 (n + 1) rt) 9 10 (n + 1) (fI μ 8 0 2)
def cGuarM (μ : CS) (n : Nat) (h : Int32) (a : Int64) (u d one rt : Int32) : Int32 × CS := if pHold h then (if mGood a u d rt then (if nI n = 20 then (0, uI μ 8 0 0 2) else (nI (n + 1), dGuar μ n h a u d one rt)) else (0, uI μ 8 0 0 1)) else (0, uI μ 8 0 0 1)
def mLs (μ : CS) (n : Nat) (h : Int32) : Nat → Nat → Int32 → Int32
  | 0, _, _ => -1
  | f + 1, k, left => if fI μ 9 0 (fI μ 9 11 k).toNatClampNeg = h then (if left = 0 then fI μ 9 11 k else mLs μ n h f (k + 1) (left - 1)) else mLs μ n h f (k + 1) (left - 0)
def cTickM (μ : CS) (x : Int32) : Int32 × CS := if x < fI μ 8 0 2 then (0, uI μ 8 0 0 0) else if x ≤ 100000 then (1, uI (uI μ 8 0 0 0) 8 0 2 x) else (0, uI μ 8 0 0 0)
def cCloseM (μ : CS) (n : Nat) (x : Int32) : Int32 × CS := match gIx x n with
  | none => (0, uI μ 8 0 0 0)
  | some i => if fI μ 9 6 (i + 1) = 0 then (1, uI (uI (uI μ 8 0 0 0) 9 6 (i + 1) 1) 9 7 (i + 1) (fI μ 8 0 2)) else (0, uI μ 8 0 0 0)
def cFailsM (μ : CS) (x on : Int32) : Int32 × CS := if pIn x.toInt64 0 3 then (if fI μ 9 18 x.toNatClampNeg = on then (0, uI μ 8 0 0 0) else (1, uI (uI μ 8 0 0 0) 9 18 x.toNatClampNeg on)) else (0, uI μ 8 0 0 0)
def cInterestM (μ : CS) (n : Nat) (x : Int32) : Int64 × CS := match gIx x n with
  | none => (0, uI μ 8 0 0 1)
  | some i => (fL μ 9 9 (i + 1) + mRun (uI μ 8 0 0 0) (i + 1), uI μ 8 0 0 0)
def cEndM (μ : CS) (r : Nat) (x how : Int32) : Int32 × CS := match gIx x r with
  | none => (0, uI μ 8 0 0 1)
  | some j => if how < 1 then (0, uI μ 8 0 0 1) else if how ≤ 2 then (if fI μ 9 14 (j + 1) ≤ 0 then (1, uI (uI (uI μ 8 0 0 0) 9 14 (j + 1) how) 9 15 (j + 1) 0) else (0, uI μ 8 0 0 0)) else (0, uI μ 8 0 0 1)
def mLive (μ : CS) : Nat → Int32
  | 0 => 0
  | j + 1 => mLive μ j + (if fI μ 9 14 (j + 1) = 0 then 1 else 0)
def cCountM (μ : CS) (r : Nat) (x : Int32) : Int32 := if x < 10 then (if x = 0 then fI μ 8 0 1 else if x = 1 then fI μ 8 0 15 else if x = 2 then mLive μ r else if x = 3 then fI μ 8 0 2 else -1) else if 14 ≤ x then -1 else fI μ 9 19 (x - 10).toNatClampNeg
theorem pNum_ix {x : Int32} {n : Nat} {c : Int32} (hc : c = nI n) (hn : n < 2 ^ 30) (h : pNum x c) : ∃ i, i < n ∧ x = nI (i + 1) ∧ gIx x n = some i := by
  subst hc
  obtain ⟨i, hi, e⟩ := num_in h.1 h.2 (by omega)
  exact ⟨i, hi, e, gIx_some hi hn e⟩
theorem pNum_no {x : Int32} {n : Nat} {c : Int32} (hc : c = nI n) (h : ¬ pNum x c) : gIx x n = none := by
  subst hc
  by_cases h1 : x < 1
  · exact gIx_none (Or.inl h1)
  · by_cases h2 : nI n < x
    · exact gIx_none (Or.inr h2)
    · exact absurd ⟨h1, h2⟩ h
theorem in3_vp {x : Int32} (h : pIn x.toInt64 0 3) : vp_in x 4 := by
  rw [vp_in_iff]
  obtain ⟨h1, h2⟩ := h
  have a1 : ¬ x.toInt64.toInt < (0 : Int64).toInt := fun q => h1 (Int64.lt_iff_toInt_lt.mpr q)
  have a2 : ¬ (3 : Int64).toInt < x.toInt64.toInt := fun q => h2 (Int64.lt_iff_toInt_lt.mpr q)
  rw [Int32.toInt_toInt64] at a1 a2
  have e0 : (0 : Int64).toInt = 0 := rfl
  have e3 : (3 : Int64).toInt = 3 := rfl
  omega
theorem cnt_vp {x : Int32} (h1 : ¬ x < 10) (h2 : ¬ 14 ≤ x) : vp_in (x - 10) 4 := by
  have h0 : ¬ x < 0 := fun q => h1 (Int32.lt_iff_toInt_lt.mpr (by have := Int32.lt_iff_toInt_lt.mp q; have a : (0 : Int32).toInt = 0 := rfl; have b : (10 : Int32).toInt = 10 := rfl; omega))
  obtain ⟨j, hj, rfl⟩ := nI_of h0
  have a1 : ¬ j < 10 := fun q => h1 ((nI_ltI (b := 10) hj (by decide)).mpr q)
  have a2 : ¬ 14 ≤ j := fun q => h2 ((nI_leI (a := 14) (by decide) hj).mpr q)
  rw [show (10 : Int32) = nI 10 from rfl, pk_sub (by omega)]
  exact vp_in_nI (by omega) (by decide)
theorem w_1_3 : (Jvm.Cond.initialized "GuaranteeBookModel") ∈ WSall := ws_in (tb1 (List.mem_of_getElem? (i := 3) rfl)) (by decide +kernel)
theorem w_3_36 : (Jvm.Cond.fieldLink "GuaranteeBookModel" (72 : Nat) "GuaranteeBookModel" "thrown" "I") ∈ WSall := ws_in (tb3 (List.mem_of_getElem? (i := 36) rfl)) (by decide +kernel)
theorem w_3_37 : (Jvm.Cond.fieldLink "GuaranteeBookModel" (76 : Nat) "GuaranteeBookModel" "guarantees" "I") ∈ WSall := ws_in (tb3 (List.mem_of_getElem? (i := 37) rfl)) (by decide +kernel)
theorem w_3_38 : (Jvm.Cond.fieldLink "GuaranteeBookModel" (100 : Nat) "GuaranteeBookModel" "today" "I") ∈ WSall := ws_in (tb3 (List.mem_of_getElem? (i := 38) rfl)) (by decide +kernel)
theorem w_3_39 : (Jvm.Cond.fieldLink "GuaranteeBookModel" (7 : Nat) "GuaranteeBookModel" "holder" "[I") ∈ WSall := ws_in (tb3 (List.mem_of_getElem? (i := 39) rfl)) (by decide +kernel)
theorem w_3_40 : (Jvm.Cond.fieldLink "GuaranteeBookModel" (13 : Nat) "GuaranteeBookModel" "amount" "[J") ∈ WSall := ws_in (tb3 (List.mem_of_getElem? (i := 40) rfl)) (by decide +kernel)
theorem w_3_41 : (Jvm.Cond.fieldLink "GuaranteeBookModel" (17 : Nat) "GuaranteeBookModel" "up" "[I") ∈ WSall := ws_in (tb3 (List.mem_of_getElem? (i := 41) rfl)) (by decide +kernel)
theorem w_3_42 : (Jvm.Cond.fieldLink "GuaranteeBookModel" (20 : Nat) "GuaranteeBookModel" "down" "[I") ∈ WSall := ws_in (tb3 (List.mem_of_getElem? (i := 42) rfl)) (by decide +kernel)
theorem w_3_43 : (Jvm.Cond.fieldLink "GuaranteeBookModel" (23 : Nat) "GuaranteeBookModel" "single" "[Z") ∈ WSall := ws_in (tb3 (List.mem_of_getElem? (i := 43) rfl)) (by decide +kernel)
theorem w_3_44 : (Jvm.Cond.fieldLink "GuaranteeBookModel" (27 : Nat) "GuaranteeBookModel" "rate" "[I") ∈ WSall := ws_in (tb3 (List.mem_of_getElem? (i := 44) rfl)) (by decide +kernel)
theorem w_3_45 : (Jvm.Cond.fieldLink "GuaranteeBookModel" (30 : Nat) "GuaranteeBookModel" "closed" "[Z") ∈ WSall := ws_in (tb3 (List.mem_of_getElem? (i := 45) rfl)) (by decide +kernel)
theorem w_3_46 : (Jvm.Cond.fieldLink "GuaranteeBookModel" (33 : Nat) "GuaranteeBookModel" "closedOn" "[I") ∈ WSall := ws_in (tb3 (List.mem_of_getElem? (i := 46) rfl)) (by decide +kernel)
theorem w_3_49 : (Jvm.Cond.fieldLink "GuaranteeBookModel" (42 : Nat) "GuaranteeBookModel" "since" "[I") ∈ WSall := ws_in (tb3 (List.mem_of_getElem? (i := 49) rfl)) (by decide +kernel)
theorem w_3_51 : (Jvm.Cond.fieldLink "GuaranteeBookModel" (79 : Nat) "GuaranteeBookModel" "reservations" "I") ∈ WSall := ws_in (tb3 (List.mem_of_getElem? (i := 51) rfl)) (by decide +kernel)
theorem w_3_55 : (Jvm.Cond.fieldLink "GuaranteeBookModel" (57 : Nat) "GuaranteeBookModel" "parts" "[I") ∈ WSall := ws_in (tb3 (List.mem_of_getElem? (i := 55) rfl)) (by decide +kernel)
theorem w_3_56 : (Jvm.Cond.fieldLink "GuaranteeBookModel" (60 : Nat) "GuaranteeBookModel" "part" "[I") ∈ WSall := ws_in (tb3 (List.mem_of_getElem? (i := 56) rfl)) (by decide +kernel)
theorem w_3_57 : (Jvm.Cond.fieldLink "GuaranteeBookModel" (63 : Nat) "GuaranteeBookModel" "covers" "[J") ∈ WSall := ws_in (tb3 (List.mem_of_getElem? (i := 57) rfl)) (by decide +kernel)
theorem w_3_117 : (Jvm.Cond.constantLong "GuaranteeBookModel" (82 : Nat) (1000000000 : Int64)) ∈ WSall := ws_in (tb3 (List.mem_of_getElem? (i := 117) rfl)) (by decide +kernel)
theorem w_3_150 : (Jvm.Cond.methodLink "GuaranteeBookModel" (120 : Nat) ({ cls := "GuaranteeBookModel", name := "may", desc := "(I)J" } : Jvm.MethodName)) ∈ WSall := ws_in (tb3 (List.mem_of_getElem? (i := 150) rfl)) (by decide +kernel)
theorem w_3_152 : (Jvm.Cond.instanceMethod ({ cls := "GuaranteeBookModel", name := "may", desc := "(I)J" } : Jvm.MethodName)) ∈ WSall := ws_in (tb3 (List.mem_of_getElem? (i := 152) rfl)) (by decide +kernel)
theorem w_3_153 : (Jvm.Cond.code ({ cls := "GuaranteeBookModel", name := "may", desc := "(I)J" } : Jvm.MethodName) prog_7_method_15_code (2 : Nat) (Option.some Jvm.ClassFile.FieldType.long)) ∈ WSall := ws_in (tb3 (List.mem_of_getElem? (i := 153) rfl)) (by decide +kernel)
theorem w_3_154 : (Jvm.Cond.methodLink "GuaranteeBookModel" (114 : Nat) ({ cls := "GuaranteeBookModel", name := "used", desc := "(I)I" } : Jvm.MethodName)) ∈ WSall := ws_in (tb3 (List.mem_of_getElem? (i := 154) rfl)) (by decide +kernel)
theorem w_3_156 : (Jvm.Cond.instanceMethod ({ cls := "GuaranteeBookModel", name := "used", desc := "(I)I" } : Jvm.MethodName)) ∈ WSall := ws_in (tb3 (List.mem_of_getElem? (i := 156) rfl)) (by decide +kernel)
theorem w_3_157 : (Jvm.Cond.code ({ cls := "GuaranteeBookModel", name := "used", desc := "(I)I" } : Jvm.MethodName) prog_7_method_13_code (5 : Nat) (Option.some Jvm.ClassFile.FieldType.int)) ∈ WSall := ws_in (tb3 (List.mem_of_getElem? (i := 157) rfl)) (by decide +kernel)
theorem w_3_158 : (Jvm.Cond.methodLink "GuaranteeBookModel" (117 : Nat) ({ cls := "GuaranteeBookModel", name := "freeOf", desc := "(I)J" } : Jvm.MethodName)) ∈ WSall := ws_in (tb3 (List.mem_of_getElem? (i := 158) rfl)) (by decide +kernel)
theorem w_3_160 : (Jvm.Cond.instanceMethod ({ cls := "GuaranteeBookModel", name := "freeOf", desc := "(I)J" } : Jvm.MethodName)) ∈ WSall := ws_in (tb3 (List.mem_of_getElem? (i := 160) rfl)) (by decide +kernel)
theorem w_3_161 : (Jvm.Cond.code ({ cls := "GuaranteeBookModel", name := "freeOf", desc := "(I)J" } : Jvm.MethodName) prog_7_method_14_code (4 : Nat) (Option.some Jvm.ClassFile.FieldType.long)) ∈ WSall := ws_in (tb3 (List.mem_of_getElem? (i := 161) rfl)) (by decide +kernel)
theorem w_3_162 : (Jvm.Cond.methodLink "GuaranteeBookModel" (110 : Nat) ({ cls := "GuaranteeBookModel", name := "needed", desc := "(I)J" } : Jvm.MethodName)) ∈ WSall := ws_in (tb3 (List.mem_of_getElem? (i := 162) rfl)) (by decide +kernel)
theorem w_3_164 : (Jvm.Cond.instanceMethod ({ cls := "GuaranteeBookModel", name := "needed", desc := "(I)J" } : Jvm.MethodName)) ∈ WSall := ws_in (tb3 (List.mem_of_getElem? (i := 164) rfl)) (by decide +kernel)
theorem w_3_165 : (Jvm.Cond.code ({ cls := "GuaranteeBookModel", name := "needed", desc := "(I)J" } : Jvm.MethodName) prog_7_method_12_code (6 : Nat) (Option.some Jvm.ClassFile.FieldType.long)) ∈ WSall := ws_in (tb3 (List.mem_of_getElem? (i := 165) rfl)) (by decide +kernel)
theorem w_3_166 : (Jvm.Cond.methodLink "GuaranteeBookModel" (106 : Nat) ({ cls := "GuaranteeBookModel", name := "needs", desc := "(IJ)J" } : Jvm.MethodName)) ∈ WSall := ws_in (tb3 (List.mem_of_getElem? (i := 166) rfl)) (by decide +kernel)
theorem w_3_168 : (Jvm.Cond.instanceMethod ({ cls := "GuaranteeBookModel", name := "needs", desc := "(IJ)J" } : Jvm.MethodName)) ∈ WSall := ws_in (tb3 (List.mem_of_getElem? (i := 168) rfl)) (by decide +kernel)
theorem w_3_169 : (Jvm.Cond.code ({ cls := "GuaranteeBookModel", name := "needs", desc := "(IJ)J" } : Jvm.MethodName) prog_7_method_11_code (6 : Nat) (Option.some Jvm.ClassFile.FieldType.long)) ∈ WSall := ws_in (tb3 (List.mem_of_getElem? (i := 169) rfl)) (by decide +kernel)
theorem w_3_170 : (Jvm.Cond.constantLong "GuaranteeBookModel" (123 : Nat) (2000000000 : Int64)) ∈ WSall := ws_in (tb3 (List.mem_of_getElem? (i := 170) rfl)) (by decide +kernel)
theorem w_3_210 : (Jvm.Cond.constantLong "GuaranteeBookModel" (147 : Nat) (3650000 : Int64)) ∈ WSall := ws_in (tb3 (List.mem_of_getElem? (i := 210) rfl)) (by decide +kernel)
theorem wp_13 : Cond.selects "GuaranteeBookModel" ⟨"GuaranteeBookModel", "may", "(I)J"⟩ ⟨"GuaranteeBookModel", "may", "(I)J"⟩ ∈ WSall := ws_in (List.mem_append_left _ (by decide +kernel)) (by decide +kernel)
theorem wp_14 : Cond.selects "GuaranteeBookModel" ⟨"GuaranteeBookModel", "used", "(I)I"⟩ ⟨"GuaranteeBookModel", "used", "(I)I"⟩ ∈ WSall := ws_in (List.mem_append_left _ (by decide +kernel)) (by decide +kernel)
theorem wp_15 : Cond.selects "GuaranteeBookModel" ⟨"GuaranteeBookModel", "freeOf", "(I)J"⟩ ⟨"GuaranteeBookModel", "freeOf", "(I)J"⟩ ∈ WSall := ws_in (List.mem_append_left _ (by decide +kernel)) (by decide +kernel)
theorem wp_16 : Cond.selects "GuaranteeBookModel" ⟨"GuaranteeBookModel", "needed", "(I)J"⟩ ⟨"GuaranteeBookModel", "needed", "(I)J"⟩ ∈ WSall := ws_in (List.mem_append_left _ (by decide +kernel)) (by decide +kernel)
theorem wp_17 : Cond.selects "GuaranteeBookModel" ⟨"GuaranteeBookModel", "needs", "(IJ)J"⟩ ⟨"GuaranteeBookModel", "needs", "(IJ)J"⟩ ∈ WSall := ws_in (List.mem_append_left _ (by decide +kernel)) (by decide +kernel)
end
section
set_option maxHeartbeats 4000000 in
set_option maxRecDepth 100000 in
theorem m_thrown (l : Launch) (D : va_G) (dA : Nat → ClassId) (sa : Nat → Nat) (lo : Nat) (al : Nat → Nat → Nat) (σ μ : CS)  : Met l yX5_thrown wsX5_thrown ({ frames := 0, cells := 0, slots := 0, locals := 0 }) (va_Pc [.ref (al 8 0)] (ivP D dA sa lo al σ μ)) (vp_Si (fun z9 => z9 = fI μ 8 0 0)) 0 0 (fun _ => False) := by
  refine Met.ofW (cc := cX5_thrown) (maxL := 1) (ret := some .int) (by decide) rfl ?_
  intro p e s m args below meth c s₁ B hml hv
  obtain ⟨rfl, hI, hwd⟩ := hv
  have hx := B.exec
  have hb := B.bytes
  have hr := B.returns
  have hts : ∀ w ∈ WSall, w.before _ s = true := fun w h => atoms_spec (ws := wsX5_thrown) B.pre w (List.mem_cons_of_mem _ h)
  have hown : s.vm.findClass RX5 = some m.cls := findClass_of_methodNamed B.named
  have hlocks := B.notSynchronized
  have hK := hwd.1
  have hS : va_S (fun q => lo ≤ q) s.heap s.heap [] := va_S.rf
  have hl := lv_entry ([.ref (al 8 0)]) (n := 1) (Nat.le_of_ble_eq_true rfl)
  rw [lg_entry_eq]
  generalize (lg_sl ([.ref (al 8 0)]) ++ List.replicate (1 - (lg_sl ([.ref (al 8 0)])).length) Slot.unset).toArray = ls at hl ⊢
  have hl : lv_has ls 1 [(0, .ref (al 8 0))] := hl
  refine lv_aload_n hx hb dX5_thrown_0 rfl (lv_at hl 0 rfl) ?_
  refine sx_get (ci := 5) (C := RX5) (T := TX5) (N := 24) (v := .int (fI μ 8 0 0)) hx hb hts inX5 hown hK (c8_at hI) rfl 0 (by decide) (hts _ w_3_36) rfl rfl dX5_thrown_1 ?_
  exact W.iret (v := fI μ 8 0 0) hx hb hr (fun t ht hW => ⟨_, rfl, rfl, ht⟩) (fun q h => by cases h) dX5_thrown_4

set_option maxHeartbeats 4000000 in
set_option maxRecDepth 100000 in
theorem m_in (l : Launch) (D : va_G) (dA : Nat → ClassId) (sa : Nat → Nat) (lo : Nat) (al : Nat → Nat → Nat) (σ μ : CS) (x a b : Int64) : Met l yX5_in wsX5_in ({ frames := 0, cells := 0, slots := 0, locals := 0 }) (va_Pc [.long x, .long a, .long b] (ivP D dA sa lo al σ μ)) (vp_Si (fun z9 => z9 = bp (pIn x a b) inferInstance)) 0 0 (fun _ => False) := by
  refine Met.ofW (cc := cX5_in) (maxL := 6) (ret := some .boolean) (by decide) rfl ?_
  intro p e s m args below meth c s₁ B hml hv
  obtain ⟨rfl, hI, hwd⟩ := hv
  have hx := B.exec
  have hb := B.bytes
  have hr := B.returns
  have hts : ∀ w ∈ WSall, w.before _ s = true := fun w h => atoms_spec (ws := wsX5_in) B.pre w (List.mem_cons_of_mem _ h)
  have hown : s.vm.findClass RX5 = some m.cls := findClass_of_methodNamed B.named
  have hlocks := B.notSynchronized
  have hK := hwd.1
  have hS : va_S (fun q => lo ≤ q) s.heap s.heap [] := va_S.rf
  have hl := lv_entry ([.long x, .long a, .long b]) (n := 6) (Nat.le_of_ble_eq_true rfl)
  rw [lg_entry_eq]
  generalize (lg_sl ([.long x, .long a, .long b]) ++ List.replicate (6 - (lg_sl ([.long x, .long a, .long b])).length) Slot.unset).toArray = ls at hl ⊢
  have hl : lv_has ls 6 [(0, .long x), (2, .long a), (4, .long b)] := hl
  refine lv_lload_n hx hb dX5_in_0 rfl (lv_at hl 0 rfl) ?_
  refine lv_lload_n hx hb dX5_in_1 rfl (lv_at hl 1 rfl) ?_
  refine W.lcmp hx hb dX5_in_2 ?_
  refine lv_if_lt (tgt := 17) hx hb dX5_in_3 (by decide) (fun c_3 => ?_) (fun c_3 => ?_)
  · have c_3 : x < a := (lg_cmp_lt _ _).mp c_3
    refine lv_iconst (v := 0) hx hb dX5_in_17 (by decide) ?_
    exact W.zret (v := 0) hx hb hr rfl (fun t ht hW => ⟨_, rfl, (bp_f (fun h => h.1 c_3)), ht⟩) (fun q h => by cases h) dX5_in_18
  · have c_3 : ¬ x < a := fun h => c_3 ((lg_cmp_lt _ _).mpr h)
    refine lv_lload_n hx hb dX5_in_6 rfl (lv_at hl 0 rfl) ?_
    refine lv_lload hx hb dX5_in_7 (lv_at hl 2 rfl) ?_
    refine W.lcmp hx hb dX5_in_9 ?_
    refine lv_if_gt (tgt := 17) hx hb dX5_in_10 (by decide) (fun c_10 => ?_) (fun c_10 => ?_)
    · have c_10 : b < x := (lg_cmp_gt _ _).mp c_10
      refine lv_iconst (v := 0) hx hb dX5_in_17 (by decide) ?_
      exact W.zret (v := 0) hx hb hr rfl (fun t ht hW => ⟨_, rfl, (bp_f (fun h => h.2 c_10)), ht⟩) (fun q h => by cases h) dX5_in_18
    · have c_10 : ¬ b < x := fun h => c_10 ((lg_cmp_gt _ _).mpr h)
      refine lv_iconst (v := 1) hx hb dX5_in_13 (by decide) ?_
      refine lv_goto (tgt := 18) hx hb dX5_in_14 (by decide) ?_
      exact W.zret (v := 1) hx hb hr rfl (fun t ht hW => ⟨_, rfl, (bp_t ⟨c_3, c_10⟩), ht⟩) (fun q h => by cases h) dX5_in_18

set_option maxHeartbeats 4000000 in
set_option maxRecDepth 100000 in
theorem m_isHolder (l : Launch) (D : va_G) (dA : Nat → ClassId) (sa : Nat → Nat) (lo : Nat) (al : Nat → Nat → Nat) (σ μ : CS) (x : Int32) : Met l yX5_isHolder wsX5_isHolder ({ frames := 0, cells := 0, slots := 0, locals := 0 }) (va_Pc [.int x] (ivP D dA sa lo al σ μ)) (vp_Si (fun z9 => z9 = bp (pHold x) inferInstance)) 0 0 (fun _ => False) := by
  refine Met.ofW (cc := cX5_isHolder) (maxL := 1) (ret := some .boolean) (by decide) rfl ?_
  intro p e s m args below meth c s₁ B hml hv
  obtain ⟨rfl, hI, hwd⟩ := hv
  have hx := B.exec
  have hb := B.bytes
  have hr := B.returns
  have hts : ∀ w ∈ WSall, w.before _ s = true := fun w h => atoms_spec (ws := wsX5_isHolder) B.pre w (List.mem_cons_of_mem _ h)
  have hown : s.vm.findClass RX5 = some m.cls := findClass_of_methodNamed B.named
  have hlocks := B.notSynchronized
  have hK := hwd.1
  have hS : va_S (fun q => lo ≤ q) s.heap s.heap [] := va_S.rf
  have hl := lv_entry ([.int x]) (n := 1) (Nat.le_of_ble_eq_true rfl)
  rw [lg_entry_eq]
  generalize (lg_sl ([.int x]) ++ List.replicate (1 - (lg_sl ([.int x])).length) Slot.unset).toArray = ls at hl ⊢
  have hl : lv_has ls 1 [(0, .int x)] := hl
  refine lv_iload_n hx hb dX5_isHolder_0 rfl (lv_at hl 0 rfl) ?_
  refine lv_if_lt (tgt := 14) hx hb dX5_isHolder_1 (by decide) (fun c_1 => ?_) (fun c_1 => ?_)
  · refine lv_iconst (v := 0) hx hb dX5_isHolder_14 (by decide) ?_
    exact W.zret (v := 0) hx hb hr rfl (fun t ht hW => ⟨_, rfl, (bp_f (fun h => h.1 c_1)), ht⟩) (fun q h => by cases h) dX5_isHolder_15
  · refine lv_iload_n hx hb dX5_isHolder_4 rfl (lv_at hl 0 rfl) ?_
    refine lv_bipush (v := 8) hx hb dX5_isHolder_5 (by decide) ?_
    refine lv_icmp_ge (tgt := 14) hx hb dX5_isHolder_7 (by decide) (fun c_7 => ?_) (fun c_7 => ?_)
    · refine lv_iconst (v := 0) hx hb dX5_isHolder_14 (by decide) ?_
      exact W.zret (v := 0) hx hb hr rfl (fun t ht hW => ⟨_, rfl, (bp_f (fun h => h.2 c_7)), ht⟩) (fun q h => by cases h) dX5_isHolder_15
    · refine lv_iconst (v := 1) hx hb dX5_isHolder_10 (by decide) ?_
      refine lv_goto (tgt := 15) hx hb dX5_isHolder_11 (by decide) ?_
      exact W.zret (v := 1) hx hb hr rfl (fun t ht hW => ⟨_, rfl, (bp_t ⟨c_1, c_7⟩), ht⟩) (fun q h => by cases h) dX5_isHolder_15

set_option maxHeartbeats 4000000 in
set_option maxRecDepth 100000 in
theorem m_isGuarantee (l : Launch) (D : va_G) (dA : Nat → ClassId) (sa : Nat → Nat) (lo : Nat) (al : Nat → Nat → Nat) (σ μ : CS) (x : Int32) : Met l yX5_isGuarantee wsX5_isGuarantee ({ frames := 0, cells := 0, slots := 0, locals := 0 }) (va_Pc [.ref (al 8 0), .int x] (ivP D dA sa lo al σ μ)) (vp_Si (fun z9 => z9 = bp (pNum x (fI μ 8 0 1)) inferInstance)) 0 0 (fun _ => False) := by
  refine Met.ofW (cc := cX5_isGuarantee) (maxL := 2) (ret := some .boolean) (by decide) rfl ?_
  intro p e s m args below meth c s₁ B hml hv
  obtain ⟨rfl, hI, hwd⟩ := hv
  have hx := B.exec
  have hb := B.bytes
  have hr := B.returns
  have hts : ∀ w ∈ WSall, w.before _ s = true := fun w h => atoms_spec (ws := wsX5_isGuarantee) B.pre w (List.mem_cons_of_mem _ h)
  have hown : s.vm.findClass RX5 = some m.cls := findClass_of_methodNamed B.named
  have hlocks := B.notSynchronized
  have hK := hwd.1
  have hS : va_S (fun q => lo ≤ q) s.heap s.heap [] := va_S.rf
  have hl := lv_entry ([.ref (al 8 0), .int x]) (n := 2) (Nat.le_of_ble_eq_true rfl)
  rw [lg_entry_eq]
  generalize (lg_sl ([.ref (al 8 0), .int x]) ++ List.replicate (2 - (lg_sl ([.ref (al 8 0), .int x])).length) Slot.unset).toArray = ls at hl ⊢
  have hl : lv_has ls 2 [(0, .ref (al 8 0)), (1, .int x)] := hl
  refine lv_iload_n hx hb dX5_isGuarantee_0 rfl (lv_at hl 1 rfl) ?_
  refine lv_iconst (v := 1) hx hb dX5_isGuarantee_1 (by decide) ?_
  refine lv_icmp_lt (tgt := 17) hx hb dX5_isGuarantee_2 (by decide) (fun c_2 => ?_) (fun c_2 => ?_)
  · refine lv_iconst (v := 0) hx hb dX5_isGuarantee_17 (by decide) ?_
    exact W.zret (v := 0) hx hb hr rfl (fun t ht hW => ⟨_, rfl, (bp_f (fun h => h.1 c_2)), ht⟩) (fun q h => by cases h) dX5_isGuarantee_18
  · refine lv_iload_n hx hb dX5_isGuarantee_5 rfl (lv_at hl 1 rfl) ?_
    refine lv_aload_n hx hb dX5_isGuarantee_6 rfl (lv_at hl 0 rfl) ?_
    refine sx_get (ci := 5) (C := RX5) (T := TX5) (N := 24) (v := .int (fI μ 8 0 1)) hx hb hts inX5 hown hK (c8_at hI) rfl 1 (by decide) (hts _ w_3_37) rfl rfl dX5_isGuarantee_7 ?_
    refine lv_icmp_gt (tgt := 17) hx hb dX5_isGuarantee_10 (by decide) (fun c_10 => ?_) (fun c_10 => ?_)
    · refine lv_iconst (v := 0) hx hb dX5_isGuarantee_17 (by decide) ?_
      exact W.zret (v := 0) hx hb hr rfl (fun t ht hW => ⟨_, rfl, (bp_f (fun h => h.2 c_10)), ht⟩) (fun q h => by cases h) dX5_isGuarantee_18
    · refine lv_iconst (v := 1) hx hb dX5_isGuarantee_13 (by decide) ?_
      refine lv_goto (tgt := 18) hx hb dX5_isGuarantee_14 (by decide) ?_
      exact W.zret (v := 1) hx hb hr rfl (fun t ht hW => ⟨_, rfl, (bp_t ⟨c_2, c_10⟩), ht⟩) (fun q h => by cases h) dX5_isGuarantee_18

set_option maxHeartbeats 4000000 in
set_option maxRecDepth 100000 in
theorem m_isReservation (l : Launch) (D : va_G) (dA : Nat → ClassId) (sa : Nat → Nat) (lo : Nat) (al : Nat → Nat → Nat) (σ μ : CS) (x : Int32) : Met l yX5_isReservation wsX5_isReservation ({ frames := 0, cells := 0, slots := 0, locals := 0 }) (va_Pc [.ref (al 8 0), .int x] (ivP D dA sa lo al σ μ)) (vp_Si (fun z9 => z9 = bp (pNum x (fI μ 8 0 15)) inferInstance)) 0 0 (fun _ => False) := by
  refine Met.ofW (cc := cX5_isReservation) (maxL := 2) (ret := some .boolean) (by decide) rfl ?_
  intro p e s m args below meth c s₁ B hml hv
  obtain ⟨rfl, hI, hwd⟩ := hv
  have hx := B.exec
  have hb := B.bytes
  have hr := B.returns
  have hts : ∀ w ∈ WSall, w.before _ s = true := fun w h => atoms_spec (ws := wsX5_isReservation) B.pre w (List.mem_cons_of_mem _ h)
  have hown : s.vm.findClass RX5 = some m.cls := findClass_of_methodNamed B.named
  have hlocks := B.notSynchronized
  have hK := hwd.1
  have hS : va_S (fun q => lo ≤ q) s.heap s.heap [] := va_S.rf
  have hl := lv_entry ([.ref (al 8 0), .int x]) (n := 2) (Nat.le_of_ble_eq_true rfl)
  rw [lg_entry_eq]
  generalize (lg_sl ([.ref (al 8 0), .int x]) ++ List.replicate (2 - (lg_sl ([.ref (al 8 0), .int x])).length) Slot.unset).toArray = ls at hl ⊢
  have hl : lv_has ls 2 [(0, .ref (al 8 0)), (1, .int x)] := hl
  refine lv_iload_n hx hb dX5_isReservation_0 rfl (lv_at hl 1 rfl) ?_
  refine lv_iconst (v := 1) hx hb dX5_isReservation_1 (by decide) ?_
  refine lv_icmp_lt (tgt := 17) hx hb dX5_isReservation_2 (by decide) (fun c_2 => ?_) (fun c_2 => ?_)
  · refine lv_iconst (v := 0) hx hb dX5_isReservation_17 (by decide) ?_
    exact W.zret (v := 0) hx hb hr rfl (fun t ht hW => ⟨_, rfl, (bp_f (fun h => h.1 c_2)), ht⟩) (fun q h => by cases h) dX5_isReservation_18
  · refine lv_iload_n hx hb dX5_isReservation_5 rfl (lv_at hl 1 rfl) ?_
    refine lv_aload_n hx hb dX5_isReservation_6 rfl (lv_at hl 0 rfl) ?_
    refine sx_get (ci := 5) (C := RX5) (T := TX5) (N := 24) (v := .int (fI μ 8 0 15)) hx hb hts inX5 hown hK (c8_at hI) rfl 15 (by decide) (hts _ w_3_51) rfl rfl dX5_isReservation_7 ?_
    refine lv_icmp_gt (tgt := 17) hx hb dX5_isReservation_10 (by decide) (fun c_10 => ?_) (fun c_10 => ?_)
    · refine lv_iconst (v := 0) hx hb dX5_isReservation_17 (by decide) ?_
      exact W.zret (v := 0) hx hb hr rfl (fun t ht hW => ⟨_, rfl, (bp_f (fun h => h.2 c_10)), ht⟩) (fun q h => by cases h) dX5_isReservation_18
    · refine lv_iconst (v := 1) hx hb dX5_isReservation_13 (by decide) ?_
      refine lv_goto (tgt := 18) hx hb dX5_isReservation_14 (by decide) ?_
      exact W.zret (v := 1) hx hb hr rfl (fun t ht hW => ⟨_, rfl, (bp_t ⟨c_2, c_10⟩), ht⟩) (fun q h => by cases h) dX5_isReservation_18

set_option maxHeartbeats 4000000 in
set_option maxRecDepth 100000 in
theorem m_needs (l : Launch) (D : va_G) (dA : Nat → ClassId) (sa : Nat → Nat) (lo : Nat) (al : Nat → Nat → Nat) (σ μ : CS) (g : Nat) (hg : g ≤ 20) (hd : ¬ fI μ 9 3 g = 0) (x : Int64) : Met l yX5_needs wsX5_needs ({ frames := 0, cells := 0, slots := 0, locals := 0 }) (va_Pc [.ref (al 8 0), .int (nI g), .long x] (ivP D dA sa lo al σ μ)) (vp_Sl (fun z9 => z9 = mNeeds μ g x)) 0 0 (fun _ => False) := by
  refine Met.ofW (cc := cX5_needs) (maxL := 6) (ret := some .long) (by decide) rfl ?_
  intro p e s m args below meth c s₁ B hml hv
  obtain ⟨rfl, hI, hwd⟩ := hv
  have hx := B.exec
  have hb := B.bytes
  have hr := B.returns
  have hts : ∀ w ∈ WSall, w.before _ s = true := fun w h => atoms_spec (ws := wsX5_needs) B.pre w (List.mem_cons_of_mem _ h)
  have hown : s.vm.findClass RX5 = some m.cls := findClass_of_methodNamed B.named
  have hlocks := B.notSynchronized
  have hK := hwd.1
  have hS : va_S (fun q => lo ≤ q) s.heap s.heap [] := va_S.rf
  have hl := lv_entry ([.ref (al 8 0), .int (nI g), .long x]) (n := 6) (Nat.le_of_ble_eq_true rfl)
  rw [lg_entry_eq]
  generalize (lg_sl ([.ref (al 8 0), .int (nI g), .long x]) ++ List.replicate (6 - (lg_sl ([.ref (al 8 0), .int (nI g), .long x])).length) Slot.unset).toArray = ls at hl ⊢
  have hl : lv_has ls 6 [(0, .ref (al 8 0)), (1, .int (nI g)), (2, .long x)] := hl
  have hcg : (nI g).toNatClampNeg = g := nI_clamp (by omega)
  refine lv_lload_n hx hb dX5_needs_0 rfl (lv_at hl 2 rfl) ?_
  refine lv_aload_n hx hb dX5_needs_1 rfl (lv_at hl 0 rfl) ?_
  refine sx_get (ci := 5) (C := RX5) (T := TX5) (N := 24) (v := .ref (al 9 2)) hx hb hts inX5 hown hK (c8_at hI) rfl 5 (by decide) (hts _ w_3_41) rfl rfl dX5_needs_2 ?_
  refine lv_iload_n hx hb dX5_needs_5 rfl (lv_at hl 1 rfl) ?_
  refine sx_iald hx hb hK (c9_2_at hI) 0 rfl (vp_in_nI (show g < 21 by omega) (by decide)) dX5_needs_6 ?_
  rw [hcg]
  refine lv_i2l hx hb dX5_needs_7 rfl ?_
  refine lv_lmul hx hb dX5_needs_8 ?_
  refine lv_lstore (lv' := [(4, .long (x * (fI μ 9 2 g).toInt64)), (0, .ref (al 8 0)), (1, .int (nI g)), (2, .long x)]) hx hb dX5_needs_9 hl (by decide) rfl (fun ls hl => ?_)
  refine lv_lload hx hb dX5_needs_11 (lv_at hl 0 rfl) ?_
  refine lv_aload_n hx hb dX5_needs_13 rfl (lv_at hl 1 rfl) ?_
  refine sx_get (ci := 5) (C := RX5) (T := TX5) (N := 24) (v := .ref (al 9 3)) hx hb hts inX5 hown hK (c8_at hI) rfl 6 (by decide) (hts _ w_3_42) rfl rfl dX5_needs_14 ?_
  refine lv_iload_n hx hb dX5_needs_17 rfl (lv_at hl 2 rfl) ?_
  refine sx_iald hx hb hK (c9_3_at hI) 0 rfl (vp_in_nI (show g < 21 by omega) (by decide)) dX5_needs_18 ?_
  rw [hcg]
  refine lv_i2l hx hb dX5_needs_19 rfl ?_
  refine lv_ldiv hx hb dX5_needs_20 (fun h => hd (i64_0 h)) ?_
  refine lv_lload hx hb dX5_needs_21 (lv_at hl 0 rfl) ?_
  refine lv_aload_n hx hb dX5_needs_23 rfl (lv_at hl 1 rfl) ?_
  refine sx_get (ci := 5) (C := RX5) (T := TX5) (N := 24) (v := .ref (al 9 3)) hx hb hts inX5 hown hK (c8_at hI) rfl 6 (by decide) (hts _ w_3_42) rfl rfl dX5_needs_24 ?_
  refine lv_iload_n hx hb dX5_needs_27 rfl (lv_at hl 2 rfl) ?_
  refine sx_iald hx hb hK (c9_3_at hI) 0 rfl (vp_in_nI (show g < 21 by omega) (by decide)) dX5_needs_28 ?_
  rw [hcg]
  refine lv_i2l hx hb dX5_needs_29 rfl ?_
  refine lv_lrem hx hb dX5_needs_30 (fun h => hd (i64_0 h)) ?_
  refine lv_lconst (v := 0) hx hb dX5_needs_31 (by decide) ?_
  refine W.lcmp hx hb dX5_needs_32 ?_
  refine lv_if_le (tgt := 40) hx hb dX5_needs_33 (by decide) (fun c_33 => ?_) (fun c_33 => ?_)
  · have c_33 : ((x * (fI μ 9 2 g).toInt64) - (x * (fI μ 9 2 g).toInt64) / (fI μ 9 3 g).toInt64 * (fI μ 9 3 g).toInt64) ≤ 0 := (lg_cmp_le _ _).mp c_33
    refine lv_lconst (v := 0) hx hb dX5_needs_40 (by decide) ?_
    refine lv_ladd hx hb dX5_needs_41 ?_
    exact W.lret (v := ((x * (fI μ 9 2 g).toInt64) / (fI μ 9 3 g).toInt64) + 0) hx hb hr (fun t ht hW => ⟨_, rfl, (by unfold mNeeds; simp only [if_pos c_33]), ht⟩) (fun q h => by cases h) dX5_needs_42
  · have c_33 : ¬ ((x * (fI μ 9 2 g).toInt64) - (x * (fI μ 9 2 g).toInt64) / (fI μ 9 3 g).toInt64 * (fI μ 9 3 g).toInt64) ≤ 0 := fun h => c_33 ((lg_cmp_le _ _).mpr h)
    refine lv_lconst (v := 1) hx hb dX5_needs_36 (by decide) ?_
    refine lv_goto (tgt := 41) hx hb dX5_needs_37 (by decide) ?_
    refine lv_ladd hx hb dX5_needs_41 ?_
    exact W.lret (v := ((x * (fI μ 9 2 g).toInt64) / (fI μ 9 3 g).toInt64) + 1) hx hb hr (fun t ht hW => ⟨_, rfl, (by unfold mNeeds; simp only [if_neg c_33]), ht⟩) (fun q h => by cases h) dX5_needs_42

set_option maxHeartbeats 4000000 in
set_option maxRecDepth 100000 in
theorem m_needed (l : Launch) (D : va_G) (dA : Nat → ClassId) (sa : Nat → Nat) (lo : Nat) (al : Nat → Nat → Nat) (σ μ : CS) (g : Nat) (n r : Nat) (hw : WFm μ n r) (hg1 : 1 ≤ g) (hgn9 : g ≤ n) : Met l yX5_needed wsX5_needed ({ frames := 1, cells := 0, slots := 0, locals := 30 }) (va_Pc [.ref (al 8 0), .int (nI g)] (ivP D dA sa lo al σ μ)) (vp_Sl (fun z9 => z9 = mNd μ g r)) 0 0 (fun _ => False) := by
  refine Met.ofW (cc := cX5_needed) (maxL := 6) (ret := some .long) (by decide) rfl ?_
  intro p e s m args below meth c s₁ B hml hv
  obtain ⟨rfl, hI, hwd⟩ := hv
  have hx := B.exec
  have hb := B.bytes
  have hr := B.returns
  have hts : ∀ w ∈ WSall, w.before _ s = true := fun w h => atoms_spec (ws := wsX5_needed) B.pre w (List.mem_cons_of_mem _ h)
  have hown : s.vm.findClass RX5 = some m.cls := findClass_of_methodNamed B.named
  have hlocks := B.notSynchronized
  have hK := hwd.1
  have hS : va_S (fun q => lo ≤ q) s.heap s.heap [] := va_S.rf
  have hl := lv_entry ([.ref (al 8 0), .int (nI g)]) (n := 6) (Nat.le_of_ble_eq_true rfl)
  rw [lg_entry_eq]
  generalize (lg_sl ([.ref (al 8 0), .int (nI g)]) ++ List.replicate (6 - (lg_sl ([.ref (al 8 0), .int (nI g)])).length) Slot.unset).toArray = ls at hl ⊢
  have hl : lv_has ls 6 [(0, .ref (al 8 0)), (1, .int (nI g))] := hl
  obtain ⟨hn20, hr60, hgn, hrn, hor, hpt, hpr, hdn⟩ := id hw
  have hd : ¬ fI μ 9 3 g = 0 := hdn g hg1 hgn9
  have hg : g ≤ 20 := by omega
  refine lv_lconst (v := 0) hx hb dX5_needed_0 (by decide) ?_
  refine lv_lstore_n (lv' := [(2, .long 0), (0, .ref (al 8 0)), (1, .int (nI g))]) hx hb dX5_needed_1 rfl hl (by decide) rfl (fun ls hl => ?_)
  refine lv_iconst (v := 1) hx hb dX5_needed_2 (by decide) ?_
  refine lv_istore (lv' := [(4, .int 1), (2, .long 0), (0, .ref (al 8 0)), (1, .int (nI g))]) hx hb dX5_needed_3 hl (by decide) rfl (fun ls hl => ?_)
  refine w_loopP (hd := 5) (stk := []) (X := Nat) (fun j => r - j) (fun j ls => (j ≤ r) ∧ lv_has ls 6 [(4, .int (nI (j + 1))), (2, .long (mNd μ g j)), (1, .int (nI g)), (0, .ref (al 8 0))]) (fun j ls hk ih_5 => ?_) 0 ls ⟨Nat.zero_le _, (by have h9 := lv_sub hl [0, 1, 3, 2] rfl; rw [show (1 : Int32) = nI (0 + 1) from rfl] at h9; exact h9)⟩
  obtain ⟨hk, hl⟩ := hk
  have hl : lv_has ls 6 [(4, .int (nI (j + 1))), (2, .long (mNd μ g j)), (1, .int (nI g)), (0, .ref (al 8 0))] := hl
  refine lv_iload hx hb dX5_needed_5 (lv_at hl 0 rfl) ?_
  refine lv_aload_n hx hb dX5_needed_7 rfl (lv_at hl 3 rfl) ?_
  refine sx_get (ci := 5) (C := RX5) (T := TX5) (N := 24) (v := .int (fI μ 8 0 15)) hx hb hts inX5 hown hK (c8_at hI) rfl 15 (by decide) (hts _ w_3_51) rfl rfl dX5_needed_8 ?_
  refine lv_icmp_gt (tgt := 79) hx hb dX5_needed_11 (by decide) (fun c_11 => ?_) (fun c_11 => ?_)
  · refine lv_lload_n hx hb dX5_needed_79 rfl (lv_at hl 1 rfl) ?_
    exact W.lret (v := mNd μ g j) hx hb hr (fun t ht hW => ⟨_, rfl, (by have h := gt_end hrn c_11 hk (by omega); subst h; rfl), ht⟩) (fun q h => by cases h) dX5_needed_80
  · have hjr : j < r := gt_lt hrn c_11 (by omega) (by omega)
    obtain ⟨p, hp4, hpp⟩ := hpt (j + 1) (by omega)
    have hmp : mP μ (j + 1) = p := by unfold mP; rw [hpp]; exact nI_clamp (by omega)
    have hcj : (nI (j + 1)).toNatClampNeg = j + 1 := nI_clamp (by omega)
    refine lv_iconst (v := 4) hx hb dX5_needed_14 (by decide) ?_
    refine lv_iload hx hb dX5_needed_15 (lv_at hl 0 rfl) ?_
    refine lv_imul hx hb dX5_needed_17 ?_
    refine lv_istore (lv' := [(5, .int (4 * (nI (j + 1)))), (4, .int (nI (j + 1))), (2, .long (mNd μ g j)), (1, .int (nI g)), (0, .ref (al 8 0))]) hx hb dX5_needed_18 hl (by decide) rfl (fun ls hl => ?_)
    refine w_loopP (hd := 20) (stk := []) (X := Nat) (fun k => p - k) (fun k ls => (k ≤ p) ∧ lv_has ls 6 [(5, .int (nI (4 * (j + 1) + k))), (4, .int (nI (j + 1))), (2, .long (mNdI μ g (j + 1) (mNd μ g j) k)), (1, .int (nI g)), (0, .ref (al 8 0))]) (fun k ls hk ih_20 => ?_) 0 ls ⟨Nat.zero_le _, (by have h9 := lv_sub hl [0, 1, 2, 3, 4] rfl; rw [i4mul] at h9; exact h9)⟩
    obtain ⟨hk, hl⟩ := hk
    have hl : lv_has ls 6 [(5, .int (nI (4 * (j + 1) + k))), (4, .int (nI (j + 1))), (2, .long (mNdI μ g (j + 1) (mNd μ g j) k)), (1, .int (nI g)), (0, .ref (al 8 0))] := hl
    refine lv_iload hx hb dX5_needed_20 (lv_at hl 0 rfl) ?_
    refine lv_iconst (v := 4) hx hb dX5_needed_22 (by decide) ?_
    refine lv_iload hx hb dX5_needed_23 (lv_at hl 1 rfl) ?_
    refine lv_imul hx hb dX5_needed_25 ?_
    refine W.eq (g2 := F0 m 26 ls (.int (nI (4 * (j + 1))) :: [.int (nI (4 * (j + 1) + k))])) (by rw [i4mul]) ?_
    refine lv_aload_n hx hb dX5_needed_26 rfl (lv_at hl 4 rfl) ?_
    refine sx_get (ci := 5) (C := RX5) (T := TX5) (N := 24) (v := .ref (al 9 15)) hx hb hts inX5 hown hK (c8_at hI) rfl 19 (by decide) (hts _ w_3_55) rfl rfl dX5_needed_27 ?_
    refine lv_iload hx hb dX5_needed_30 (lv_at hl 1 rfl) ?_
    refine sx_iald hx hb hK (c9_15_at hI) 0 rfl (vp_in_nI (show j + 1 < 61 by omega) (by decide)) dX5_needed_32 ?_
    rw [hcj]
    refine lv_iadd hx hb dX5_needed_33 ?_
    refine W.eq (g2 := F0 m 34 ls (.int (nI (4 * (j + 1) + p)) :: [.int (nI (4 * (j + 1) + k))])) (by rw [hpp, nI_add]) ?_
    refine lv_icmp_ge (tgt := 73) hx hb dX5_needed_34 (by decide) (fun c_34 => ?_) (fun c_34 => ?_)
    · refine lv_iinc (v := (nI (j + 1)) + 1) (lv' := [(4, .int ((nI (j + 1)) + 1)), (5, .int (nI (4 * (j + 1) + k))), (2, .long (mNdI μ g (j + 1) (mNd μ g j) k)), (1, .int (nI g)), (0, .ref (al 8 0))]) hx hb dX5_needed_73 hl (k := 1) rfl rfl (by decide) rfl (fun ls hl => ?_)
      refine lv_goto (tgt := 5) hx hb dX5_needed_76 (by decide) ?_
      have hkp := lp_end (x := nI (4 * (j + 1) + p)) rfl c_34 (by omega) (by omega)
      have hkp : k = p := by omega
      subst hkp
      have hfn : mNdI μ g (j + 1) (mNd μ g j) k = mNd μ g (j + 1) := by rw [mNd, hmp]
      exact ih_5 (j + 1) ls (by omega) ⟨hjr, (by have h9 := lv_sub hl [0, 2, 3, 4] rfl; rw [nI_1, hfn] at h9; exact h9)⟩
    · have hlt : k < p := by
        have := lp_lt (x := nI (4 * (j + 1) + p)) rfl c_34 (by omega)
        omega
      have hck : (nI (4 * (j + 1) + k)).toNatClampNeg = 4 * (j + 1) + k := nI_clamp (by omega)
      refine lv_lload_n hx hb dX5_needed_37 rfl (lv_at hl 2 rfl) ?_
      refine lv_aload_n hx hb dX5_needed_38 rfl (lv_at hl 4 rfl) ?_
      refine sx_get (ci := 5) (C := RX5) (T := TX5) (N := 24) (v := .ref (al 9 16)) hx hb hts inX5 hown hK (c8_at hI) rfl 20 (by decide) (hts _ w_3_56) rfl rfl dX5_needed_39 ?_
      refine lv_iload hx hb dX5_needed_42 (lv_at hl 0 rfl) ?_
      refine sx_iald hx hb hK (c9_16_at hI) 0 rfl (vp_in_nI (show 4 * (j + 1) + k < 244 by omega) (by decide)) dX5_needed_44 ?_
      rw [hck]
      refine lv_iload_n hx hb dX5_needed_45 rfl (lv_at hl 3 rfl) ?_
      refine lv_icmp_ne (tgt := 64) hx hb dX5_needed_46 (by decide) (fun c_46 => ?_) (fun c_46 => ?_)
      · refine lv_lconst (v := 0) hx hb dX5_needed_64 (by decide) ?_
        refine lv_ladd hx hb dX5_needed_65 ?_
        refine W.eq (g2 := F0 m 66 ls (.long (mNdI μ g (j + 1) (mNd μ g j) (k + 1)) :: [])) (by rw [mNdI, if_neg c_46]) ?_
        refine lv_lstore_n (lv' := [(2, .long (mNdI μ g (j + 1) (mNd μ g j) (k + 1))), (5, .int (nI (4 * (j + 1) + k))), (4, .int (nI (j + 1))), (1, .int (nI g)), (0, .ref (al 8 0))]) hx hb dX5_needed_66 rfl hl (by decide) rfl (fun ls hl => ?_)
        refine lv_iinc (v := (nI (4 * (j + 1) + k)) + 1) (lv' := [(5, .int ((nI (4 * (j + 1) + k)) + 1)), (2, .long (mNdI μ g (j + 1) (mNd μ g j) (k + 1))), (4, .int (nI (j + 1))), (1, .int (nI g)), (0, .ref (al 8 0))]) hx hb dX5_needed_67 hl (k := 1) rfl rfl (by decide) rfl (fun ls hl => ?_)
        refine lv_goto (tgt := 20) hx hb dX5_needed_70 (by decide) ?_
        exact ih_20 (k + 1) ls (by omega) ⟨hlt, (by have h9 := lv_sub hl [0, 2, 1, 3, 4] rfl; rw [nI_1] at h9; exact h9)⟩
      · refine lv_aload_n hx hb dX5_needed_49 rfl (lv_at hl 4 rfl) ?_
        refine lv_iload_n hx hb dX5_needed_50 rfl (lv_at hl 3 rfl) ?_
        refine lv_aload_n hx hb dX5_needed_51 rfl (lv_at hl 4 rfl) ?_
        refine sx_get (ci := 5) (C := RX5) (T := TX5) (N := 24) (v := .ref (al 9 17)) hx hb hts inX5 hown hK (c8_at hI) rfl 21 (by decide) (hts _ w_3_57) rfl rfl dX5_needed_52 ?_
        refine lv_iload hx hb dX5_needed_55 (lv_at hl 0 rfl) ?_
        refine sx_lald hx hb hK (c9_17_at hI) 1 rfl (vp_in_nI (show 4 * (j + 1) + k < 244 by omega) (by decide)) dX5_needed_57 ?_
        rw [hck]
        refine vp_callSl (W.runV (As := [.int (nI g), .long (fL μ 9 17 (4 * (j + 1) + k))]) (rest := [.long (mNdI μ g (j + 1) (mNd μ g j) k)]) ⟨hx, hb, hml, hown, hts⟩ (m_needs l D dA sa lo al σ μ g hg hd (fL μ 9 17 (4 * (j + 1) + k))) (cwV 2 hts (gdV w_3_166 w_3_168 wp_17 w_1_3 w_3_169) rfl rfl rfl (by decide +kernel) ⟨Nat.le_of_ble_eq_true rfl, Nat.le_of_ble_eq_true rfl⟩) ⟨iv_bl, sx_recv hK (c8_at hI) rfl, fun U hU hW => ⟨rfl, iv_use hI hwd hS hU hW⟩⟩ rfl rfl hl.1 rfl (lv_room (Nat.le_of_ble_eq_true rfl)) dX5_needed_58 ⟨Nat.le_of_ble_eq_true rfl, Nat.le_of_ble_eq_true rfl⟩) (fun r_58 e_58 => ?_)
        subst e_58
        refine lv_goto (tgt := 65) hx hb dX5_needed_61 (by decide) ?_
        refine lv_ladd hx hb dX5_needed_65 ?_
        refine W.eq (g2 := F0 m 66 ls (.long (mNdI μ g (j + 1) (mNd μ g j) (k + 1)) :: [])) (by rw [mNdI, if_pos c_46]) ?_
        refine lv_lstore_n (lv' := [(2, .long (mNdI μ g (j + 1) (mNd μ g j) (k + 1))), (5, .int (nI (4 * (j + 1) + k))), (4, .int (nI (j + 1))), (1, .int (nI g)), (0, .ref (al 8 0))]) hx hb dX5_needed_66 rfl hl (by decide) rfl (fun ls hl => ?_)
        refine lv_iinc (v := (nI (4 * (j + 1) + k)) + 1) (lv' := [(5, .int ((nI (4 * (j + 1) + k)) + 1)), (2, .long (mNdI μ g (j + 1) (mNd μ g j) (k + 1))), (4, .int (nI (j + 1))), (1, .int (nI g)), (0, .ref (al 8 0))]) hx hb dX5_needed_67 hl (k := 1) rfl rfl (by decide) rfl (fun ls hl => ?_)
        refine lv_goto (tgt := 20) hx hb dX5_needed_70 (by decide) ?_
        exact ih_20 (k + 1) ls (by omega) ⟨hlt, (by have h9 := lv_sub hl [0, 2, 1, 3, 4] rfl; rw [nI_1] at h9; exact h9)⟩

set_option maxHeartbeats 4000000 in
set_option maxRecDepth 100000 in
theorem m_used (l : Launch) (D : va_G) (dA : Nat → ClassId) (sa : Nat → Nat) (lo : Nat) (al : Nat → Nat → Nat) (σ μ : CS) (g : Nat) (n r : Nat) (hw : WFm μ n r) (hg1 : 1 ≤ g) (hgn9 : g ≤ n) : Met l yX5_used wsX5_used ({ frames := 1, cells := 0, slots := 0, locals := 30 }) (va_Pc [.ref (al 8 0), .int (nI g)] (ivP D dA sa lo al σ μ)) (vp_Si (fun z9 => z9 = mUs μ g r)) 0 0 (fun _ => False) := by
  refine Met.ofW (cc := cX5_used) (maxL := 5) (ret := some .int) (by decide) rfl ?_
  intro p e s m args below meth c s₁ B hml hv
  obtain ⟨rfl, hI, hwd⟩ := hv
  have hx := B.exec
  have hb := B.bytes
  have hr := B.returns
  have hts : ∀ w ∈ WSall, w.before _ s = true := fun w h => atoms_spec (ws := wsX5_used) B.pre w (List.mem_cons_of_mem _ h)
  have hown : s.vm.findClass RX5 = some m.cls := findClass_of_methodNamed B.named
  have hlocks := B.notSynchronized
  have hK := hwd.1
  have hS : va_S (fun q => lo ≤ q) s.heap s.heap [] := va_S.rf
  have hl := lv_entry ([.ref (al 8 0), .int (nI g)]) (n := 5) (Nat.le_of_ble_eq_true rfl)
  rw [lg_entry_eq]
  generalize (lg_sl ([.ref (al 8 0), .int (nI g)]) ++ List.replicate (5 - (lg_sl ([.ref (al 8 0), .int (nI g)])).length) Slot.unset).toArray = ls at hl ⊢
  have hl : lv_has ls 5 [(0, .ref (al 8 0)), (1, .int (nI g))] := hl
  obtain ⟨hn20, hr60, hgn, hrn, hor, hpt, hpr, hdn⟩ := id hw
  have hd : ¬ fI μ 9 3 g = 0 := hdn g hg1 hgn9
  have hg : g ≤ 20 := by omega
  refine lv_iconst (v := 0) hx hb dX5_used_0 (by decide) ?_
  refine lv_istore_n (lv' := [(2, .int 0), (0, .ref (al 8 0)), (1, .int (nI g))]) hx hb dX5_used_1 rfl hl (by decide) rfl (fun ls hl => ?_)
  refine lv_iconst (v := 1) hx hb dX5_used_2 (by decide) ?_
  refine lv_istore_n (lv' := [(3, .int 1), (2, .int 0), (0, .ref (al 8 0)), (1, .int (nI g))]) hx hb dX5_used_3 rfl hl (by decide) rfl (fun ls hl => ?_)
  refine w_loopP (hd := 4) (stk := []) (X := Nat) (fun j => r - j) (fun j ls => (j ≤ r) ∧ lv_has ls 5 [(3, .int (nI (j + 1))), (2, .int (mUs μ g j)), (1, .int (nI g)), (0, .ref (al 8 0))]) (fun j ls hk ih_4 => ?_) 0 ls ⟨Nat.zero_le _, (by have h9 := lv_sub hl [0, 1, 3, 2] rfl; rw [show (1 : Int32) = nI (0 + 1) from rfl] at h9; exact h9)⟩
  obtain ⟨hk, hl⟩ := hk
  have hl : lv_has ls 5 [(3, .int (nI (j + 1))), (2, .int (mUs μ g j)), (1, .int (nI g)), (0, .ref (al 8 0))] := hl
  refine lv_iload_n hx hb dX5_used_4 rfl (lv_at hl 0 rfl) ?_
  refine lv_aload_n hx hb dX5_used_5 rfl (lv_at hl 3 rfl) ?_
  refine sx_get (ci := 5) (C := RX5) (T := TX5) (N := 24) (v := .int (fI μ 8 0 15)) hx hb hts inX5 hown hK (c8_at hI) rfl 15 (by decide) (hts _ w_3_51) rfl rfl dX5_used_6 ?_
  refine lv_icmp_gt (tgt := 63) hx hb dX5_used_9 (by decide) (fun c_9 => ?_) (fun c_9 => ?_)
  · refine lv_iload_n hx hb dX5_used_63 rfl (lv_at hl 1 rfl) ?_
    exact W.iret (v := mUs μ g j) hx hb hr (fun t ht hW => ⟨_, rfl, (by have h := gt_end hrn c_9 hk (by omega); subst h; rfl), ht⟩) (fun q h => by cases h) dX5_used_64
  · have hjr : j < r := gt_lt hrn c_9 (by omega) (by omega)
    obtain ⟨p, hp4, hpp⟩ := hpt (j + 1) (by omega)
    have hmp : mP μ (j + 1) = p := by unfold mP; rw [hpp]; exact nI_clamp (by omega)
    have hcj : (nI (j + 1)).toNatClampNeg = j + 1 := nI_clamp (by omega)
    refine lv_iconst (v := 4) hx hb dX5_used_12 (by decide) ?_
    refine lv_iload_n hx hb dX5_used_13 rfl (lv_at hl 0 rfl) ?_
    refine lv_imul hx hb dX5_used_14 ?_
    refine lv_istore (lv' := [(4, .int (4 * (nI (j + 1)))), (3, .int (nI (j + 1))), (2, .int (mUs μ g j)), (1, .int (nI g)), (0, .ref (al 8 0))]) hx hb dX5_used_15 hl (by decide) rfl (fun ls hl => ?_)
    refine w_loopP (hd := 17) (stk := []) (X := Nat) (fun k => p - k) (fun k ls => (k ≤ p) ∧ lv_has ls 5 [(4, .int (nI (4 * (j + 1) + k))), (3, .int (nI (j + 1))), (2, .int (mUsI μ g (j + 1) (mUs μ g j) k)), (1, .int (nI g)), (0, .ref (al 8 0))]) (fun k ls hk ih_17 => ?_) 0 ls ⟨Nat.zero_le _, (by have h9 := lv_sub hl [0, 1, 2, 3, 4] rfl; rw [i4mul] at h9; exact h9)⟩
    obtain ⟨hk, hl⟩ := hk
    have hl : lv_has ls 5 [(4, .int (nI (4 * (j + 1) + k))), (3, .int (nI (j + 1))), (2, .int (mUsI μ g (j + 1) (mUs μ g j) k)), (1, .int (nI g)), (0, .ref (al 8 0))] := hl
    refine lv_iload hx hb dX5_used_17 (lv_at hl 0 rfl) ?_
    refine lv_iconst (v := 4) hx hb dX5_used_19 (by decide) ?_
    refine lv_iload_n hx hb dX5_used_20 rfl (lv_at hl 1 rfl) ?_
    refine lv_imul hx hb dX5_used_21 ?_
    refine W.eq (g2 := F0 m 22 ls (.int (nI (4 * (j + 1))) :: [.int (nI (4 * (j + 1) + k))])) (by rw [i4mul]) ?_
    refine lv_aload_n hx hb dX5_used_22 rfl (lv_at hl 4 rfl) ?_
    refine sx_get (ci := 5) (C := RX5) (T := TX5) (N := 24) (v := .ref (al 9 15)) hx hb hts inX5 hown hK (c8_at hI) rfl 19 (by decide) (hts _ w_3_55) rfl rfl dX5_used_23 ?_
    refine lv_iload_n hx hb dX5_used_26 rfl (lv_at hl 1 rfl) ?_
    refine sx_iald hx hb hK (c9_15_at hI) 0 rfl (vp_in_nI (show j + 1 < 61 by omega) (by decide)) dX5_used_27 ?_
    rw [hcj]
    refine lv_iadd hx hb dX5_used_28 ?_
    refine W.eq (g2 := F0 m 29 ls (.int (nI (4 * (j + 1) + p)) :: [.int (nI (4 * (j + 1) + k))])) (by rw [hpp, nI_add]) ?_
    refine lv_icmp_ge (tgt := 57) hx hb dX5_used_29 (by decide) (fun c_29 => ?_) (fun c_29 => ?_)
    · refine lv_iinc (v := (nI (j + 1)) + 1) (lv' := [(3, .int ((nI (j + 1)) + 1)), (4, .int (nI (4 * (j + 1) + k))), (2, .int (mUsI μ g (j + 1) (mUs μ g j) k)), (1, .int (nI g)), (0, .ref (al 8 0))]) hx hb dX5_used_57 hl (k := 1) rfl rfl (by decide) rfl (fun ls hl => ?_)
      refine lv_goto (tgt := 4) hx hb dX5_used_60 (by decide) ?_
      have hkp := lp_end (x := nI (4 * (j + 1) + p)) rfl c_29 (by omega) (by omega)
      have hkp : k = p := by omega
      subst hkp
      have hfn : mUsI μ g (j + 1) (mUs μ g j) k = mUs μ g (j + 1) := by rw [mUs, hmp]
      exact ih_4 (j + 1) ls (by omega) ⟨hjr, (by have h9 := lv_sub hl [0, 2, 3, 4] rfl; rw [nI_1, hfn] at h9; exact h9)⟩
    · have hlt : k < p := by
        have := lp_lt (x := nI (4 * (j + 1) + p)) rfl c_29 (by omega)
        omega
      have hck : (nI (4 * (j + 1) + k)).toNatClampNeg = 4 * (j + 1) + k := nI_clamp (by omega)
      refine lv_iload_n hx hb dX5_used_32 rfl (lv_at hl 2 rfl) ?_
      refine lv_aload_n hx hb dX5_used_33 rfl (lv_at hl 4 rfl) ?_
      refine sx_get (ci := 5) (C := RX5) (T := TX5) (N := 24) (v := .ref (al 9 16)) hx hb hts inX5 hown hK (c8_at hI) rfl 20 (by decide) (hts _ w_3_56) rfl rfl dX5_used_34 ?_
      refine lv_iload hx hb dX5_used_37 (lv_at hl 0 rfl) ?_
      refine sx_iald hx hb hK (c9_16_at hI) 0 rfl (vp_in_nI (show 4 * (j + 1) + k < 244 by omega) (by decide)) dX5_used_39 ?_
      rw [hck]
      refine lv_iload_n hx hb dX5_used_40 rfl (lv_at hl 3 rfl) ?_
      refine lv_icmp_ne (tgt := 48) hx hb dX5_used_41 (by decide) (fun c_41 => ?_) (fun c_41 => ?_)
      · refine lv_iconst (v := 0) hx hb dX5_used_48 (by decide) ?_
        refine lv_iadd hx hb dX5_used_49 ?_
        refine W.eq (g2 := F0 m 50 ls (.int (mUsI μ g (j + 1) (mUs μ g j) (k + 1)) :: [])) (by rw [mUsI, if_neg c_41]) ?_
        refine lv_istore_n (lv' := [(2, .int (mUsI μ g (j + 1) (mUs μ g j) (k + 1))), (4, .int (nI (4 * (j + 1) + k))), (3, .int (nI (j + 1))), (1, .int (nI g)), (0, .ref (al 8 0))]) hx hb dX5_used_50 rfl hl (by decide) rfl (fun ls hl => ?_)
        refine lv_iinc (v := (nI (4 * (j + 1) + k)) + 1) (lv' := [(4, .int ((nI (4 * (j + 1) + k)) + 1)), (2, .int (mUsI μ g (j + 1) (mUs μ g j) (k + 1))), (3, .int (nI (j + 1))), (1, .int (nI g)), (0, .ref (al 8 0))]) hx hb dX5_used_51 hl (k := 1) rfl rfl (by decide) rfl (fun ls hl => ?_)
        refine lv_goto (tgt := 17) hx hb dX5_used_54 (by decide) ?_
        exact ih_17 (k + 1) ls (by omega) ⟨hlt, (by have h9 := lv_sub hl [0, 2, 1, 3, 4] rfl; rw [nI_1] at h9; exact h9)⟩
      · refine lv_iconst (v := 1) hx hb dX5_used_44 (by decide) ?_
        refine lv_goto (tgt := 49) hx hb dX5_used_45 (by decide) ?_
        refine lv_iadd hx hb dX5_used_49 ?_
        refine W.eq (g2 := F0 m 50 ls (.int (mUsI μ g (j + 1) (mUs μ g j) (k + 1)) :: [])) (by rw [mUsI, if_pos c_41]) ?_
        refine lv_istore_n (lv' := [(2, .int (mUsI μ g (j + 1) (mUs μ g j) (k + 1))), (4, .int (nI (4 * (j + 1) + k))), (3, .int (nI (j + 1))), (1, .int (nI g)), (0, .ref (al 8 0))]) hx hb dX5_used_50 rfl hl (by decide) rfl (fun ls hl => ?_)
        refine lv_iinc (v := (nI (4 * (j + 1) + k)) + 1) (lv' := [(4, .int ((nI (4 * (j + 1) + k)) + 1)), (2, .int (mUsI μ g (j + 1) (mUs μ g j) (k + 1))), (3, .int (nI (j + 1))), (1, .int (nI g)), (0, .ref (al 8 0))]) hx hb dX5_used_51 hl (k := 1) rfl rfl (by decide) rfl (fun ls hl => ?_)
        refine lv_goto (tgt := 17) hx hb dX5_used_54 (by decide) ?_
        exact ih_17 (k + 1) ls (by omega) ⟨hlt, (by have h9 := lv_sub hl [0, 2, 1, 3, 4] rfl; rw [nI_1] at h9; exact h9)⟩
end
section
set_option maxHeartbeats 4000000 in
set_option maxRecDepth 100000 in
theorem m_freeOf (l : Launch) (D : va_G) (dA : Nat → ClassId) (sa : Nat → Nat) (lo : Nat) (al : Nat → Nat → Nat) (σ μ : CS) (g : Nat) (n r : Nat) (hw : WFm μ n r) (hg1 : 1 ≤ g) (hgn9 : g ≤ n) : Met l yX5_freeOf wsX5_freeOf ({ frames := 2, cells := 0, slots := 0, locals := 60 }) (va_Pc [.ref (al 8 0), .int (nI g)] (ivP D dA sa lo al σ μ)) (vp_Sl (fun z9 => z9 = mFree μ g r)) 0 0 (fun _ => False) := by
  refine Met.ofW (cc := cX5_freeOf) (maxL := 4) (ret := some .long) (by decide) rfl ?_
  intro p e s m args below meth c s₁ B hml hv
  obtain ⟨rfl, hI, hwd⟩ := hv
  have hx := B.exec
  have hb := B.bytes
  have hr := B.returns
  have hts : ∀ w ∈ WSall, w.before _ s = true := fun w h => atoms_spec (ws := wsX5_freeOf) B.pre w (List.mem_cons_of_mem _ h)
  have hown : s.vm.findClass RX5 = some m.cls := findClass_of_methodNamed B.named
  have hlocks := B.notSynchronized
  have hK := hwd.1
  have hS : va_S (fun q => lo ≤ q) s.heap s.heap [] := va_S.rf
  have hl := lv_entry ([.ref (al 8 0), .int (nI g)]) (n := 4) (Nat.le_of_ble_eq_true rfl)
  rw [lg_entry_eq]
  generalize (lg_sl ([.ref (al 8 0), .int (nI g)]) ++ List.replicate (4 - (lg_sl ([.ref (al 8 0), .int (nI g)])).length) Slot.unset).toArray = ls at hl ⊢
  have hl : lv_has ls 4 [(0, .ref (al 8 0)), (1, .int (nI g))] := hl
  obtain ⟨hn20, hr60, hgn, hrn, hor, hpt, hpr, hdn⟩ := id hw
  have hg : g ≤ 20 := by omega
  have hcg : (nI g).toNatClampNeg = g := nI_clamp (by omega)
  refine lv_aload_n hx hb dX5_freeOf_0 rfl (lv_at hl 0 rfl) ?_
  refine sx_get (ci := 5) (C := RX5) (T := TX5) (N := 24) (v := .ref (al 9 1)) hx hb hts inX5 hown hK (c8_at hI) rfl 4 (by decide) (hts _ w_3_40) rfl rfl dX5_freeOf_1 ?_
  refine lv_iload_n hx hb dX5_freeOf_4 rfl (lv_at hl 1 rfl) ?_
  refine sx_lald hx hb hK (c9_1_at hI) 1 rfl (vp_in_nI (show g < 21 by omega) (by decide)) dX5_freeOf_5 ?_
  rw [hcg]
  refine lv_aload_n hx hb dX5_freeOf_6 rfl (lv_at hl 0 rfl) ?_
  refine lv_iload_n hx hb dX5_freeOf_7 rfl (lv_at hl 1 rfl) ?_
  refine vp_callSl (W.runV (As := [.int (nI g)]) (rest := [.long (fL μ 9 1 g)]) ⟨hx, hb, hml, hown, hts⟩ (m_needed l D dA sa lo al σ μ g n r hw hg1 hgn9) (cwV 1 hts (gdV w_3_162 w_3_164 wp_16 w_1_3 w_3_165) rfl rfl rfl (by decide +kernel) ⟨Nat.le_of_ble_eq_true rfl, Nat.le_of_ble_eq_true rfl⟩) ⟨iv_bl, sx_recv hK (c8_at hI) rfl, fun U hU hW => ⟨rfl, iv_use hI hwd hS hU hW⟩⟩ rfl rfl hl.1 rfl (lv_room (Nat.le_of_ble_eq_true rfl)) dX5_freeOf_8 ⟨Nat.le_of_ble_eq_true rfl, Nat.le_of_ble_eq_true rfl⟩) (fun r_8 e_8 => ?_)
  subst e_8
  refine lv_lsub hx hb dX5_freeOf_11 ?_
  refine lv_lstore_n (lv' := [(2, .long ((fL μ 9 1 g) - (mNd μ g r))), (0, .ref (al 8 0)), (1, .int (nI g))]) hx hb dX5_freeOf_12 rfl hl (by decide) rfl (fun ls hl => ?_)
  refine lv_lload_n hx hb dX5_freeOf_13 rfl (lv_at hl 0 rfl) ?_
  refine lv_lconst (v := 0) hx hb dX5_freeOf_14 (by decide) ?_
  refine W.lcmp hx hb dX5_freeOf_15 ?_
  refine lv_if_ge (tgt := 23) hx hb dX5_freeOf_16 (by decide) (fun c_16 => ?_) (fun c_16 => ?_)
  · have c_16 : 0 ≤ ((fL μ 9 1 g) - (mNd μ g r)) := (lg_cmp_ge _ _).mp c_16
    refine lv_lload_n hx hb dX5_freeOf_23 rfl (lv_at hl 0 rfl) ?_
    exact W.lret (v := (fL μ 9 1 g) - (mNd μ g r)) hx hb hr (fun t ht hW => ⟨_, rfl, (by unfold mFree; simp only [if_pos c_16]), ht⟩) (fun q h => by cases h) dX5_freeOf_24
  · have c_16 : ¬ 0 ≤ ((fL μ 9 1 g) - (mNd μ g r)) := fun h => c_16 ((lg_cmp_ge _ _).mpr h)
    refine lv_lconst (v := 0) hx hb dX5_freeOf_19 (by decide) ?_
    refine lv_goto (tgt := 24) hx hb dX5_freeOf_20 (by decide) ?_
    exact W.lret (v := 0) hx hb hr (fun t ht hW => ⟨_, rfl, (by unfold mFree; simp only [if_neg c_16]), ht⟩) (fun q h => by cases h) dX5_freeOf_24

set_option maxHeartbeats 4000000 in
set_option maxRecDepth 100000 in
theorem m_may (l : Launch) (D : va_G) (dA : Nat → ClassId) (sa : Nat → Nat) (lo : Nat) (al : Nat → Nat → Nat) (σ μ : CS) (g : Nat) (n r : Nat) (hw : WFm μ n r) (hg1 : 1 ≤ g) (hgn9 : g ≤ n) : Met l yX5_may wsX5_may ({ frames := 3, cells := 0, slots := 0, locals := 90 }) (va_Pc [.ref (al 8 0), .int (nI g)] (ivP D dA sa lo al σ μ)) (vp_Sl (fun z9 => z9 = mMay μ g r)) 0 0 (fun _ => False) := by
  refine Met.ofW (cc := cX5_may) (maxL := 2) (ret := some .long) (by decide) rfl ?_
  intro p e s m args below meth c s₁ B hml hv
  obtain ⟨rfl, hI, hwd⟩ := hv
  have hx := B.exec
  have hb := B.bytes
  have hr := B.returns
  have hts : ∀ w ∈ WSall, w.before _ s = true := fun w h => atoms_spec (ws := wsX5_may) B.pre w (List.mem_cons_of_mem _ h)
  have hown : s.vm.findClass RX5 = some m.cls := findClass_of_methodNamed B.named
  have hlocks := B.notSynchronized
  have hK := hwd.1
  have hS : va_S (fun q => lo ≤ q) s.heap s.heap [] := va_S.rf
  have hl := lv_entry ([.ref (al 8 0), .int (nI g)]) (n := 2) (Nat.le_of_ble_eq_true rfl)
  rw [lg_entry_eq]
  generalize (lg_sl ([.ref (al 8 0), .int (nI g)]) ++ List.replicate (2 - (lg_sl ([.ref (al 8 0), .int (nI g)])).length) Slot.unset).toArray = ls at hl ⊢
  have hl : lv_has ls 2 [(0, .ref (al 8 0)), (1, .int (nI g))] := hl
  obtain ⟨hn20, hr60, hgn, hrn, hor, hpt, hpr, hdn⟩ := id hw
  have hg : g ≤ 20 := by omega
  have hcg : (nI g).toNatClampNeg = g := nI_clamp (by omega)
  refine lv_aload_n hx hb dX5_may_0 rfl (lv_at hl 0 rfl) ?_
  refine sx_get (ci := 5) (C := RX5) (T := TX5) (N := 24) (v := .ref (al 9 6)) hx hb hts inX5 hown hK (c8_at hI) rfl 9 (by decide) (hts _ w_3_45) rfl rfl dX5_may_1 ?_
  refine lv_iload_n hx hb dX5_may_4 rfl (lv_at hl 1 rfl) ?_
  refine sx_zald hx hb hK (c9_6_at hI) 2 rfl (vp_in_nI (show g < 21 by omega) (by decide)) dX5_may_5 ?_
  rw [hcg]
  refine lv_if_ne (tgt := 26) hx hb dX5_may_6 (by decide) (fun c_6 => ?_) (fun c_6 => ?_)
  · refine lv_lconst (v := 0) hx hb dX5_may_26 (by decide) ?_
    exact W.lret (v := 0) hx hb hr (fun t ht hW => ⟨_, rfl, (by unfold mMay; rw [if_pos (Or.inl c_6)]), ht⟩) (fun q h => by cases h) dX5_may_27
  · refine lv_aload_n hx hb dX5_may_9 rfl (lv_at hl 0 rfl) ?_
    refine sx_get (ci := 5) (C := RX5) (T := TX5) (N := 24) (v := .ref (al 9 4)) hx hb hts inX5 hown hK (c8_at hI) rfl 7 (by decide) (hts _ w_3_43) rfl rfl dX5_may_10 ?_
    refine lv_iload_n hx hb dX5_may_13 rfl (lv_at hl 1 rfl) ?_
    refine sx_zald hx hb hK (c9_4_at hI) 2 rfl (vp_in_nI (show g < 21 by omega) (by decide)) dX5_may_14 ?_
    rw [hcg]
    refine lv_if_eq (tgt := 28) hx hb dX5_may_15 (by decide) (fun c_15 => ?_) (fun c_15 => ?_)
    · refine lv_aload_n hx hb dX5_may_28 rfl (lv_at hl 0 rfl) ?_
      refine sx_get (ci := 5) (C := RX5) (T := TX5) (N := 24) (v := .ref (al 9 2)) hx hb hts inX5 hown hK (c8_at hI) rfl 5 (by decide) (hts _ w_3_41) rfl rfl dX5_may_29 ?_
      refine lv_iload_n hx hb dX5_may_32 rfl (lv_at hl 1 rfl) ?_
      refine sx_iald hx hb hK (c9_2_at hI) 0 rfl (vp_in_nI (show g < 21 by omega) (by decide)) dX5_may_33 ?_
      rw [hcg]
      refine lv_if_ne (tgt := 43) hx hb dX5_may_34 (by decide) (fun c_34 => ?_) (fun c_34 => ?_)
      · refine lv_aload_n hx hb dX5_may_43 rfl (lv_at hl 0 rfl) ?_
        refine lv_iload_n hx hb dX5_may_44 rfl (lv_at hl 1 rfl) ?_
        refine vp_callSl (W.runV (As := [.int (nI g)]) (rest := []) ⟨hx, hb, hml, hown, hts⟩ (m_freeOf l D dA sa lo al σ μ g n r hw hg1 hgn9) (cwV 1 hts (gdV w_3_158 w_3_160 wp_15 w_1_3 w_3_161) rfl rfl rfl (by decide +kernel) ⟨Nat.le_of_ble_eq_true rfl, Nat.le_of_ble_eq_true rfl⟩) ⟨iv_bl, sx_recv hK (c8_at hI) rfl, fun U hU hW => ⟨rfl, iv_use hI hwd hS hU hW⟩⟩ rfl rfl hl.1 rfl (lv_room (Nat.le_of_ble_eq_true rfl)) dX5_may_45 ⟨Nat.le_of_ble_eq_true rfl, Nat.le_of_ble_eq_true rfl⟩) (fun r_45 e_45 => ?_)
        subst e_45
        refine lv_aload_n hx hb dX5_may_48 rfl (lv_at hl 0 rfl) ?_
        refine sx_get (ci := 5) (C := RX5) (T := TX5) (N := 24) (v := .ref (al 9 3)) hx hb hts inX5 hown hK (c8_at hI) rfl 6 (by decide) (hts _ w_3_42) rfl rfl dX5_may_49 ?_
        refine lv_iload_n hx hb dX5_may_52 rfl (lv_at hl 1 rfl) ?_
        refine sx_iald hx hb hK (c9_3_at hI) 0 rfl (vp_in_nI (show g < 21 by omega) (by decide)) dX5_may_53 ?_
        rw [hcg]
        refine lv_i2l hx hb dX5_may_54 rfl ?_
        refine lv_lmul hx hb dX5_may_55 ?_
        refine lv_aload_n hx hb dX5_may_56 rfl (lv_at hl 0 rfl) ?_
        refine sx_get (ci := 5) (C := RX5) (T := TX5) (N := 24) (v := .ref (al 9 2)) hx hb hts inX5 hown hK (c8_at hI) rfl 5 (by decide) (hts _ w_3_41) rfl rfl dX5_may_57 ?_
        refine lv_iload_n hx hb dX5_may_60 rfl (lv_at hl 1 rfl) ?_
        refine sx_iald hx hb hK (c9_2_at hI) 0 rfl (vp_in_nI (show g < 21 by omega) (by decide)) dX5_may_61 ?_
        rw [hcg]
        refine lv_i2l hx hb dX5_may_62 rfl ?_
        refine lv_ldiv hx hb dX5_may_63 (fun h => c_34 (i64_0 h)) ?_
        exact W.lret (v := ((mFree μ g r) * (fI μ 9 3 g).toInt64) / (fI μ 9 2 g).toInt64) hx hb hr (fun t ht hW => ⟨_, rfl, (by unfold mMay; rw [if_neg (fun h => h.elim (fun q => q c_6) (fun q => q.1 c_15)), if_neg c_34]), ht⟩) (fun q h => by cases h) dX5_may_64
      · refine lv_ldc2 (v := 1000000000) hx hb hown (hts _ w_3_117) dX5_may_37 ?_
        refine lv_goto (tgt := 64) hx hb dX5_may_40 (by decide) ?_
        exact W.lret (v := 1000000000) hx hb hr (fun t ht hW => ⟨_, rfl, (by unfold mMay; rw [if_neg (fun h => h.elim (fun q => q c_6) (fun q => q.1 c_15)), if_pos c_34]), ht⟩) (fun q h => by cases h) dX5_may_64
    · refine lv_aload_n hx hb dX5_may_18 rfl (lv_at hl 0 rfl) ?_
      refine lv_iload_n hx hb dX5_may_19 rfl (lv_at hl 1 rfl) ?_
      refine vp_callSi (W.runV (As := [.int (nI g)]) (rest := []) ⟨hx, hb, hml, hown, hts⟩ (m_used l D dA sa lo al σ μ g n r hw hg1 hgn9) (cwV 1 hts (gdV w_3_154 w_3_156 wp_14 w_1_3 w_3_157) rfl rfl rfl (by decide +kernel) ⟨Nat.le_of_ble_eq_true rfl, Nat.le_of_ble_eq_true rfl⟩) ⟨iv_bl, sx_recv hK (c8_at hI) rfl, fun U hU hW => ⟨rfl, iv_use hI hwd hS hU hW⟩⟩ rfl rfl hl.1 rfl (lv_room (Nat.le_of_ble_eq_true rfl)) dX5_may_20 ⟨Nat.le_of_ble_eq_true rfl, Nat.le_of_ble_eq_true rfl⟩) (fun r_20 e_20 => ?_)
      subst e_20
      refine lv_if_le (tgt := 28) hx hb dX5_may_23 (by decide) (fun c_23 => ?_) (fun c_23 => ?_)
      · refine lv_aload_n hx hb dX5_may_28 rfl (lv_at hl 0 rfl) ?_
        refine sx_get (ci := 5) (C := RX5) (T := TX5) (N := 24) (v := .ref (al 9 2)) hx hb hts inX5 hown hK (c8_at hI) rfl 5 (by decide) (hts _ w_3_41) rfl rfl dX5_may_29 ?_
        refine lv_iload_n hx hb dX5_may_32 rfl (lv_at hl 1 rfl) ?_
        refine sx_iald hx hb hK (c9_2_at hI) 0 rfl (vp_in_nI (show g < 21 by omega) (by decide)) dX5_may_33 ?_
        rw [hcg]
        refine lv_if_ne (tgt := 43) hx hb dX5_may_34 (by decide) (fun c_34 => ?_) (fun c_34 => ?_)
        · refine lv_aload_n hx hb dX5_may_43 rfl (lv_at hl 0 rfl) ?_
          refine lv_iload_n hx hb dX5_may_44 rfl (lv_at hl 1 rfl) ?_
          refine vp_callSl (W.runV (As := [.int (nI g)]) (rest := []) ⟨hx, hb, hml, hown, hts⟩ (m_freeOf l D dA sa lo al σ μ g n r hw hg1 hgn9) (cwV 1 hts (gdV w_3_158 w_3_160 wp_15 w_1_3 w_3_161) rfl rfl rfl (by decide +kernel) ⟨Nat.le_of_ble_eq_true rfl, Nat.le_of_ble_eq_true rfl⟩) ⟨iv_bl, sx_recv hK (c8_at hI) rfl, fun U hU hW => ⟨rfl, iv_use hI hwd hS hU hW⟩⟩ rfl rfl hl.1 rfl (lv_room (Nat.le_of_ble_eq_true rfl)) dX5_may_45 ⟨Nat.le_of_ble_eq_true rfl, Nat.le_of_ble_eq_true rfl⟩) (fun r_45 e_45 => ?_)
          subst e_45
          refine lv_aload_n hx hb dX5_may_48 rfl (lv_at hl 0 rfl) ?_
          refine sx_get (ci := 5) (C := RX5) (T := TX5) (N := 24) (v := .ref (al 9 3)) hx hb hts inX5 hown hK (c8_at hI) rfl 6 (by decide) (hts _ w_3_42) rfl rfl dX5_may_49 ?_
          refine lv_iload_n hx hb dX5_may_52 rfl (lv_at hl 1 rfl) ?_
          refine sx_iald hx hb hK (c9_3_at hI) 0 rfl (vp_in_nI (show g < 21 by omega) (by decide)) dX5_may_53 ?_
          rw [hcg]
          refine lv_i2l hx hb dX5_may_54 rfl ?_
          refine lv_lmul hx hb dX5_may_55 ?_
          refine lv_aload_n hx hb dX5_may_56 rfl (lv_at hl 0 rfl) ?_
          refine sx_get (ci := 5) (C := RX5) (T := TX5) (N := 24) (v := .ref (al 9 2)) hx hb hts inX5 hown hK (c8_at hI) rfl 5 (by decide) (hts _ w_3_41) rfl rfl dX5_may_57 ?_
          refine lv_iload_n hx hb dX5_may_60 rfl (lv_at hl 1 rfl) ?_
          refine sx_iald hx hb hK (c9_2_at hI) 0 rfl (vp_in_nI (show g < 21 by omega) (by decide)) dX5_may_61 ?_
          rw [hcg]
          refine lv_i2l hx hb dX5_may_62 rfl ?_
          refine lv_ldiv hx hb dX5_may_63 (fun h => c_34 (i64_0 h)) ?_
          exact W.lret (v := ((mFree μ g r) * (fI μ 9 3 g).toInt64) / (fI μ 9 2 g).toInt64) hx hb hr (fun t ht hW => ⟨_, rfl, (by unfold mMay; rw [if_neg (fun h => h.elim (fun q => q c_6) (fun q => q.2 c_23)), if_neg c_34]), ht⟩) (fun q h => by cases h) dX5_may_64
        · refine lv_ldc2 (v := 1000000000) hx hb hown (hts _ w_3_117) dX5_may_37 ?_
          refine lv_goto (tgt := 64) hx hb dX5_may_40 (by decide) ?_
          exact W.lret (v := 1000000000) hx hb hr (fun t ht hW => ⟨_, rfl, (by unfold mMay; rw [if_neg (fun h => h.elim (fun q => q c_6) (fun q => q.2 c_23)), if_pos c_34]), ht⟩) (fun q h => by cases h) dX5_may_64
      · refine lv_lconst (v := 0) hx hb dX5_may_26 (by decide) ?_
        exact W.lret (v := 0) hx hb hr (fun t ht hW => ⟨_, rfl, (by unfold mMay; rw [if_pos (Or.inr ⟨c_15, c_23⟩)]), ht⟩) (fun q h => by cases h) dX5_may_27

set_option maxHeartbeats 4000000 in
set_option maxRecDepth 100000 in
theorem m_together (l : Launch) (D : va_G) (dA : Nat → ClassId) (sa : Nat → Nat) (lo : Nat) (al : Nat → Nat → Nat) (σ μ : CS) (h : Int32) (n r : Nat) (hw : WFm μ n r) : Met l yX5_together wsX5_together ({ frames := 4, cells := 0, slots := 0, locals := 120 }) (va_Pc [.ref (al 8 0), .int h] (ivP D dA sa lo al σ μ)) (vp_Sl (fun z9 => z9 = mTog μ n r h)) 0 0 (fun _ => False) := by
  refine Met.ofW (cc := cX5_together) (maxL := 5) (ret := some .long) (by decide) rfl ?_
  intro p e s m args below meth c s₁ B hml hv
  obtain ⟨rfl, hI, hwd⟩ := hv
  have hx := B.exec
  have hb := B.bytes
  have hr := B.returns
  have hts : ∀ w ∈ WSall, w.before _ s = true := fun w h => atoms_spec (ws := wsX5_together) B.pre w (List.mem_cons_of_mem _ h)
  have hown : s.vm.findClass RX5 = some m.cls := findClass_of_methodNamed B.named
  have hlocks := B.notSynchronized
  have hK := hwd.1
  have hS : va_S (fun q => lo ≤ q) s.heap s.heap [] := va_S.rf
  have hl := lv_entry ([.ref (al 8 0), .int h]) (n := 5) (Nat.le_of_ble_eq_true rfl)
  rw [lg_entry_eq]
  generalize (lg_sl ([.ref (al 8 0), .int h]) ++ List.replicate (5 - (lg_sl ([.ref (al 8 0), .int h])).length) Slot.unset).toArray = ls at hl ⊢
  have hl : lv_has ls 5 [(0, .ref (al 8 0)), (1, .int h)] := hl
  obtain ⟨hn20, hr60, hgn, hrn, hor, hpt, hpr, hdn⟩ := id hw
  refine lv_lconst (v := 0) hx hb dX5_together_0 (by decide) ?_
  refine lv_lstore_n (lv' := [(2, .long 0), (0, .ref (al 8 0)), (1, .int h)]) hx hb dX5_together_1 rfl hl (by decide) rfl (fun ls hl => ?_)
  refine lv_iconst (v := 1) hx hb dX5_together_2 (by decide) ?_
  refine lv_istore (lv' := [(4, .int 1), (2, .long 0), (0, .ref (al 8 0)), (1, .int h)]) hx hb dX5_together_3 hl (by decide) rfl (fun ls hl => ?_)
  refine w_loopP (hd := 5) (stk := []) (X := Nat) (fun j => n - j) (fun j ls => (j ≤ n) ∧ lv_has ls 5 [(4, .int (nI (j + 1))), (2, .long (mTg μ r h j)), (1, .int h), (0, .ref (al 8 0))]) (fun j ls hk ih_5 => ?_) 0 ls ⟨Nat.zero_le _, (by have h9 := lv_sub hl [0, 1, 3, 2] rfl; rw [show (1 : Int32) = nI (0 + 1) from rfl] at h9; exact h9)⟩
  obtain ⟨hk, hl⟩ := hk
  have hl : lv_has ls 5 [(4, .int (nI (j + 1))), (2, .long (mTg μ r h j)), (1, .int h), (0, .ref (al 8 0))] := hl
  refine lv_iload hx hb dX5_together_5 (lv_at hl 0 rfl) ?_
  refine lv_aload_n hx hb dX5_together_7 rfl (lv_at hl 3 rfl) ?_
  refine sx_get (ci := 5) (C := RX5) (T := TX5) (N := 24) (v := .int (fI μ 8 0 1)) hx hb hts inX5 hown hK (c8_at hI) rfl 1 (by decide) (hts _ w_3_37) rfl rfl dX5_together_8 ?_
  refine lv_icmp_gt (tgt := 44) hx hb dX5_together_11 (by decide) (fun c_11 => ?_) (fun c_11 => ?_)
  · have hj9 := gt_end hgn c_11 hk (by omega)
    subst hj9
    refine lv_lload_n hx hb dX5_together_44 rfl (lv_at hl 1 rfl) ?_
    refine lv_ldc2 (v := 2000000000) hx hb hown (hts _ w_3_170) dX5_together_45 ?_
    refine W.lcmp hx hb dX5_together_48 ?_
    refine lv_if_le (tgt := 58) hx hb dX5_together_49 (by decide) (fun c_49 => ?_) (fun c_49 => ?_)
    · have c_49 : (mTg μ r h j) ≤ 2000000000 := (lg_cmp_le _ _).mp c_49
      refine lv_lload_n hx hb dX5_together_58 rfl (lv_at hl 1 rfl) ?_
      exact W.lret (v := mTg μ r h j) hx hb hr (fun t ht hW => ⟨_, rfl, (by unfold mTog; rw [if_pos c_49]), ht⟩) (fun q h => by cases h) dX5_together_59
    · have c_49 : ¬ (mTg μ r h j) ≤ 2000000000 := fun h => c_49 ((lg_cmp_le _ _).mpr h)
      refine lv_ldc2 (v := 2000000000) hx hb hown (hts _ w_3_170) dX5_together_52 ?_
      refine lv_goto (tgt := 59) hx hb dX5_together_55 (by decide) ?_
      exact W.lret (v := 2000000000) hx hb hr (fun t ht hW => ⟨_, rfl, (by unfold mTog; rw [if_neg c_49]), ht⟩) (fun q h => by cases h) dX5_together_59
  · have hjn : j < n := gt_lt hgn c_11 (by omega) (by omega)
    have hcj : (nI (j + 1)).toNatClampNeg = j + 1 := nI_clamp (by omega)
    refine lv_lload_n hx hb dX5_together_14 rfl (lv_at hl 1 rfl) ?_
    refine lv_aload_n hx hb dX5_together_15 rfl (lv_at hl 3 rfl) ?_
    refine sx_get (ci := 5) (C := RX5) (T := TX5) (N := 24) (v := .ref (al 9 0)) hx hb hts inX5 hown hK (c8_at hI) rfl 3 (by decide) (hts _ w_3_39) rfl rfl dX5_together_16 ?_
    refine lv_iload hx hb dX5_together_19 (lv_at hl 0 rfl) ?_
    refine sx_iald hx hb hK (c9_0_at hI) 0 rfl (vp_in_nI (show j + 1 < 21 by omega) (by decide)) dX5_together_21 ?_
    rw [hcj]
    refine lv_iload_n hx hb dX5_together_22 rfl (lv_at hl 2 rfl) ?_
    refine lv_icmp_ne (tgt := 35) hx hb dX5_together_23 (by decide) (fun c_23 => ?_) (fun c_23 => ?_)
    · refine lv_lconst (v := 0) hx hb dX5_together_35 (by decide) ?_
      refine lv_ladd hx hb dX5_together_36 ?_
      refine W.eq (g2 := F0 m 37 ls (.long (mTg μ r h (j + 1)) :: [])) (by rw [mTg, if_neg c_23]) ?_
      refine lv_lstore_n (lv' := [(2, .long (mTg μ r h (j + 1))), (4, .int (nI (j + 1))), (1, .int h), (0, .ref (al 8 0))]) hx hb dX5_together_37 rfl hl (by decide) rfl (fun ls hl => ?_)
      refine lv_iinc (v := (nI (j + 1)) + 1) (lv' := [(4, .int ((nI (j + 1)) + 1)), (2, .long (mTg μ r h (j + 1))), (1, .int h), (0, .ref (al 8 0))]) hx hb dX5_together_38 hl (k := 1) rfl rfl (by decide) rfl (fun ls hl => ?_)
      refine lv_goto (tgt := 5) hx hb dX5_together_41 (by decide) ?_
      exact ih_5 (j + 1) ls (by omega) ⟨hjn, (by have h9 := lv_sub hl [0, 1, 2, 3] rfl; rw [nI_1] at h9; exact h9)⟩
    · refine lv_aload_n hx hb dX5_together_26 rfl (lv_at hl 3 rfl) ?_
      refine lv_iload hx hb dX5_together_27 (lv_at hl 0 rfl) ?_
      refine vp_callSl (W.runV (As := [.int (nI (j + 1))]) (rest := [.long (mTg μ r h j)]) ⟨hx, hb, hml, hown, hts⟩ (m_may l D dA sa lo al σ μ (j + 1) n r hw (by omega) (by omega)) (cwV 1 hts (gdV w_3_150 w_3_152 wp_13 w_1_3 w_3_153) rfl rfl rfl (by decide +kernel) ⟨Nat.le_of_ble_eq_true rfl, Nat.le_of_ble_eq_true rfl⟩) ⟨iv_bl, sx_recv hK (c8_at hI) rfl, fun U hU hW => ⟨rfl, iv_use hI hwd hS hU hW⟩⟩ rfl rfl hl.1 rfl (lv_room (Nat.le_of_ble_eq_true rfl)) dX5_together_29 ⟨Nat.le_of_ble_eq_true rfl, Nat.le_of_ble_eq_true rfl⟩) (fun r_29 e_29 => ?_)
      subst e_29
      refine lv_goto (tgt := 36) hx hb dX5_together_32 (by decide) ?_
      refine lv_ladd hx hb dX5_together_36 ?_
      refine W.eq (g2 := F0 m 37 ls (.long (mTg μ r h (j + 1)) :: [])) (by rw [mTg, if_pos c_23]) ?_
      refine lv_lstore_n (lv' := [(2, .long (mTg μ r h (j + 1))), (4, .int (nI (j + 1))), (1, .int h), (0, .ref (al 8 0))]) hx hb dX5_together_37 rfl hl (by decide) rfl (fun ls hl => ?_)
      refine lv_iinc (v := (nI (j + 1)) + 1) (lv' := [(4, .int ((nI (j + 1)) + 1)), (2, .long (mTg μ r h (j + 1))), (1, .int h), (0, .ref (al 8 0))]) hx hb dX5_together_38 hl (k := 1) rfl rfl (by decide) rfl (fun ls hl => ?_)
      refine lv_goto (tgt := 5) hx hb dX5_together_41 (by decide) ?_
      exact ih_5 (j + 1) ls (by omega) ⟨hjn, (by have h9 := lv_sub hl [0, 1, 2, 3] rfl; rw [nI_1] at h9; exact h9)⟩

set_option maxHeartbeats 4000000 in
set_option maxRecDepth 100000 in
theorem m_covered (l : Launch) (D : va_G) (dA : Nat → ClassId) (sa : Nat → Nat) (lo : Nat) (al : Nat → Nat → Nat) (σ μ : CS) (j pq : Nat) (hj : j ≤ 60) (hp4 : pq ≤ 4) (hp : fI μ 9 15 j = nI pq) : Met l yX5_covered wsX5_covered ({ frames := 0, cells := 0, slots := 0, locals := 0 }) (va_Pc [.ref (al 8 0), .int (nI j)] (ivP D dA sa lo al σ μ)) (vp_Sl (fun z9 => z9 = mCov μ j pq)) 0 0 (fun _ => False) := by
  refine Met.ofW (cc := cX5_covered) (maxL := 5) (ret := some .long) (by decide) rfl ?_
  intro p e s m args below meth c s₁ B hml hv
  obtain ⟨rfl, hI, hwd⟩ := hv
  have hx := B.exec
  have hb := B.bytes
  have hr := B.returns
  have hts : ∀ w ∈ WSall, w.before _ s = true := fun w h => atoms_spec (ws := wsX5_covered) B.pre w (List.mem_cons_of_mem _ h)
  have hown : s.vm.findClass RX5 = some m.cls := findClass_of_methodNamed B.named
  have hlocks := B.notSynchronized
  have hK := hwd.1
  have hS : va_S (fun q => lo ≤ q) s.heap s.heap [] := va_S.rf
  have hl := lv_entry ([.ref (al 8 0), .int (nI j)]) (n := 5) (Nat.le_of_ble_eq_true rfl)
  rw [lg_entry_eq]
  generalize (lg_sl ([.ref (al 8 0), .int (nI j)]) ++ List.replicate (5 - (lg_sl ([.ref (al 8 0), .int (nI j)])).length) Slot.unset).toArray = ls at hl ⊢
  have hl : lv_has ls 5 [(0, .ref (al 8 0)), (1, .int (nI j))] := hl
  have hcj : (nI j).toNatClampNeg = j := nI_clamp (by omega)
  refine lv_lconst (v := 0) hx hb dX5_covered_0 (by decide) ?_
  refine lv_lstore_n (lv' := [(2, .long 0), (0, .ref (al 8 0)), (1, .int (nI j))]) hx hb dX5_covered_1 rfl hl (by decide) rfl (fun ls hl => ?_)
  refine lv_iconst (v := 4) hx hb dX5_covered_2 (by decide) ?_
  refine lv_iload_n hx hb dX5_covered_3 rfl (lv_at hl 2 rfl) ?_
  refine lv_imul hx hb dX5_covered_4 ?_
  refine lv_istore (lv' := [(4, .int (4 * (nI j))), (2, .long 0), (0, .ref (al 8 0)), (1, .int (nI j))]) hx hb dX5_covered_5 hl (by decide) rfl (fun ls hl => ?_)
  refine w_loopP (hd := 7) (stk := []) (X := Nat) (fun k => pq - k) (fun k ls => (k ≤ pq) ∧ lv_has ls 5 [(4, .int (nI (4 * j + k))), (2, .long (mCov μ j k)), (1, .int (nI j)), (0, .ref (al 8 0))]) (fun k ls hk ih_7 => ?_) 0 ls ⟨Nat.zero_le _, (by have h9 := lv_sub hl [0, 1, 3, 2] rfl; rw [i4mul] at h9; exact h9)⟩
  obtain ⟨hk, hl⟩ := hk
  have hl : lv_has ls 5 [(4, .int (nI (4 * j + k))), (2, .long (mCov μ j k)), (1, .int (nI j)), (0, .ref (al 8 0))] := hl
  refine lv_iload hx hb dX5_covered_7 (lv_at hl 0 rfl) ?_
  refine lv_iconst (v := 4) hx hb dX5_covered_9 (by decide) ?_
  refine lv_iload_n hx hb dX5_covered_10 rfl (lv_at hl 2 rfl) ?_
  refine lv_imul hx hb dX5_covered_11 ?_
  refine W.eq (g2 := F0 m 12 ls (.int (nI (4 * j)) :: [.int (nI (4 * j + k))])) (by rw [i4mul]) ?_
  refine lv_aload_n hx hb dX5_covered_12 rfl (lv_at hl 3 rfl) ?_
  refine sx_get (ci := 5) (C := RX5) (T := TX5) (N := 24) (v := .ref (al 9 15)) hx hb hts inX5 hown hK (c8_at hI) rfl 19 (by decide) (hts _ w_3_55) rfl rfl dX5_covered_13 ?_
  refine lv_iload_n hx hb dX5_covered_16 rfl (lv_at hl 2 rfl) ?_
  refine sx_iald hx hb hK (c9_15_at hI) 0 rfl (vp_in_nI (show j < 61 by omega) (by decide)) dX5_covered_17 ?_
  rw [hcj]
  refine lv_iadd hx hb dX5_covered_18 ?_
  refine W.eq (g2 := F0 m 19 ls (.int (nI (4 * j + pq)) :: [.int (nI (4 * j + k))])) (by rw [hp, nI_add]) ?_
  refine lv_icmp_ge (tgt := 38) hx hb dX5_covered_19 (by decide) (fun c_19 => ?_) (fun c_19 => ?_)
  · refine lv_lload_n hx hb dX5_covered_38 rfl (lv_at hl 1 rfl) ?_
    exact W.lret (v := mCov μ j k) hx hb hr (fun t ht hW => ⟨_, rfl, (by have h := lp_end (x := nI (4 * j + pq)) rfl c_19 (by omega) (by omega); have h : k = pq := (by omega); subst h; rfl), ht⟩) (fun q h => by cases h) dX5_covered_39
  · have hlt : k < pq := by
      have := lp_lt (x := nI (4 * j + pq)) rfl c_19 (by omega)
      omega
    have hck : (nI (4 * j + k)).toNatClampNeg = 4 * j + k := nI_clamp (by omega)
    refine lv_lload_n hx hb dX5_covered_22 rfl (lv_at hl 1 rfl) ?_
    refine lv_aload_n hx hb dX5_covered_23 rfl (lv_at hl 3 rfl) ?_
    refine sx_get (ci := 5) (C := RX5) (T := TX5) (N := 24) (v := .ref (al 9 17)) hx hb hts inX5 hown hK (c8_at hI) rfl 21 (by decide) (hts _ w_3_57) rfl rfl dX5_covered_24 ?_
    refine lv_iload hx hb dX5_covered_27 (lv_at hl 0 rfl) ?_
    refine sx_lald hx hb hK (c9_17_at hI) 1 rfl (vp_in_nI (show 4 * j + k < 244 by omega) (by decide)) dX5_covered_29 ?_
    rw [hck]
    refine lv_ladd hx hb dX5_covered_30 ?_
    refine lv_lstore_n (lv' := [(2, .long ((mCov μ j k) + (fL μ 9 17 (4 * j + k)))), (4, .int (nI (4 * j + k))), (1, .int (nI j)), (0, .ref (al 8 0))]) hx hb dX5_covered_31 rfl hl (by decide) rfl (fun ls hl => ?_)
    refine lv_iinc (v := (nI (4 * j + k)) + 1) (lv' := [(4, .int ((nI (4 * j + k)) + 1)), (2, .long ((mCov μ j k) + (fL μ 9 17 (4 * j + k)))), (1, .int (nI j)), (0, .ref (al 8 0))]) hx hb dX5_covered_32 hl (k := 1) rfl rfl (by decide) rfl (fun ls hl => ?_)
    refine lv_goto (tgt := 7) hx hb dX5_covered_35 (by decide) ?_
    exact ih_7 (k + 1) ls (by omega) ⟨hlt, (by have h9 := lv_sub hl [0, 1, 2, 3] rfl; rw [nI_1] at h9; exact h9)⟩

set_option maxHeartbeats 4000000 in
set_option maxRecDepth 100000 in
theorem m_running (l : Launch) (D : va_G) (dA : Nat → ClassId) (sa : Nat → Nat) (lo : Nat) (al : Nat → Nat → Nat) (σ μ : CS) (g : Nat) (hg : g ≤ 20) : Met l yX5_running wsX5_running ({ frames := 0, cells := 0, slots := 0, locals := 0 }) (va_Pc [.ref (al 8 0), .int (nI g)] (ivP D dA sa lo al σ μ)) (vp_Sl (fun z9 => z9 = mRun μ g)) 0 0 (fun _ => False) := by
  refine Met.ofW (cc := cX5_running) (maxL := 3) (ret := some .long) (by decide) rfl ?_
  intro p e s m args below meth c s₁ B hml hv
  obtain ⟨rfl, hI, hwd⟩ := hv
  have hx := B.exec
  have hb := B.bytes
  have hr := B.returns
  have hts : ∀ w ∈ WSall, w.before _ s = true := fun w h => atoms_spec (ws := wsX5_running) B.pre w (List.mem_cons_of_mem _ h)
  have hown : s.vm.findClass RX5 = some m.cls := findClass_of_methodNamed B.named
  have hlocks := B.notSynchronized
  have hK := hwd.1
  have hS : va_S (fun q => lo ≤ q) s.heap s.heap [] := va_S.rf
  have hl := lv_entry ([.ref (al 8 0), .int (nI g)]) (n := 3) (Nat.le_of_ble_eq_true rfl)
  rw [lg_entry_eq]
  generalize (lg_sl ([.ref (al 8 0), .int (nI g)]) ++ List.replicate (3 - (lg_sl ([.ref (al 8 0), .int (nI g)])).length) Slot.unset).toArray = ls at hl ⊢
  have hl : lv_has ls 3 [(0, .ref (al 8 0)), (1, .int (nI g))] := hl
  have hcg : (nI g).toNatClampNeg = g := nI_clamp (by omega)
  refine lv_aload_n hx hb dX5_running_0 rfl (lv_at hl 0 rfl) ?_
  refine sx_get (ci := 5) (C := RX5) (T := TX5) (N := 24) (v := .ref (al 9 6)) hx hb hts inX5 hown hK (c8_at hI) rfl 9 (by decide) (hts _ w_3_45) rfl rfl dX5_running_1 ?_
  refine lv_iload_n hx hb dX5_running_4 rfl (lv_at hl 1 rfl) ?_
  refine sx_zald hx hb hK (c9_6_at hI) 2 rfl (vp_in_nI (show g < 21 by omega) (by decide)) dX5_running_5 ?_
  rw [hcg]
  refine lv_if_eq (tgt := 18) hx hb dX5_running_6 (by decide) (fun c_6 => ?_) (fun c_6 => ?_)
  · refine lv_aload_n hx hb dX5_running_18 rfl (lv_at hl 0 rfl) ?_
    refine sx_get (ci := 5) (C := RX5) (T := TX5) (N := 24) (v := .int (fI μ 8 0 2)) hx hb hts inX5 hown hK (c8_at hI) rfl 2 (by decide) (hts _ w_3_38) rfl rfl dX5_running_19 ?_
    refine lv_istore_n (lv' := [(2, .int (fI μ 8 0 2)), (0, .ref (al 8 0)), (1, .int (nI g))]) hx hb dX5_running_22 rfl hl (by decide) rfl (fun ls hl => ?_)
    refine lv_iload_n hx hb dX5_running_23 rfl (lv_at hl 0 rfl) ?_
    refine lv_aload_n hx hb dX5_running_24 rfl (lv_at hl 1 rfl) ?_
    refine sx_get (ci := 5) (C := RX5) (T := TX5) (N := 24) (v := .ref (al 9 10)) hx hb hts inX5 hown hK (c8_at hI) rfl 13 (by decide) (hts _ w_3_49) rfl rfl dX5_running_25 ?_
    refine lv_iload_n hx hb dX5_running_28 rfl (lv_at hl 2 rfl) ?_
    refine sx_iald hx hb hK (c9_10_at hI) 0 rfl (vp_in_nI (show g < 21 by omega) (by decide)) dX5_running_29 ?_
    rw [hcg]
    refine lv_icmp_gt (tgt := 37) hx hb dX5_running_30 (by decide) (fun c_30 => ?_) (fun c_30 => ?_)
    · refine lv_aload_n hx hb dX5_running_37 rfl (lv_at hl 1 rfl) ?_
      refine sx_get (ci := 5) (C := RX5) (T := TX5) (N := 24) (v := .ref (al 9 1)) hx hb hts inX5 hown hK (c8_at hI) rfl 4 (by decide) (hts _ w_3_40) rfl rfl dX5_running_38 ?_
      refine lv_iload_n hx hb dX5_running_41 rfl (lv_at hl 2 rfl) ?_
      refine sx_lald hx hb hK (c9_1_at hI) 1 rfl (vp_in_nI (show g < 21 by omega) (by decide)) dX5_running_42 ?_
      rw [hcg]
      refine lv_iload_n hx hb dX5_running_43 rfl (lv_at hl 0 rfl) ?_
      refine lv_aload_n hx hb dX5_running_44 rfl (lv_at hl 1 rfl) ?_
      refine sx_get (ci := 5) (C := RX5) (T := TX5) (N := 24) (v := .ref (al 9 10)) hx hb hts inX5 hown hK (c8_at hI) rfl 13 (by decide) (hts _ w_3_49) rfl rfl dX5_running_45 ?_
      refine lv_iload_n hx hb dX5_running_48 rfl (lv_at hl 2 rfl) ?_
      refine sx_iald hx hb hK (c9_10_at hI) 0 rfl (vp_in_nI (show g < 21 by omega) (by decide)) dX5_running_49 ?_
      rw [hcg]
      refine lv_isub hx hb dX5_running_50 ?_
      refine lv_i2l hx hb dX5_running_51 rfl ?_
      refine lv_lmul hx hb dX5_running_52 ?_
      refine lv_aload_n hx hb dX5_running_53 rfl (lv_at hl 1 rfl) ?_
      refine sx_get (ci := 5) (C := RX5) (T := TX5) (N := 24) (v := .ref (al 9 5)) hx hb hts inX5 hown hK (c8_at hI) rfl 8 (by decide) (hts _ w_3_44) rfl rfl dX5_running_54 ?_
      refine lv_iload_n hx hb dX5_running_57 rfl (lv_at hl 2 rfl) ?_
      refine sx_iald hx hb hK (c9_5_at hI) 0 rfl (vp_in_nI (show g < 21 by omega) (by decide)) dX5_running_58 ?_
      rw [hcg]
      refine lv_i2l hx hb dX5_running_59 rfl ?_
      refine lv_lmul hx hb dX5_running_60 ?_
      refine lv_ldc2 (v := 3650000) hx hb hown (hts _ w_3_210) dX5_running_61 ?_
      refine lv_ldiv hx hb dX5_running_64 (by decide) ?_
      exact W.lret (v := (((fL μ 9 1 g) * ((fI μ 8 0 2) - (fI μ 9 10 g)).toInt64) * (fI μ 9 5 g).toInt64) / 3650000) hx hb hr (fun t ht hW => ⟨_, rfl, (by unfold mRun; simp only [if_pos c_6]; rw [if_neg (run_le c_30)]), ht⟩) (fun q h => by cases h) dX5_running_65
    · refine lv_lconst (v := 0) hx hb dX5_running_33 (by decide) ?_
      refine lv_goto (tgt := 65) hx hb dX5_running_34 (by decide) ?_
      exact W.lret (v := 0) hx hb hr (fun t ht hW => ⟨_, rfl, (by unfold mRun; simp only [if_pos c_6]; rw [if_pos (run_le2 c_30)]), ht⟩) (fun q h => by cases h) dX5_running_65
  · refine lv_aload_n hx hb dX5_running_9 rfl (lv_at hl 0 rfl) ?_
    refine sx_get (ci := 5) (C := RX5) (T := TX5) (N := 24) (v := .ref (al 9 7)) hx hb hts inX5 hown hK (c8_at hI) rfl 10 (by decide) (hts _ w_3_46) rfl rfl dX5_running_10 ?_
    refine lv_iload_n hx hb dX5_running_13 rfl (lv_at hl 1 rfl) ?_
    refine sx_iald hx hb hK (c9_7_at hI) 0 rfl (vp_in_nI (show g < 21 by omega) (by decide)) dX5_running_14 ?_
    rw [hcg]
    refine lv_goto (tgt := 22) hx hb dX5_running_15 (by decide) ?_
    refine lv_istore_n (lv' := [(2, .int (fI μ 9 7 g)), (0, .ref (al 8 0)), (1, .int (nI g))]) hx hb dX5_running_22 rfl hl (by decide) rfl (fun ls hl => ?_)
    refine lv_iload_n hx hb dX5_running_23 rfl (lv_at hl 0 rfl) ?_
    refine lv_aload_n hx hb dX5_running_24 rfl (lv_at hl 1 rfl) ?_
    refine sx_get (ci := 5) (C := RX5) (T := TX5) (N := 24) (v := .ref (al 9 10)) hx hb hts inX5 hown hK (c8_at hI) rfl 13 (by decide) (hts _ w_3_49) rfl rfl dX5_running_25 ?_
    refine lv_iload_n hx hb dX5_running_28 rfl (lv_at hl 2 rfl) ?_
    refine sx_iald hx hb hK (c9_10_at hI) 0 rfl (vp_in_nI (show g < 21 by omega) (by decide)) dX5_running_29 ?_
    rw [hcg]
    refine lv_icmp_gt (tgt := 37) hx hb dX5_running_30 (by decide) (fun c_30 => ?_) (fun c_30 => ?_)
    · refine lv_aload_n hx hb dX5_running_37 rfl (lv_at hl 1 rfl) ?_
      refine sx_get (ci := 5) (C := RX5) (T := TX5) (N := 24) (v := .ref (al 9 1)) hx hb hts inX5 hown hK (c8_at hI) rfl 4 (by decide) (hts _ w_3_40) rfl rfl dX5_running_38 ?_
      refine lv_iload_n hx hb dX5_running_41 rfl (lv_at hl 2 rfl) ?_
      refine sx_lald hx hb hK (c9_1_at hI) 1 rfl (vp_in_nI (show g < 21 by omega) (by decide)) dX5_running_42 ?_
      rw [hcg]
      refine lv_iload_n hx hb dX5_running_43 rfl (lv_at hl 0 rfl) ?_
      refine lv_aload_n hx hb dX5_running_44 rfl (lv_at hl 1 rfl) ?_
      refine sx_get (ci := 5) (C := RX5) (T := TX5) (N := 24) (v := .ref (al 9 10)) hx hb hts inX5 hown hK (c8_at hI) rfl 13 (by decide) (hts _ w_3_49) rfl rfl dX5_running_45 ?_
      refine lv_iload_n hx hb dX5_running_48 rfl (lv_at hl 2 rfl) ?_
      refine sx_iald hx hb hK (c9_10_at hI) 0 rfl (vp_in_nI (show g < 21 by omega) (by decide)) dX5_running_49 ?_
      rw [hcg]
      refine lv_isub hx hb dX5_running_50 ?_
      refine lv_i2l hx hb dX5_running_51 rfl ?_
      refine lv_lmul hx hb dX5_running_52 ?_
      refine lv_aload_n hx hb dX5_running_53 rfl (lv_at hl 1 rfl) ?_
      refine sx_get (ci := 5) (C := RX5) (T := TX5) (N := 24) (v := .ref (al 9 5)) hx hb hts inX5 hown hK (c8_at hI) rfl 8 (by decide) (hts _ w_3_44) rfl rfl dX5_running_54 ?_
      refine lv_iload_n hx hb dX5_running_57 rfl (lv_at hl 2 rfl) ?_
      refine sx_iald hx hb hK (c9_5_at hI) 0 rfl (vp_in_nI (show g < 21 by omega) (by decide)) dX5_running_58 ?_
      rw [hcg]
      refine lv_i2l hx hb dX5_running_59 rfl ?_
      refine lv_lmul hx hb dX5_running_60 ?_
      refine lv_ldc2 (v := 3650000) hx hb hown (hts _ w_3_210) dX5_running_61 ?_
      refine lv_ldiv hx hb dX5_running_64 (by decide) ?_
      exact W.lret (v := (((fL μ 9 1 g) * ((fI μ 9 7 g) - (fI μ 9 10 g)).toInt64) * (fI μ 9 5 g).toInt64) / 3650000) hx hb hr (fun t ht hW => ⟨_, rfl, (by unfold mRun; simp only [if_neg c_6]; rw [if_neg (run_le c_30)]), ht⟩) (fun q h => by cases h) dX5_running_65
    · refine lv_lconst (v := 0) hx hb dX5_running_33 (by decide) ?_
      refine lv_goto (tgt := 65) hx hb dX5_running_34 (by decide) ?_
      exact W.lret (v := 0) hx hb hr (fun t ht hW => ⟨_, rfl, (by unfold mRun; simp only [if_neg c_6]; rw [if_pos (run_le2 c_30)]), ht⟩) (fun q h => by cases h) dX5_running_65
end
section
theorem w_3_48 : (Jvm.Cond.fieldLink "GuaranteeBookModel" (39 : Nat) "GuaranteeBookModel" "interest" "[J") ∈ WSall := ws_in (tb3 (List.mem_of_getElem? (i := 48) rfl)) (by decide +kernel)
theorem w_3_54 : (Jvm.Cond.fieldLink "GuaranteeBookModel" (54 : Nat) "GuaranteeBookModel" "how" "[I") ∈ WSall := ws_in (tb3 (List.mem_of_getElem? (i := 54) rfl)) (by decide +kernel)
theorem w_3_58 : (Jvm.Cond.fieldLink "GuaranteeBookModel" (66 : Nat) "GuaranteeBookModel" "desk" "[Z") ∈ WSall := ws_in (tb3 (List.mem_of_getElem? (i := 58) rfl)) (by decide +kernel)
theorem w_3_59 : (Jvm.Cond.fieldLink "GuaranteeBookModel" (69 : Nat) "GuaranteeBookModel" "failures" "[I") ∈ WSall := ws_in (tb3 (List.mem_of_getElem? (i := 59) rfl)) (by decide +kernel)
theorem w_3_118 : (Jvm.Cond.methodLink "GuaranteeBookModel" (84 : Nat) ({ cls := "GuaranteeBookModel", name := "in", desc := "(JJJ)Z" } : Jvm.MethodName)) ∈ WSall := ws_in (tb3 (List.mem_of_getElem? (i := 118) rfl)) (by decide +kernel)
theorem w_3_119 : (Jvm.Cond.static ({ cls := "GuaranteeBookModel", name := "in", desc := "(JJJ)Z" } : Jvm.MethodName)) ∈ WSall := ws_in (tb3 (List.mem_of_getElem? (i := 119) rfl)) (by decide +kernel)
theorem w_3_120 : (Jvm.Cond.code ({ cls := "GuaranteeBookModel", name := "in", desc := "(JJJ)Z" } : Jvm.MethodName) prog_7_method_4_code (6 : Nat) (Option.some Jvm.ClassFile.FieldType.boolean)) ∈ WSall := ws_in (tb3 (List.mem_of_getElem? (i := 120) rfl)) (by decide +kernel)
theorem w_3_126 : (Jvm.Cond.methodLink "GuaranteeBookModel" (96 : Nat) ({ cls := "GuaranteeBookModel", name := "refuse", desc := "(I)I" } : Jvm.MethodName)) ∈ WSall := ws_in (tb3 (List.mem_of_getElem? (i := 126) rfl)) (by decide +kernel)
theorem w_3_128 : (Jvm.Cond.instanceMethod ({ cls := "GuaranteeBookModel", name := "refuse", desc := "(I)I" } : Jvm.MethodName)) ∈ WSall := ws_in (tb3 (List.mem_of_getElem? (i := 128) rfl)) (by decide +kernel)
theorem w_3_129 : (Jvm.Cond.code ({ cls := "GuaranteeBookModel", name := "refuse", desc := "(I)I" } : Jvm.MethodName) prog_7_method_3_code (2 : Nat) (Option.some Jvm.ClassFile.FieldType.int)) ∈ WSall := ws_in (tb3 (List.mem_of_getElem? (i := 129) rfl)) (by decide +kernel)
theorem w_3_138 : (Jvm.Cond.methodLink "GuaranteeBookModel" (103 : Nat) ({ cls := "GuaranteeBookModel", name := "isGuarantee", desc := "(I)Z" } : Jvm.MethodName)) ∈ WSall := ws_in (tb3 (List.mem_of_getElem? (i := 138) rfl)) (by decide +kernel)
theorem w_3_140 : (Jvm.Cond.instanceMethod ({ cls := "GuaranteeBookModel", name := "isGuarantee", desc := "(I)Z" } : Jvm.MethodName)) ∈ WSall := ws_in (tb3 (List.mem_of_getElem? (i := 140) rfl)) (by decide +kernel)
theorem w_3_141 : (Jvm.Cond.code ({ cls := "GuaranteeBookModel", name := "isGuarantee", desc := "(I)Z" } : Jvm.MethodName) prog_7_method_5_code (2 : Nat) (Option.some Jvm.ClassFile.FieldType.boolean)) ∈ WSall := ws_in (tb3 (List.mem_of_getElem? (i := 141) rfl)) (by decide +kernel)
theorem w_3_176 : (Jvm.Cond.constantLong "GuaranteeBookModel" (130 : Nat) (3 : Int64)) ∈ WSall := ws_in (tb3 (List.mem_of_getElem? (i := 176) rfl)) (by decide +kernel)
theorem w_3_186 : (Jvm.Cond.methodLink "GuaranteeBookModel" (138 : Nat) ({ cls := "GuaranteeBookModel", name := "isReservation", desc := "(I)Z" } : Jvm.MethodName)) ∈ WSall := ws_in (tb3 (List.mem_of_getElem? (i := 186) rfl)) (by decide +kernel)
theorem w_3_188 : (Jvm.Cond.instanceMethod ({ cls := "GuaranteeBookModel", name := "isReservation", desc := "(I)Z" } : Jvm.MethodName)) ∈ WSall := ws_in (tb3 (List.mem_of_getElem? (i := 188) rfl)) (by decide +kernel)
theorem w_3_189 : (Jvm.Cond.code ({ cls := "GuaranteeBookModel", name := "isReservation", desc := "(I)Z" } : Jvm.MethodName) prog_7_method_6_code (2 : Nat) (Option.some Jvm.ClassFile.FieldType.boolean)) ∈ WSall := ws_in (tb3 (List.mem_of_getElem? (i := 189) rfl)) (by decide +kernel)
theorem w_3_206 : (Jvm.Cond.methodLink "GuaranteeBookModel" (144 : Nat) ({ cls := "GuaranteeBookModel", name := "running", desc := "(I)J" } : Jvm.MethodName)) ∈ WSall := ws_in (tb3 (List.mem_of_getElem? (i := 206) rfl)) (by decide +kernel)
theorem w_3_208 : (Jvm.Cond.instanceMethod ({ cls := "GuaranteeBookModel", name := "running", desc := "(I)J" } : Jvm.MethodName)) ∈ WSall := ws_in (tb3 (List.mem_of_getElem? (i := 208) rfl)) (by decide +kernel)
theorem w_3_209 : (Jvm.Cond.code ({ cls := "GuaranteeBookModel", name := "running", desc := "(I)J" } : Jvm.MethodName) prog_7_method_24_code (3 : Nat) (Option.some Jvm.ClassFile.FieldType.long)) ∈ WSall := ws_in (tb3 (List.mem_of_getElem? (i := 209) rfl)) (by decide +kernel)
theorem w_3_223 : (Jvm.Cond.constant "GuaranteeBookModel" (153 : Nat) (100000 : Int32)) ∈ WSall := ws_in (tb3 (List.mem_of_getElem? (i := 223) rfl)) (by decide +kernel)
theorem wp_10 : Cond.selects "GuaranteeBookModel" ⟨"GuaranteeBookModel", "refuse", "(I)I"⟩ ⟨"GuaranteeBookModel", "refuse", "(I)I"⟩ ∈ WSall := ws_in (List.mem_append_left _ (by decide +kernel)) (by decide +kernel)
theorem wp_11 : Cond.selects "GuaranteeBookModel" ⟨"GuaranteeBookModel", "isGuarantee", "(I)Z"⟩ ⟨"GuaranteeBookModel", "isGuarantee", "(I)Z"⟩ ∈ WSall := ws_in (List.mem_append_left _ (by decide +kernel)) (by decide +kernel)
theorem wp_19 : Cond.selects "GuaranteeBookModel" ⟨"GuaranteeBookModel", "isReservation", "(I)Z"⟩ ⟨"GuaranteeBookModel", "isReservation", "(I)Z"⟩ ∈ WSall := ws_in (List.mem_append_left _ (by decide +kernel)) (by decide +kernel)
theorem wp_22 : Cond.selects "GuaranteeBookModel" ⟨"GuaranteeBookModel", "running", "(I)J"⟩ ⟨"GuaranteeBookModel", "running", "(I)J"⟩ ∈ WSall := ws_in (List.mem_append_left _ (by decide +kernel)) (by decide +kernel)
end
section
set_option maxHeartbeats 4000000 in
set_option maxRecDepth 100000 in
theorem m_refuse (l : Launch) (D : va_G) (dA : Nat → ClassId) (sa : Nat → Nat) (lo : Nat) (al : Nat → Nat → Nat) (σ μ : CS) (y : Int32) : Met l yX5_refuse wsX5_refuse ({ frames := 0, cells := 0, slots := 0, locals := 0 }) (va_Pc [.ref (al 8 0), .int y] (ivP D dA sa lo al σ μ)) (va_Qi (fun z9 u => (z9, u) = (0, uI μ 8 0 0 y)) (ivM D dA lo al σ) (fun q => lo ≤ q)) 0 0 (fun q => lo ≤ q) := by
  refine Met.ofW (cc := cX5_refuse) (maxL := 2) (ret := some .int) (by decide) rfl ?_
  intro p e s m args below meth c s₁ B hml hv
  obtain ⟨rfl, hI, hwd⟩ := hv
  have hx := B.exec
  have hb := B.bytes
  have hr := B.returns
  have hts : ∀ w ∈ WSall, w.before _ s = true := fun w h => atoms_spec (ws := wsX5_refuse) B.pre w (List.mem_cons_of_mem _ h)
  have hown : s.vm.findClass RX5 = some m.cls := findClass_of_methodNamed B.named
  have hlocks := B.notSynchronized
  have hK := hwd.1
  have hS : va_S (fun q => lo ≤ q) s.heap s.heap [] := va_S.rf
  have hl := lv_entry ([.ref (al 8 0), .int y]) (n := 2) (Nat.le_of_ble_eq_true rfl)
  rw [lg_entry_eq]
  generalize (lg_sl ([.ref (al 8 0), .int y]) ++ List.replicate (2 - (lg_sl ([.ref (al 8 0), .int y])).length) Slot.unset).toArray = ls at hl ⊢
  have hl : lv_has ls 2 [(0, .ref (al 8 0)), (1, .int y)] := hl
  refine lv_aload_n hx hb dX5_refuse_0 rfl (lv_at hl 0 rfl) ?_
  refine lv_iload_n hx hb dX5_refuse_1 rfl (lv_at hl 1 rfl) ?_
  refine sx_put (ci := 5) (v := .int y) (ty := .int) (C := RX5) (T := TX5) (N := 24) hx hb hts inX5 tyX5 okX5 nmX5 hown hK hS (c8_at hI) (c8_lo hI) rfl 0 (by decide) (hts _ w_3_36) rfl rfl (by decide +kernel) rfl rfl (Nat.le_of_ble_eq_true rfl) dX5_refuse_2 (fun H locs hq => ?_)
  have hI := c8_uI (f := 0) (v := y) hI rfl hq
  have hS := hq.2.2.2
  refine lv_iconst (v := 0) hx hb dX5_refuse_5 (by decide) ?_
  exact W.iret (v := 0) hx hb hr (fun t ht hW => ⟨⟨0, uI μ 8 0 0 y, rfl, rfl, iv_giveM ht hI⟩, hS.F ht⟩) hS.2.2 dX5_refuse_6

set_option maxHeartbeats 4000000 in
set_option maxRecDepth 100000 in
theorem m_tick (l : Launch) (D : va_G) (dA : Nat → ClassId) (sa : Nat → Nat) (lo : Nat) (al : Nat → Nat → Nat) (σ μ : CS) (x : Int32) : Met l yX5_tick wsX5_tick ({ frames := 0, cells := 0, slots := 0, locals := 0 }) (va_Pc [.ref (al 8 0), .int x] (ivP D dA sa lo al σ μ)) (va_Qi (fun z9 u => (z9, u) = cTickM μ x) (ivM D dA lo al σ) (fun q => lo ≤ q)) 0 0 (fun q => lo ≤ q) := by
  refine Met.ofW (cc := cX5_tick) (maxL := 2) (ret := some .boolean) (by decide) rfl ?_
  intro p e s m args below meth c s₁ B hml hv
  obtain ⟨rfl, hI, hwd⟩ := hv
  have hx := B.exec
  have hb := B.bytes
  have hr := B.returns
  have hts : ∀ w ∈ WSall, w.before _ s = true := fun w h => atoms_spec (ws := wsX5_tick) B.pre w (List.mem_cons_of_mem _ h)
  have hown : s.vm.findClass RX5 = some m.cls := findClass_of_methodNamed B.named
  have hlocks := B.notSynchronized
  have hK := hwd.1
  have hS : va_S (fun q => lo ≤ q) s.heap s.heap [] := va_S.rf
  have hl := lv_entry ([.ref (al 8 0), .int x]) (n := 2) (Nat.le_of_ble_eq_true rfl)
  rw [lg_entry_eq]
  generalize (lg_sl ([.ref (al 8 0), .int x]) ++ List.replicate (2 - (lg_sl ([.ref (al 8 0), .int x])).length) Slot.unset).toArray = ls at hl ⊢
  have hl : lv_has ls 2 [(0, .ref (al 8 0)), (1, .int x)] := hl
  refine lv_aload_n hx hb dX5_tick_0 rfl (lv_at hl 0 rfl) ?_
  refine lv_iconst (v := 0) hx hb dX5_tick_1 (by decide) ?_
  refine sx_put (ci := 5) (v := .int 0) (ty := .int) (C := RX5) (T := TX5) (N := 24) hx hb hts inX5 tyX5 okX5 nmX5 hown hK hS (c8_at hI) (c8_lo hI) rfl 0 (by decide) (hts _ w_3_36) rfl rfl (by decide +kernel) rfl rfl (Nat.le_of_ble_eq_true rfl) dX5_tick_2 (fun H locs hq => ?_)
  have hI := c8_uI (f := 0) (v := 0) hI rfl hq
  have hS := hq.2.2.2
  refine lv_iload_n hx hb dX5_tick_5 rfl (lv_at hl 1 rfl) ?_
  refine lv_aload_n hx hb dX5_tick_6 rfl (lv_at hl 0 rfl) ?_
  refine sx_get (ci := 5) (C := RX5) (T := TX5) (N := 24) (v := .int (fI μ 8 0 2)) hx hb hts inX5 hown hK (c8_at hI) rfl 2 (by decide) (hts _ w_3_38) rfl rfl dX5_tick_7 ?_
  refine lv_icmp_lt (tgt := 19) hx hb dX5_tick_10 (by decide) (fun c_10 => ?_) (fun c_10 => ?_)
  · refine lv_iconst (v := 0) hx hb dX5_tick_19 (by decide) ?_
    exact W.zret (v := 0) hx hb hr rfl (fun t ht hW => ⟨⟨0, uI μ 8 0 0 0, rfl, (by unfold cTickM; simp only [if_pos c_10]), iv_giveM ht hI⟩, hS.F ht⟩) hS.2.2 dX5_tick_20
  · refine lv_iload_n hx hb dX5_tick_13 rfl (lv_at hl 1 rfl) ?_
    refine lv_ldc (v := 100000) hx hb hown (hts _ w_3_223) dX5_tick_14 ?_
    refine lv_icmp_le (tgt := 21) hx hb dX5_tick_16 (by decide) (fun c_16 => ?_) (fun c_16 => ?_)
    · refine lv_aload_n hx hb dX5_tick_21 rfl (lv_at hl 0 rfl) ?_
      refine lv_iload_n hx hb dX5_tick_22 rfl (lv_at hl 1 rfl) ?_
      refine sx_put (ci := 5) (v := .int x) (ty := .int) (C := RX5) (T := TX5) (N := 24) hx hb hts inX5 tyX5 okX5 nmX5 hown hK hS (c8_at hI) (c8_lo hI) rfl 2 (by decide) (hts _ w_3_38) rfl rfl (by decide +kernel) rfl rfl (Nat.le_of_ble_eq_true rfl) dX5_tick_23 (fun H locs hq => ?_)
      have hI := c8_uI (f := 2) (v := x) hI rfl hq
      have hS := hq.2.2.2
      refine lv_iconst (v := 1) hx hb dX5_tick_26 (by decide) ?_
      exact W.zret (v := 1) hx hb hr rfl (fun t ht hW => ⟨⟨1, uI (uI μ 8 0 0 0) 8 0 2 x, rfl, (by unfold cTickM; simp only [if_neg c_10, if_pos c_16]), iv_giveM ht hI⟩, hS.F ht⟩) hS.2.2 dX5_tick_27
    · refine lv_iconst (v := 0) hx hb dX5_tick_19 (by decide) ?_
      exact W.zret (v := 0) hx hb hr rfl (fun t ht hW => ⟨⟨0, uI μ 8 0 0 0, rfl, (by unfold cTickM; simp only [if_neg c_10, if_neg c_16]), iv_giveM ht hI⟩, hS.F ht⟩) hS.2.2 dX5_tick_20

set_option maxHeartbeats 4000000 in
set_option maxRecDepth 100000 in
theorem m_close (l : Launch) (D : va_G) (dA : Nat → ClassId) (sa : Nat → Nat) (lo : Nat) (al : Nat → Nat → Nat) (σ μ : CS) (x : Int32) (n r : Nat) (hw : WFm μ n r) : Met l yX5_close wsX5_close ({ frames := 1, cells := 0, slots := 0, locals := 30 }) (va_Pc [.ref (al 8 0), .int x] (ivP D dA sa lo al σ μ)) (va_Qi (fun z9 u => (z9, u) = cCloseM μ n x) (ivM D dA lo al σ) (fun q => lo ≤ q)) 0 0 (fun q => lo ≤ q) := by
  refine Met.ofW (cc := cX5_close) (maxL := 2) (ret := some .boolean) (by decide) rfl ?_
  intro p e s m args below meth c s₁ B hml hv
  obtain ⟨rfl, hI, hwd⟩ := hv
  have hx := B.exec
  have hb := B.bytes
  have hr := B.returns
  have hts : ∀ w ∈ WSall, w.before _ s = true := fun w h => atoms_spec (ws := wsX5_close) B.pre w (List.mem_cons_of_mem _ h)
  have hown : s.vm.findClass RX5 = some m.cls := findClass_of_methodNamed B.named
  have hlocks := B.notSynchronized
  have hK := hwd.1
  have hS : va_S (fun q => lo ≤ q) s.heap s.heap [] := va_S.rf
  have hl := lv_entry ([.ref (al 8 0), .int x]) (n := 2) (Nat.le_of_ble_eq_true rfl)
  rw [lg_entry_eq]
  generalize (lg_sl ([.ref (al 8 0), .int x]) ++ List.replicate (2 - (lg_sl ([.ref (al 8 0), .int x])).length) Slot.unset).toArray = ls at hl ⊢
  have hl : lv_has ls 2 [(0, .ref (al 8 0)), (1, .int x)] := hl
  obtain ⟨hn20, hr60, hgn, hrn, hor, hpt, hpr, hdn⟩ := id hw
  refine lv_aload_n hx hb dX5_close_0 rfl (lv_at hl 0 rfl) ?_
  refine lv_iconst (v := 0) hx hb dX5_close_1 (by decide) ?_
  refine sx_put (ci := 5) (v := .int 0) (ty := .int) (C := RX5) (T := TX5) (N := 24) hx hb hts inX5 tyX5 okX5 nmX5 hown hK hS (c8_at hI) (c8_lo hI) rfl 0 (by decide) (hts _ w_3_36) rfl rfl (by decide +kernel) rfl rfl (Nat.le_of_ble_eq_true rfl) dX5_close_2 (fun H locs hq => ?_)
  have hI := c8_uI (f := 0) (v := 0) hI rfl hq
  have hS := hq.2.2.2
  refine lv_aload_n hx hb dX5_close_5 rfl (lv_at hl 0 rfl) ?_
  refine lv_iload_n hx hb dX5_close_6 rfl (lv_at hl 1 rfl) ?_
  refine vp_callSi (W.runV (As := [.int x]) (rest := []) ⟨hx, hb, hml, hown, hts⟩ (m_isGuarantee l D dA sa lo al σ (uI μ 8 0 0 0) x) (cwV 1 hts (gdV w_3_138 w_3_140 wp_11 w_1_3 w_3_141) rfl rfl rfl (by decide +kernel) ⟨Nat.le_of_ble_eq_true rfl, Nat.le_of_ble_eq_true rfl⟩) ⟨iv_bl, sx_recv hK (c8_at hI) rfl, fun U hU hW => ⟨rfl, iv_use hI hwd hS hU hW⟩⟩ rfl rfl hl.1 rfl (lv_room (Nat.le_of_ble_eq_true rfl)) dX5_close_7 ⟨Nat.le_of_ble_eq_true rfl, Nat.le_of_ble_eq_true rfl⟩) (fun r_7 e_7 => ?_)
  subst e_7
  refine lv_if_eq (tgt := 22) hx hb dX5_close_10 (by decide) (fun c_10 => ?_) (fun c_10 => ?_)
  · have c_10 := bp_0.mp c_10
    refine lv_iconst (v := 0) hx hb dX5_close_22 (by decide) ?_
    exact W.zret (v := 0) hx hb hr rfl (fun t ht hW => ⟨⟨0, uI μ 8 0 0 0, rfl, (by unfold cCloseM; rw [pNum_no hgn c_10]), iv_giveM ht hI⟩, hS.F ht⟩) hS.2.2 dX5_close_23
  · have c_10 := bp_n0.mp c_10
    obtain ⟨i, hi, ex, hix⟩ := pNum_ix hgn (by omega) c_10
    have hcx : x.toNatClampNeg = i + 1 := by rw [ex]; exact nI_clamp (by omega)
    have hvx : vp_in x 21 := by rw [ex]; exact vp_in_nI (by omega) (by decide)
    refine lv_aload_n hx hb dX5_close_13 rfl (lv_at hl 0 rfl) ?_
    refine sx_get (ci := 5) (C := RX5) (T := TX5) (N := 24) (v := .ref (al 9 6)) hx hb hts inX5 hown hK (c8_at hI) rfl 9 (by decide) (hts _ w_3_45) rfl rfl dX5_close_14 ?_
    refine lv_iload_n hx hb dX5_close_17 rfl (lv_at hl 1 rfl) ?_
    refine sx_zald hx hb hK (c9_6_at hI) 2 rfl hvx dX5_close_18 ?_
    rw [hcx]
    refine W.eq (g2 := F0 m 19 ls (.int (fI μ 9 6 (i + 1)) :: [])) rfl ?_
    refine lv_if_eq (tgt := 24) hx hb dX5_close_19 (by decide) (fun c_19 => ?_) (fun c_19 => ?_)
    · refine lv_aload_n hx hb dX5_close_24 rfl (lv_at hl 0 rfl) ?_
      refine sx_get (ci := 5) (C := RX5) (T := TX5) (N := 24) (v := .ref (al 9 6)) hx hb hts inX5 hown hK (c8_at hI) rfl 9 (by decide) (hts _ w_3_45) rfl rfl dX5_close_25 ?_
      refine lv_iload_n hx hb dX5_close_28 rfl (lv_at hl 1 rfl) ?_
      refine lv_iconst (v := 1) hx hb dX5_close_29 (by decide) ?_
      refine sx_zast hx hb hK hS (c9_6_at hI) (c9_6_lo hI) 2 rfl hvx dX5_close_30 (fun H locs hq => ?_)
      rw [(show vp_nar .boolean 1 = 1 from rfl)] at hq
      rw [hcx] at hq
      have hI := c9_6_uI (f := i + 1) (v := 1) hI hq
      have hS := hq.2.2.2
      refine lv_aload_n hx hb dX5_close_31 rfl (lv_at hl 0 rfl) ?_
      refine sx_get (ci := 5) (C := RX5) (T := TX5) (N := 24) (v := .ref (al 9 7)) hx hb hts inX5 hown hK (c8_at hI) rfl 10 (by decide) (hts _ w_3_46) rfl rfl dX5_close_32 ?_
      refine lv_iload_n hx hb dX5_close_35 rfl (lv_at hl 1 rfl) ?_
      refine lv_aload_n hx hb dX5_close_36 rfl (lv_at hl 0 rfl) ?_
      refine sx_get (ci := 5) (C := RX5) (T := TX5) (N := 24) (v := .int (fI μ 8 0 2)) hx hb hts inX5 hown hK (c8_at hI) rfl 2 (by decide) (hts _ w_3_38) rfl rfl dX5_close_37 ?_
      refine sx_iast hx hb hK hS (c9_7_at hI) (c9_7_lo hI) 0 rfl hvx dX5_close_40 (fun H locs hq => ?_)
      rw [hcx] at hq
      have hI := c9_7_uI (f := i + 1) (v := fI μ 8 0 2) hI hq
      have hS := hq.2.2.2
      refine lv_iconst (v := 1) hx hb dX5_close_41 (by decide) ?_
      exact W.zret (v := 1) hx hb hr rfl (fun t ht hW => ⟨⟨1, uI (uI (uI μ 8 0 0 0) 9 6 (i + 1) 1) 9 7 (i + 1) (fI μ 8 0 2), rfl, (by unfold cCloseM; rw [hix]; simp only [if_pos c_19]), iv_giveM ht hI⟩, hS.F ht⟩) hS.2.2 dX5_close_42
    · refine lv_iconst (v := 0) hx hb dX5_close_22 (by decide) ?_
      exact W.zret (v := 0) hx hb hr rfl (fun t ht hW => ⟨⟨0, uI μ 8 0 0 0, rfl, (by unfold cCloseM; rw [hix]; simp only [if_neg c_19]), iv_giveM ht hI⟩, hS.F ht⟩) hS.2.2 dX5_close_23

set_option maxHeartbeats 4000000 in
set_option maxRecDepth 100000 in
theorem m_fails (l : Launch) (D : va_G) (dA : Nat → ClassId) (sa : Nat → Nat) (lo : Nat) (al : Nat → Nat → Nat) (σ μ : CS) (x on : Int32) (hon : on = 0 ∨ on = 1) : Met l yX5_fails wsX5_fails ({ frames := 1, cells := 0, slots := 0, locals := 30 }) (va_Pc [.ref (al 8 0), .int x, .int on] (ivP D dA sa lo al σ μ)) (va_Qi (fun z9 u => (z9, u) = cFailsM μ x on) (ivM D dA lo al σ) (fun q => lo ≤ q)) 0 0 (fun q => lo ≤ q) := by
  refine Met.ofW (cc := cX5_fails) (maxL := 3) (ret := some .boolean) (by decide) rfl ?_
  intro p e s m args below meth c s₁ B hml hv
  obtain ⟨rfl, hI, hwd⟩ := hv
  have hx := B.exec
  have hb := B.bytes
  have hr := B.returns
  have hts : ∀ w ∈ WSall, w.before _ s = true := fun w h => atoms_spec (ws := wsX5_fails) B.pre w (List.mem_cons_of_mem _ h)
  have hown : s.vm.findClass RX5 = some m.cls := findClass_of_methodNamed B.named
  have hlocks := B.notSynchronized
  have hK := hwd.1
  have hS : va_S (fun q => lo ≤ q) s.heap s.heap [] := va_S.rf
  have hl := lv_entry ([.ref (al 8 0), .int x, .int on]) (n := 3) (Nat.le_of_ble_eq_true rfl)
  rw [lg_entry_eq]
  generalize (lg_sl ([.ref (al 8 0), .int x, .int on]) ++ List.replicate (3 - (lg_sl ([.ref (al 8 0), .int x, .int on])).length) Slot.unset).toArray = ls at hl ⊢
  have hl : lv_has ls 3 [(0, .ref (al 8 0)), (1, .int x), (2, .int on)] := hl
  refine lv_aload_n hx hb dX5_fails_0 rfl (lv_at hl 0 rfl) ?_
  refine lv_iconst (v := 0) hx hb dX5_fails_1 (by decide) ?_
  refine sx_put (ci := 5) (v := .int 0) (ty := .int) (C := RX5) (T := TX5) (N := 24) hx hb hts inX5 tyX5 okX5 nmX5 hown hK hS (c8_at hI) (c8_lo hI) rfl 0 (by decide) (hts _ w_3_36) rfl rfl (by decide +kernel) rfl rfl (Nat.le_of_ble_eq_true rfl) dX5_fails_2 (fun H locs hq => ?_)
  have hI := c8_uI (f := 0) (v := 0) hI rfl hq
  have hS := hq.2.2.2
  refine lv_iload_n hx hb dX5_fails_5 rfl (lv_at hl 1 rfl) ?_
  refine lv_i2l hx hb dX5_fails_6 rfl ?_
  refine lv_lconst (v := 0) hx hb dX5_fails_7 (by decide) ?_
  refine lv_ldc2 (v := 3) hx hb hown (hts _ w_3_176) dX5_fails_8 ?_
  refine vp_callSi (W.runS (As := [.long x.toInt64, .long 0, .long 3]) (rest := []) ⟨hx, hb, hml, hown, hts⟩ (m_in l D dA sa lo al σ (uI μ 8 0 0 0) x.toInt64 0 3) (cwS 3 hts (gdS w_3_118 w_3_119 w_1_3 w_3_120) rfl rfl rfl (by decide +kernel) ⟨Nat.le_of_ble_eq_true rfl, Nat.le_of_ble_eq_true rfl⟩) ⟨iv_bl, fun U hU hW => ⟨rfl, iv_use hI hwd hS hU hW⟩⟩ rfl rfl hl.1 rfl (lv_room (Nat.le_of_ble_eq_true rfl)) dX5_fails_11 ⟨Nat.le_of_ble_eq_true rfl, Nat.le_of_ble_eq_true rfl⟩) (fun r_11 e_11 => ?_)
  subst e_11
  refine lv_if_eq (tgt := 27) hx hb dX5_fails_14 (by decide) (fun c_14 => ?_) (fun c_14 => ?_)
  · have c_14 := bp_0.mp c_14
    refine lv_iconst (v := 0) hx hb dX5_fails_27 (by decide) ?_
    exact W.zret (v := 0) hx hb hr rfl (fun t ht hW => ⟨⟨0, uI μ 8 0 0 0, rfl, (by unfold cFailsM; rw [if_neg c_14]), iv_giveM ht hI⟩, hS.F ht⟩) hS.2.2 dX5_fails_28
  · have c_14 := bp_n0.mp c_14
    have hvx : vp_in x 4 := in3_vp c_14
    refine lv_aload_n hx hb dX5_fails_17 rfl (lv_at hl 0 rfl) ?_
    refine sx_get (ci := 5) (C := RX5) (T := TX5) (N := 24) (v := .ref (al 9 18)) hx hb hts inX5 hown hK (c8_at hI) rfl 22 (by decide) (hts _ w_3_58) rfl rfl dX5_fails_18 ?_
    refine lv_iload_n hx hb dX5_fails_21 rfl (lv_at hl 1 rfl) ?_
    refine sx_zald hx hb hK (c9_18_at hI) 2 rfl hvx dX5_fails_22 ?_
    refine W.eq (g2 := F0 m 23 ls (.int (fI μ 9 18 x.toNatClampNeg) :: [])) rfl ?_
    refine lv_iload_n hx hb dX5_fails_23 rfl (lv_at hl 2 rfl) ?_
    refine lv_icmp_ne (tgt := 29) hx hb dX5_fails_24 (by decide) (fun c_24 => ?_) (fun c_24 => ?_)
    · refine lv_aload_n hx hb dX5_fails_29 rfl (lv_at hl 0 rfl) ?_
      refine sx_get (ci := 5) (C := RX5) (T := TX5) (N := 24) (v := .ref (al 9 18)) hx hb hts inX5 hown hK (c8_at hI) rfl 22 (by decide) (hts _ w_3_58) rfl rfl dX5_fails_30 ?_
      refine lv_iload_n hx hb dX5_fails_33 rfl (lv_at hl 1 rfl) ?_
      refine lv_iload_n hx hb dX5_fails_34 rfl (lv_at hl 2 rfl) ?_
      refine sx_zast hx hb hK hS (c9_18_at hI) (c9_18_lo hI) 2 rfl hvx dX5_fails_35 (fun H locs hq => ?_)
      rw [(show vp_nar .boolean on = on by rcases hon with rfl | rfl <;> rfl)] at hq
      have hI := c9_18_uI (f := x.toNatClampNeg) (v := on) hI hq
      have hS := hq.2.2.2
      refine lv_iconst (v := 1) hx hb dX5_fails_36 (by decide) ?_
      exact W.zret (v := 1) hx hb hr rfl (fun t ht hW => ⟨⟨1, uI (uI μ 8 0 0 0) 9 18 x.toNatClampNeg on, rfl, (by unfold cFailsM; rw [if_pos c_14, if_neg c_24]), iv_giveM ht hI⟩, hS.F ht⟩) hS.2.2 dX5_fails_37
    · refine lv_iconst (v := 0) hx hb dX5_fails_27 (by decide) ?_
      exact W.zret (v := 0) hx hb hr rfl (fun t ht hW => ⟨⟨0, uI μ 8 0 0 0, rfl, (by unfold cFailsM; rw [if_pos c_14, if_pos c_24]), iv_giveM ht hI⟩, hS.F ht⟩) hS.2.2 dX5_fails_28

set_option maxHeartbeats 4000000 in
set_option maxRecDepth 100000 in
theorem m_interest (l : Launch) (D : va_G) (dA : Nat → ClassId) (sa : Nat → Nat) (lo : Nat) (al : Nat → Nat → Nat) (σ μ : CS) (x : Int32) (n r : Nat) (hw : WFm μ n r) : Met l yX5_interest wsX5_interest ({ frames := 1, cells := 0, slots := 0, locals := 30 }) (va_Pc [.ref (al 8 0), .int x] (ivP D dA sa lo al σ μ)) (va_Ql (fun z9 u => (z9, u) = cInterestM μ n x) (ivM D dA lo al σ) (fun q => lo ≤ q)) 0 0 (fun q => lo ≤ q) := by
  refine Met.ofW (cc := cX5_interest) (maxL := 2) (ret := some .long) (by decide) rfl ?_
  intro p e s m args below meth c s₁ B hml hv
  obtain ⟨rfl, hI, hwd⟩ := hv
  have hx := B.exec
  have hb := B.bytes
  have hr := B.returns
  have hts : ∀ w ∈ WSall, w.before _ s = true := fun w h => atoms_spec (ws := wsX5_interest) B.pre w (List.mem_cons_of_mem _ h)
  have hown : s.vm.findClass RX5 = some m.cls := findClass_of_methodNamed B.named
  have hlocks := B.notSynchronized
  have hK := hwd.1
  have hS : va_S (fun q => lo ≤ q) s.heap s.heap [] := va_S.rf
  have hl := lv_entry ([.ref (al 8 0), .int x]) (n := 2) (Nat.le_of_ble_eq_true rfl)
  rw [lg_entry_eq]
  generalize (lg_sl ([.ref (al 8 0), .int x]) ++ List.replicate (2 - (lg_sl ([.ref (al 8 0), .int x])).length) Slot.unset).toArray = ls at hl ⊢
  have hl : lv_has ls 2 [(0, .ref (al 8 0)), (1, .int x)] := hl
  obtain ⟨hn20, hr60, hgn, hrn, hor, hpt, hpr, hdn⟩ := id hw
  refine lv_aload_n hx hb dX5_interest_0 rfl (lv_at hl 0 rfl) ?_
  refine lv_iload_n hx hb dX5_interest_1 rfl (lv_at hl 1 rfl) ?_
  refine vp_callSi (W.runV (As := [.int x]) (rest := []) ⟨hx, hb, hml, hown, hts⟩ (m_isGuarantee l D dA sa lo al σ μ x) (cwV 1 hts (gdV w_3_138 w_3_140 wp_11 w_1_3 w_3_141) rfl rfl rfl (by decide +kernel) ⟨Nat.le_of_ble_eq_true rfl, Nat.le_of_ble_eq_true rfl⟩) ⟨iv_bl, sx_recv hK (c8_at hI) rfl, fun U hU hW => ⟨rfl, iv_use hI hwd hS hU hW⟩⟩ rfl rfl hl.1 rfl (lv_room (Nat.le_of_ble_eq_true rfl)) dX5_interest_2 ⟨Nat.le_of_ble_eq_true rfl, Nat.le_of_ble_eq_true rfl⟩) (fun r_2 e_2 => ?_)
  subst e_2
  refine lv_if_ne (tgt := 15) hx hb dX5_interest_5 (by decide) (fun c_5 => ?_) (fun c_5 => ?_)
  · have c_5 := bp_n0.mp c_5
    obtain ⟨i, hi, ex, hix⟩ := pNum_ix hgn (by omega) c_5
    have hcx : x.toNatClampNeg = i + 1 := by rw [ex]; exact nI_clamp (by omega)
    have hvx : vp_in x 21 := by rw [ex]; exact vp_in_nI (by omega) (by decide)
    refine lv_aload_n hx hb dX5_interest_15 rfl (lv_at hl 0 rfl) ?_
    refine lv_iconst (v := 0) hx hb dX5_interest_16 (by decide) ?_
    refine sx_put (ci := 5) (v := .int 0) (ty := .int) (C := RX5) (T := TX5) (N := 24) hx hb hts inX5 tyX5 okX5 nmX5 hown hK hS (c8_at hI) (c8_lo hI) rfl 0 (by decide) (hts _ w_3_36) rfl rfl (by decide +kernel) rfl rfl (Nat.le_of_ble_eq_true rfl) dX5_interest_17 (fun H locs hq => ?_)
    have hI := c8_uI (f := 0) (v := 0) hI rfl hq
    have hS := hq.2.2.2
    refine lv_aload_n hx hb dX5_interest_20 rfl (lv_at hl 0 rfl) ?_
    refine sx_get (ci := 5) (C := RX5) (T := TX5) (N := 24) (v := .ref (al 9 9)) hx hb hts inX5 hown hK (c8_at hI) rfl 12 (by decide) (hts _ w_3_48) rfl rfl dX5_interest_21 ?_
    refine lv_iload_n hx hb dX5_interest_24 rfl (lv_at hl 1 rfl) ?_
    refine sx_lald hx hb hK (c9_9_at hI) 1 rfl hvx dX5_interest_25 ?_
    rw [hcx]
    refine W.eq (g2 := F0 m 26 ls (.long (fL μ 9 9 (i + 1)) :: [])) rfl ?_
    refine lv_aload_n hx hb dX5_interest_26 rfl (lv_at hl 0 rfl) ?_
    refine lv_iload_n hx hb dX5_interest_27 rfl (lv_at hl 1 rfl) ?_
    refine W.eq (g2 := F0 m 28 ls (.int (nI (i + 1)) :: [.ref (al 8 0), .long (fL μ 9 9 (i + 1))])) (by rw [ex]) ?_
    refine vp_callSl (W.runV (As := [.int (nI (i + 1))]) (rest := [.long (fL μ 9 9 (i + 1))]) ⟨hx, hb, hml, hown, hts⟩ (m_running l D dA sa lo al σ (uI μ 8 0 0 0) (i + 1) (by omega)) (cwV 1 hts (gdV w_3_206 w_3_208 wp_22 w_1_3 w_3_209) rfl rfl rfl (by decide +kernel) ⟨Nat.le_of_ble_eq_true rfl, Nat.le_of_ble_eq_true rfl⟩) ⟨iv_bl, sx_recv hK (c8_at hI) rfl, fun U hU hW => ⟨rfl, iv_use hI hwd hS hU hW⟩⟩ rfl rfl hl.1 rfl (lv_room (Nat.le_of_ble_eq_true rfl)) dX5_interest_28 ⟨Nat.le_of_ble_eq_true rfl, Nat.le_of_ble_eq_true rfl⟩) (fun r_28 e_28 => ?_)
    subst e_28
    refine lv_ladd hx hb dX5_interest_31 ?_
    exact W.lret (v := (fL μ 9 9 (i + 1)) + (mRun (uI μ 8 0 0 0) (i + 1))) hx hb hr (fun t ht hW => ⟨⟨(fL μ 9 9 (i + 1)) + (mRun (uI μ 8 0 0 0) (i + 1)), uI μ 8 0 0 0, rfl, (by unfold cInterestM; rw [hix]), iv_giveM ht hI⟩, hS.F ht⟩) hS.2.2 dX5_interest_32
  · have c_5 := bp_0.mp c_5
    refine lv_aload_n hx hb dX5_interest_8 rfl (lv_at hl 0 rfl) ?_
    refine lv_iconst (v := 1) hx hb dX5_interest_9 (by decide) ?_
    refine va_calli (va_runV (As := [.int 1]) (rest := []) ⟨hx, hb, hml, hown, hts⟩ (m_refuse l D dA sa lo al σ μ 1) (cwV 1 hts (gdV w_3_126 w_3_128 wp_10 w_1_3 w_3_129) rfl rfl rfl (by decide +kernel) ⟨Nat.le_of_ble_eq_true rfl, Nat.le_of_ble_eq_true rfl⟩) ⟨iv_bl, sx_recv hK (c8_at hI) rfl, fun U hU hW => ⟨rfl, iv_use hI hwd hS hU hW⟩⟩ rfl rfl hl.1 rfl (lv_room (Nat.le_of_ble_eq_true rfl)) dX5_interest_10 ⟨Nat.le_of_ble_eq_true rfl, Nat.le_of_ble_eq_true rfl⟩) hS (fun q _ h => h) (fun q h => h) (fun r_10 u9 T9 H1 locs ht9 hvm9 e_10 hB9 hz9 hk9 hS => ?_)
    have hI := iv_takeM ht9 hB9
    clear hB9 hk9
    obtain ⟨rfl, rfl⟩ := e_10
    refine lv_i2l hx hb dX5_interest_13 rfl ?_
    exact W.lret (v := (0 : Int32).toInt64) hx hb hr (fun t ht hW => ⟨⟨(0 : Int32).toInt64, uI μ 8 0 0 1, rfl, (by unfold cInterestM; rw [pNum_no hgn c_5] <;> rfl), iv_giveM ht hI⟩, hS.F ht⟩) hS.2.2 dX5_interest_14

set_option maxHeartbeats 4000000 in
set_option maxRecDepth 100000 in
theorem m_end (l : Launch) (D : va_G) (dA : Nat → ClassId) (sa : Nat → Nat) (lo : Nat) (al : Nat → Nat → Nat) (σ μ : CS) (x how : Int32) (n r : Nat) (hw : WFm μ n r) : Met l yX5_end wsX5_end ({ frames := 1, cells := 0, slots := 0, locals := 30 }) (va_Pc [.ref (al 8 0), .int x, .int how] (ivP D dA sa lo al σ μ)) (va_Qi (fun z9 u => (z9, u) = cEndM μ r x how) (ivM D dA lo al σ) (fun q => lo ≤ q)) 0 0 (fun q => lo ≤ q) := by
  refine Met.ofW (cc := cX5_end) (maxL := 3) (ret := some .int) (by decide) rfl ?_
  intro p e s m args below meth c s₁ B hml hv
  obtain ⟨rfl, hI, hwd⟩ := hv
  have hx := B.exec
  have hb := B.bytes
  have hr := B.returns
  have hts : ∀ w ∈ WSall, w.before _ s = true := fun w h => atoms_spec (ws := wsX5_end) B.pre w (List.mem_cons_of_mem _ h)
  have hown : s.vm.findClass RX5 = some m.cls := findClass_of_methodNamed B.named
  have hlocks := B.notSynchronized
  have hK := hwd.1
  have hS : va_S (fun q => lo ≤ q) s.heap s.heap [] := va_S.rf
  have hl := lv_entry ([.ref (al 8 0), .int x, .int how]) (n := 3) (Nat.le_of_ble_eq_true rfl)
  rw [lg_entry_eq]
  generalize (lg_sl ([.ref (al 8 0), .int x, .int how]) ++ List.replicate (3 - (lg_sl ([.ref (al 8 0), .int x, .int how])).length) Slot.unset).toArray = ls at hl ⊢
  have hl : lv_has ls 3 [(0, .ref (al 8 0)), (1, .int x), (2, .int how)] := hl
  obtain ⟨hn20, hr60, hgn, hrn, hor, hpt, hpr, hdn⟩ := id hw
  refine lv_aload_n hx hb dX5_end_0 rfl (lv_at hl 0 rfl) ?_
  refine lv_iload_n hx hb dX5_end_1 rfl (lv_at hl 1 rfl) ?_
  refine vp_callSi (W.runV (As := [.int x]) (rest := []) ⟨hx, hb, hml, hown, hts⟩ (m_isReservation l D dA sa lo al σ μ x) (cwV 1 hts (gdV w_3_186 w_3_188 wp_19 w_1_3 w_3_189) rfl rfl rfl (by decide +kernel) ⟨Nat.le_of_ble_eq_true rfl, Nat.le_of_ble_eq_true rfl⟩) ⟨iv_bl, sx_recv hK (c8_at hI) rfl, fun U hU hW => ⟨rfl, iv_use hI hwd hS hU hW⟩⟩ rfl rfl hl.1 rfl (lv_room (Nat.le_of_ble_eq_true rfl)) dX5_end_2 ⟨Nat.le_of_ble_eq_true rfl, Nat.le_of_ble_eq_true rfl⟩) (fun r_2 e_2 => ?_)
  subst e_2
  refine lv_if_eq (tgt := 18) hx hb dX5_end_5 (by decide) (fun c_5 => ?_) (fun c_5 => ?_)
  · have c_5 := bp_0.mp c_5
    refine lv_aload_n hx hb dX5_end_18 rfl (lv_at hl 0 rfl) ?_
    refine lv_iconst (v := 1) hx hb dX5_end_19 (by decide) ?_
    refine va_calli (va_runV (As := [.int 1]) (rest := []) ⟨hx, hb, hml, hown, hts⟩ (m_refuse l D dA sa lo al σ μ 1) (cwV 1 hts (gdV w_3_126 w_3_128 wp_10 w_1_3 w_3_129) rfl rfl rfl (by decide +kernel) ⟨Nat.le_of_ble_eq_true rfl, Nat.le_of_ble_eq_true rfl⟩) ⟨iv_bl, sx_recv hK (c8_at hI) rfl, fun U hU hW => ⟨rfl, iv_use hI hwd hS hU hW⟩⟩ rfl rfl hl.1 rfl (lv_room (Nat.le_of_ble_eq_true rfl)) dX5_end_20 ⟨Nat.le_of_ble_eq_true rfl, Nat.le_of_ble_eq_true rfl⟩) hS (fun q _ h => h) (fun q h => h) (fun r_20 u9 T9 H1 locs ht9 hvm9 e_20 hB9 hz9 hk9 hS => ?_)
    have hI := iv_takeM ht9 hB9
    clear hB9 hk9
    obtain ⟨rfl, rfl⟩ := e_20
    exact W.iret (v := 0) hx hb hr (fun t ht hW => ⟨⟨0, uI μ 8 0 0 1, rfl, (by unfold cEndM; rw [pNum_no hrn c_5] <;> rfl), iv_giveM ht hI⟩, hS.F ht⟩) hS.2.2 dX5_end_23
  · have c_5 := bp_n0.mp c_5
    obtain ⟨i, hi, ex, hix⟩ := pNum_ix hrn (by omega) c_5
    have hcx : x.toNatClampNeg = i + 1 := by rw [ex]; exact nI_clamp (by omega)
    have hvx : vp_in x 61 := by rw [ex]; exact vp_in_nI (by omega) (by decide)
    refine lv_iload_n hx hb dX5_end_8 rfl (lv_at hl 2 rfl) ?_
    refine lv_iconst (v := 1) hx hb dX5_end_9 (by decide) ?_
    refine lv_icmp_lt (tgt := 18) hx hb dX5_end_10 (by decide) (fun c_10 => ?_) (fun c_10 => ?_)
    · refine lv_aload_n hx hb dX5_end_18 rfl (lv_at hl 0 rfl) ?_
      refine lv_iconst (v := 1) hx hb dX5_end_19 (by decide) ?_
      refine va_calli (va_runV (As := [.int 1]) (rest := []) ⟨hx, hb, hml, hown, hts⟩ (m_refuse l D dA sa lo al σ μ 1) (cwV 1 hts (gdV w_3_126 w_3_128 wp_10 w_1_3 w_3_129) rfl rfl rfl (by decide +kernel) ⟨Nat.le_of_ble_eq_true rfl, Nat.le_of_ble_eq_true rfl⟩) ⟨iv_bl, sx_recv hK (c8_at hI) rfl, fun U hU hW => ⟨rfl, iv_use hI hwd hS hU hW⟩⟩ rfl rfl hl.1 rfl (lv_room (Nat.le_of_ble_eq_true rfl)) dX5_end_20 ⟨Nat.le_of_ble_eq_true rfl, Nat.le_of_ble_eq_true rfl⟩) hS (fun q _ h => h) (fun q h => h) (fun r_20 u9 T9 H1 locs ht9 hvm9 e_20 hB9 hz9 hk9 hS => ?_)
      have hI := iv_takeM ht9 hB9
      clear hB9 hk9
      obtain ⟨rfl, rfl⟩ := e_20
      exact W.iret (v := 0) hx hb hr (fun t ht hW => ⟨⟨0, uI μ 8 0 0 1, rfl, (by unfold cEndM; rw [hix]; simp only [if_pos c_10] <;> rfl), iv_giveM ht hI⟩, hS.F ht⟩) hS.2.2 dX5_end_23
    · refine lv_iload_n hx hb dX5_end_13 rfl (lv_at hl 2 rfl) ?_
      refine lv_iconst (v := 2) hx hb dX5_end_14 (by decide) ?_
      refine lv_icmp_le (tgt := 24) hx hb dX5_end_15 (by decide) (fun c_15 => ?_) (fun c_15 => ?_)
      · refine lv_aload_n hx hb dX5_end_24 rfl (lv_at hl 0 rfl) ?_
        refine lv_iconst (v := 0) hx hb dX5_end_25 (by decide) ?_
        refine sx_put (ci := 5) (v := .int 0) (ty := .int) (C := RX5) (T := TX5) (N := 24) hx hb hts inX5 tyX5 okX5 nmX5 hown hK hS (c8_at hI) (c8_lo hI) rfl 0 (by decide) (hts _ w_3_36) rfl rfl (by decide +kernel) rfl rfl (Nat.le_of_ble_eq_true rfl) dX5_end_26 (fun H locs hq => ?_)
        have hI := c8_uI (f := 0) (v := 0) hI rfl hq
        have hS := hq.2.2.2
        refine lv_aload_n hx hb dX5_end_29 rfl (lv_at hl 0 rfl) ?_
        refine sx_get (ci := 5) (C := RX5) (T := TX5) (N := 24) (v := .ref (al 9 14)) hx hb hts inX5 hown hK (c8_at hI) rfl 18 (by decide) (hts _ w_3_54) rfl rfl dX5_end_30 ?_
        refine lv_iload_n hx hb dX5_end_33 rfl (lv_at hl 1 rfl) ?_
        refine sx_iald hx hb hK (c9_14_at hI) 0 rfl hvx dX5_end_34 ?_
        rw [hcx]
        refine W.eq (g2 := F0 m 35 ls (.int (fI μ 9 14 (i + 1)) :: [])) rfl ?_
        refine lv_if_le (tgt := 40) hx hb dX5_end_35 (by decide) (fun c_35 => ?_) (fun c_35 => ?_)
        · refine lv_aload_n hx hb dX5_end_40 rfl (lv_at hl 0 rfl) ?_
          refine sx_get (ci := 5) (C := RX5) (T := TX5) (N := 24) (v := .ref (al 9 14)) hx hb hts inX5 hown hK (c8_at hI) rfl 18 (by decide) (hts _ w_3_54) rfl rfl dX5_end_41 ?_
          refine lv_iload_n hx hb dX5_end_44 rfl (lv_at hl 1 rfl) ?_
          refine lv_iload_n hx hb dX5_end_45 rfl (lv_at hl 2 rfl) ?_
          refine sx_iast hx hb hK hS (c9_14_at hI) (c9_14_lo hI) 0 rfl hvx dX5_end_46 (fun H locs hq => ?_)
          rw [hcx] at hq
          have hI := c9_14_uI (f := i + 1) (v := how) hI hq
          have hS := hq.2.2.2
          refine lv_aload_n hx hb dX5_end_47 rfl (lv_at hl 0 rfl) ?_
          refine sx_get (ci := 5) (C := RX5) (T := TX5) (N := 24) (v := .ref (al 9 15)) hx hb hts inX5 hown hK (c8_at hI) rfl 19 (by decide) (hts _ w_3_55) rfl rfl dX5_end_48 ?_
          refine lv_iload_n hx hb dX5_end_51 rfl (lv_at hl 1 rfl) ?_
          refine lv_iconst (v := 0) hx hb dX5_end_52 (by decide) ?_
          refine sx_iast hx hb hK hS (c9_15_at hI) (c9_15_lo hI) 0 rfl hvx dX5_end_53 (fun H locs hq => ?_)
          rw [hcx] at hq
          have hI := c9_15_uI (f := i + 1) (v := 0) hI hq
          have hS := hq.2.2.2
          refine lv_iconst (v := 1) hx hb dX5_end_54 (by decide) ?_
          exact W.iret (v := 1) hx hb hr (fun t ht hW => ⟨⟨1, uI (uI (uI μ 8 0 0 0) 9 14 (i + 1) how) 9 15 (i + 1) 0, rfl, (by unfold cEndM; rw [hix]; simp only [if_neg c_10, if_pos c_15, if_pos c_35] <;> rfl), iv_giveM ht hI⟩, hS.F ht⟩) hS.2.2 dX5_end_55
        · refine lv_iconst (v := 0) hx hb dX5_end_38 (by decide) ?_
          exact W.iret (v := 0) hx hb hr (fun t ht hW => ⟨⟨0, uI μ 8 0 0 0, rfl, (by unfold cEndM; rw [hix]; simp only [if_neg c_10, if_pos c_15, if_neg c_35] <;> rfl), iv_giveM ht hI⟩, hS.F ht⟩) hS.2.2 dX5_end_39
      · refine lv_aload_n hx hb dX5_end_18 rfl (lv_at hl 0 rfl) ?_
        refine lv_iconst (v := 1) hx hb dX5_end_19 (by decide) ?_
        refine va_calli (va_runV (As := [.int 1]) (rest := []) ⟨hx, hb, hml, hown, hts⟩ (m_refuse l D dA sa lo al σ μ 1) (cwV 1 hts (gdV w_3_126 w_3_128 wp_10 w_1_3 w_3_129) rfl rfl rfl (by decide +kernel) ⟨Nat.le_of_ble_eq_true rfl, Nat.le_of_ble_eq_true rfl⟩) ⟨iv_bl, sx_recv hK (c8_at hI) rfl, fun U hU hW => ⟨rfl, iv_use hI hwd hS hU hW⟩⟩ rfl rfl hl.1 rfl (lv_room (Nat.le_of_ble_eq_true rfl)) dX5_end_20 ⟨Nat.le_of_ble_eq_true rfl, Nat.le_of_ble_eq_true rfl⟩) hS (fun q _ h => h) (fun q h => h) (fun r_20 u9 T9 H1 locs ht9 hvm9 e_20 hB9 hz9 hk9 hS => ?_)
        have hI := iv_takeM ht9 hB9
        clear hB9 hk9
        obtain ⟨rfl, rfl⟩ := e_20
        exact W.iret (v := 0) hx hb hr (fun t ht hW => ⟨⟨0, uI μ 8 0 0 1, rfl, (by unfold cEndM; rw [hix]; simp only [if_neg c_10, if_neg c_15] <;> rfl), iv_giveM ht hI⟩, hS.F ht⟩) hS.2.2 dX5_end_23

set_option maxHeartbeats 4000000 in
set_option maxRecDepth 100000 in
theorem m_count (l : Launch) (D : va_G) (dA : Nat → ClassId) (sa : Nat → Nat) (lo : Nat) (al : Nat → Nat → Nat) (σ μ : CS) (x : Int32) (n r : Nat) (hw : WFm μ n r) : Met l yX5_count wsX5_count ({ frames := 0, cells := 0, slots := 0, locals := 0 }) (va_Pc [.ref (al 8 0), .int x] (ivP D dA sa lo al σ μ)) (va_Qi (fun z9 u => (z9, u) = (cCountM μ r x, uI μ 8 0 0 0)) (ivM D dA lo al σ) (fun q => lo ≤ q)) 0 0 (fun q => lo ≤ q) := by
  refine Met.ofW (cc := cX5_count) (maxL := 4) (ret := some .int) (by decide) rfl ?_
  intro p e s m args below meth c s₁ B hml hv
  obtain ⟨rfl, hI, hwd⟩ := hv
  have hx := B.exec
  have hb := B.bytes
  have hr := B.returns
  have hts : ∀ w ∈ WSall, w.before _ s = true := fun w h => atoms_spec (ws := wsX5_count) B.pre w (List.mem_cons_of_mem _ h)
  have hown : s.vm.findClass RX5 = some m.cls := findClass_of_methodNamed B.named
  have hlocks := B.notSynchronized
  have hK := hwd.1
  have hS : va_S (fun q => lo ≤ q) s.heap s.heap [] := va_S.rf
  have hl := lv_entry ([.ref (al 8 0), .int x]) (n := 4) (Nat.le_of_ble_eq_true rfl)
  rw [lg_entry_eq]
  generalize (lg_sl ([.ref (al 8 0), .int x]) ++ List.replicate (4 - (lg_sl ([.ref (al 8 0), .int x])).length) Slot.unset).toArray = ls at hl ⊢
  have hl : lv_has ls 4 [(0, .ref (al 8 0)), (1, .int x)] := hl
  obtain ⟨hn20, hr60, hgn, hrn, hor, hpt, hpr, hdn⟩ := id hw
  refine lv_aload_n hx hb dX5_count_0 rfl (lv_at hl 0 rfl) ?_
  refine lv_iconst (v := 0) hx hb dX5_count_1 (by decide) ?_
  refine sx_put (ci := 5) (v := .int 0) (ty := .int) (C := RX5) (T := TX5) (N := 24) hx hb hts inX5 tyX5 okX5 nmX5 hown hK hS (c8_at hI) (c8_lo hI) rfl 0 (by decide) (hts _ w_3_36) rfl rfl (by decide +kernel) rfl rfl (Nat.le_of_ble_eq_true rfl) dX5_count_2 (fun H locs hq => ?_)
  have hI := c8_uI (f := 0) (v := 0) hI rfl hq
  have hS := hq.2.2.2
  refine lv_iconst (v := 0) hx hb dX5_count_5 (by decide) ?_
  refine lv_istore_n (lv' := [(2, .int 0), (0, .ref (al 8 0)), (1, .int x)]) hx hb dX5_count_6 rfl hl (by decide) rfl (fun ls hl => ?_)
  refine lv_iconst (v := 1) hx hb dX5_count_7 (by decide) ?_
  refine lv_istore_n (lv' := [(3, .int 1), (2, .int 0), (0, .ref (al 8 0)), (1, .int x)]) hx hb dX5_count_8 rfl hl (by decide) rfl (fun ls hl => ?_)
  refine w_loopP (hd := 9) (stk := []) (X := Nat) (fun j => r - j) (fun j ls => (j ≤ r) ∧ lv_has ls 4 [(3, .int (nI (j + 1))), (2, .int (mLive μ j)), (1, .int x), (0, .ref (al 8 0))]) (fun j ls hk ih_9 => ?_) 0 ls ⟨Nat.zero_le _, (by have h9 := lv_sub hl [0, 1, 3, 2] rfl; rw [show (1 : Int32) = nI (0 + 1) from rfl] at h9; exact h9)⟩
  obtain ⟨hk, hl⟩ := hk
  have hl : lv_has ls 4 [(3, .int (nI (j + 1))), (2, .int (mLive μ j)), (1, .int x), (0, .ref (al 8 0))] := hl
  refine lv_iload_n hx hb dX5_count_9 rfl (lv_at hl 0 rfl) ?_
  refine lv_aload_n hx hb dX5_count_10 rfl (lv_at hl 3 rfl) ?_
  refine sx_get (ci := 5) (C := RX5) (T := TX5) (N := 24) (v := .int (fI μ 8 0 15)) hx hb hts inX5 hown hK (c8_at hI) rfl 15 (by decide) (hts _ w_3_51) rfl rfl dX5_count_11 ?_
  refine lv_icmp_gt (tgt := 40) hx hb dX5_count_14 (by decide) (fun c_14 => ?_) (fun c_14 => ?_)
  · have hj9 := gt_end hrn c_14 hk (by omega)
    subst hj9
    refine lv_iload_n hx hb dX5_count_40 rfl (lv_at hl 2 rfl) ?_
    refine lv_bipush (v := 10) hx hb dX5_count_41 (by decide) ?_
    refine lv_icmp_lt (tgt := 66) hx hb dX5_count_43 (by decide) (fun c_43 => ?_) (fun c_43 => ?_)
    · refine lv_iload_n hx hb dX5_count_66 rfl (lv_at hl 2 rfl) ?_
      by_cases c_67_0 : x = 0
      · refine lv_tableIn (tgt := 96) hx hb dX5_count_67 (by rw [c_67_0]; decide) (by rw [c_67_0]; decide) (by rw [c_67_0]; rfl) (by decide) ?_
        refine lv_aload_n hx hb dX5_count_96 rfl (lv_at hl 3 rfl) ?_
        refine sx_get (ci := 5) (C := RX5) (T := TX5) (N := 24) (v := .int (fI μ 8 0 1)) hx hb hts inX5 hown hK (c8_at hI) rfl 1 (by decide) (hts _ w_3_37) rfl rfl dX5_count_97 ?_
        exact W.iret (v := fI μ 8 0 1) hx hb hr (fun t ht hW => ⟨⟨fI μ 8 0 1, uI μ 8 0 0 0, rfl, (by unfold cCountM; simp only [if_pos c_43, if_pos c_67_0] <;> rfl), iv_giveM ht hI⟩, hS.F ht⟩) hS.2.2 dX5_count_100
      by_cases c_67_1 : x = 1
      · refine lv_tableIn (tgt := 101) hx hb dX5_count_67 (by rw [c_67_1]; decide) (by rw [c_67_1]; decide) (by rw [c_67_1]; rfl) (by decide) ?_
        refine lv_aload_n hx hb dX5_count_101 rfl (lv_at hl 3 rfl) ?_
        refine sx_get (ci := 5) (C := RX5) (T := TX5) (N := 24) (v := .int (fI μ 8 0 15)) hx hb hts inX5 hown hK (c8_at hI) rfl 15 (by decide) (hts _ w_3_51) rfl rfl dX5_count_102 ?_
        exact W.iret (v := fI μ 8 0 15) hx hb hr (fun t ht hW => ⟨⟨fI μ 8 0 15, uI μ 8 0 0 0, rfl, (by unfold cCountM; simp only [if_pos c_43, if_neg c_67_0, if_pos c_67_1] <;> rfl), iv_giveM ht hI⟩, hS.F ht⟩) hS.2.2 dX5_count_105
      by_cases c_67_2 : x = 2
      · refine lv_tableIn (tgt := 106) hx hb dX5_count_67 (by rw [c_67_2]; decide) (by rw [c_67_2]; decide) (by rw [c_67_2]; rfl) (by decide) ?_
        refine lv_iload_n hx hb dX5_count_106 rfl (lv_at hl 1 rfl) ?_
        exact W.iret (v := mLive μ j) hx hb hr (fun t ht hW => ⟨⟨mLive μ j, uI μ 8 0 0 0, rfl, (by unfold cCountM; simp only [if_pos c_43, if_neg c_67_0, if_neg c_67_1, if_pos c_67_2] <;> rfl), iv_giveM ht hI⟩, hS.F ht⟩) hS.2.2 dX5_count_107
      by_cases c_67_3 : x = 3
      · refine lv_tableIn (tgt := 108) hx hb dX5_count_67 (by rw [c_67_3]; decide) (by rw [c_67_3]; decide) (by rw [c_67_3]; rfl) (by decide) ?_
        refine lv_aload_n hx hb dX5_count_108 rfl (lv_at hl 3 rfl) ?_
        refine sx_get (ci := 5) (C := RX5) (T := TX5) (N := 24) (v := .int (fI μ 8 0 2)) hx hb hts inX5 hown hK (c8_at hI) rfl 2 (by decide) (hts _ w_3_38) rfl rfl dX5_count_109 ?_
        exact W.iret (v := fI μ 8 0 2) hx hb hr (fun t ht hW => ⟨⟨fI μ 8 0 2, uI μ 8 0 0 0, rfl, (by unfold cCountM; simp only [if_pos c_43, if_neg c_67_0, if_neg c_67_1, if_neg c_67_2, if_pos c_67_3] <;> rfl), iv_giveM ht hI⟩, hS.F ht⟩) hS.2.2 dX5_count_112
      refine lv_tableOut (tgt := 113) hx hb dX5_count_67 (sw_out3 c_67_0 c_67_1 c_67_2 c_67_3) (by decide) ?_
      refine lv_iconst (v := (-1)) hx hb dX5_count_113 (by decide) ?_
      exact W.iret (v := (-1)) hx hb hr (fun t ht hW => ⟨⟨(-1), uI μ 8 0 0 0, rfl, (by unfold cCountM; simp only [if_pos c_43, if_neg c_67_0, if_neg c_67_1, if_neg c_67_2, if_neg c_67_3] <;> rfl), iv_giveM ht hI⟩, hS.F ht⟩) hS.2.2 dX5_count_114
    · refine lv_iload_n hx hb dX5_count_46 rfl (lv_at hl 2 rfl) ?_
      refine lv_bipush (v := 14) hx hb dX5_count_47 (by decide) ?_
      refine lv_icmp_ge (tgt := 64) hx hb dX5_count_49 (by decide) (fun c_49 => ?_) (fun c_49 => ?_)
      · refine lv_iconst (v := (-1)) hx hb dX5_count_64 (by decide) ?_
        exact W.iret (v := (-1)) hx hb hr (fun t ht hW => ⟨⟨(-1), uI μ 8 0 0 0, rfl, (by unfold cCountM; simp only [if_neg c_43, if_pos c_49] <;> rfl), iv_giveM ht hI⟩, hS.F ht⟩) hS.2.2 dX5_count_65
      · have hvx : vp_in (x - 10) 4 := cnt_vp c_43 c_49
        refine lv_aload_n hx hb dX5_count_52 rfl (lv_at hl 3 rfl) ?_
        refine sx_get (ci := 5) (C := RX5) (T := TX5) (N := 24) (v := .ref (al 9 19)) hx hb hts inX5 hown hK (c8_at hI) rfl 23 (by decide) (hts _ w_3_59) rfl rfl dX5_count_53 ?_
        refine lv_iload_n hx hb dX5_count_56 rfl (lv_at hl 2 rfl) ?_
        refine lv_bipush (v := 10) hx hb dX5_count_57 (by decide) ?_
        refine lv_isub hx hb dX5_count_59 ?_
        refine sx_iald hx hb hK (c9_19_at hI) 0 rfl hvx dX5_count_60 ?_
        refine W.eq (g2 := F0 m 61 ls (.int (fI μ 9 19 (x - 10).toNatClampNeg) :: [])) rfl ?_
        refine lv_goto (tgt := 65) hx hb dX5_count_61 (by decide) ?_
        exact W.iret (v := fI μ 9 19 (x - 10).toNatClampNeg) hx hb hr (fun t ht hW => ⟨⟨fI μ 9 19 (x - 10).toNatClampNeg, uI μ 8 0 0 0, rfl, (by unfold cCountM; simp only [if_neg c_43, if_neg c_49] <;> rfl), iv_giveM ht hI⟩, hS.F ht⟩) hS.2.2 dX5_count_65
  · have hjr : j < r := gt_lt hrn c_14 (by omega) (by omega)
    have hcj : (nI (j + 1)).toNatClampNeg = j + 1 := nI_clamp (by omega)
    refine lv_iload_n hx hb dX5_count_17 rfl (lv_at hl 1 rfl) ?_
    refine lv_aload_n hx hb dX5_count_18 rfl (lv_at hl 3 rfl) ?_
    refine sx_get (ci := 5) (C := RX5) (T := TX5) (N := 24) (v := .ref (al 9 14)) hx hb hts inX5 hown hK (c8_at hI) rfl 18 (by decide) (hts _ w_3_54) rfl rfl dX5_count_19 ?_
    refine lv_iload_n hx hb dX5_count_22 rfl (lv_at hl 0 rfl) ?_
    refine sx_iald hx hb hK (c9_14_at hI) 0 rfl (vp_in_nI (show j + 1 < 61 by omega) (by decide)) dX5_count_23 ?_
    rw [hcj]
    refine W.eq (g2 := F0 m 24 ls (.int (fI μ 9 14 (j + 1)) :: [.int (mLive μ j)])) rfl ?_
    refine lv_if_ne (tgt := 31) hx hb dX5_count_24 (by decide) (fun c_24 => ?_) (fun c_24 => ?_)
    · refine lv_iconst (v := 0) hx hb dX5_count_31 (by decide) ?_
      refine lv_iadd hx hb dX5_count_32 ?_
      refine W.eq (g2 := F0 m 33 ls (.int (mLive μ (j + 1)) :: [])) (by rw [mLive, if_neg c_24]) ?_
      refine lv_istore_n (lv' := [(2, .int (mLive μ (j + 1))), (3, .int (nI (j + 1))), (1, .int x), (0, .ref (al 8 0))]) hx hb dX5_count_33 rfl hl (by decide) rfl (fun ls hl => ?_)
      refine lv_iinc (v := (nI (j + 1)) + 1) (lv' := [(3, .int ((nI (j + 1)) + 1)), (2, .int (mLive μ (j + 1))), (1, .int x), (0, .ref (al 8 0))]) hx hb dX5_count_34 hl (k := 1) rfl rfl (by decide) rfl (fun ls hl => ?_)
      refine lv_goto (tgt := 9) hx hb dX5_count_37 (by decide) ?_
      exact ih_9 (j + 1) ls (by omega) ⟨hjr, (by have h9 := lv_sub hl [0, 1, 2, 3] rfl; rw [nI_1] at h9; exact h9)⟩
    · refine lv_iconst (v := 1) hx hb dX5_count_27 (by decide) ?_
      refine lv_goto (tgt := 32) hx hb dX5_count_28 (by decide) ?_
      refine lv_iadd hx hb dX5_count_32 ?_
      refine W.eq (g2 := F0 m 33 ls (.int (mLive μ (j + 1)) :: [])) (by rw [mLive, if_pos c_24]) ?_
      refine lv_istore_n (lv' := [(2, .int (mLive μ (j + 1))), (3, .int (nI (j + 1))), (1, .int x), (0, .ref (al 8 0))]) hx hb dX5_count_33 rfl hl (by decide) rfl (fun ls hl => ?_)
      refine lv_iinc (v := (nI (j + 1)) + 1) (lv' := [(3, .int ((nI (j + 1)) + 1)), (2, .int (mLive μ (j + 1))), (1, .int x), (0, .ref (al 8 0))]) hx hb dX5_count_34 hl (k := 1) rfl rfl (by decide) rfl (fun ls hl => ?_)
      refine lv_goto (tgt := 9) hx hb dX5_count_37 (by decide) ?_
      exact ih_9 (j + 1) ls (by omega) ⟨hjr, (by have h9 := lv_sub hl [0, 1, 2, 3] rfl; rw [nI_1] at h9; exact h9)⟩
end

theorem sw_out14 {x : Int32} (h0 : ¬ x = 0) (h1 : ¬ x = 1) (h2 : ¬ x = 2) (h3 : ¬ x = 3) (h4 : ¬ x = 4) (h5 : ¬ x = 5) (h6 : ¬ x = 6) (h7 : ¬ x = 7) (h8 : ¬ x = 8) (h9 : ¬ x = 9) (h10 : ¬ x = 10) (h11 : ¬ x = 11) (h12 : ¬ x = 12) (h13 : ¬ x = 13) (h14 : ¬ x = 14) : x.toInt < 0 ∨ (14 : Int) < x.toInt := by
  have a0 := lv_neT (a := 0) h0 (by decide); have a1 := lv_neT (a := 1) h1 (by decide); have a2 := lv_neT (a := 2) h2 (by decide); have a3 := lv_neT (a := 3) h3 (by decide); have a4 := lv_neT (a := 4) h4 (by decide); have a5 := lv_neT (a := 5) h5 (by decide); have a6 := lv_neT (a := 6) h6 (by decide); have a7 := lv_neT (a := 7) h7 (by decide); have a8 := lv_neT (a := 8) h8 (by decide); have a9 := lv_neT (a := 9) h9 (by decide); have a10 := lv_neT (a := 10) h10 (by decide); have a11 := lv_neT (a := 11) h11 (by decide); have a12 := lv_neT (a := 12) h12 (by decide); have a13 := lv_neT (a := 13) h13 (by decide); have a14 := lv_neT (a := 14) h14 (by decide)
  omega
theorem lt8 {L a : Nat} (hL : L ≤ 4096) (ha : a ≤ 4096) (c : ¬ nI L - 8 < nI a) : a + 8 ≤ L := by
  rcases Nat.lt_or_ge L 8 with h | h
  · exfalso
    refine c (Int32.lt_of_lt_of_le (b := 0) ?_ (nI_pos' (by omega)))
    have : ∀ i : Fin 8, nI i.val - 8 < 0 := by decide
    exact this ⟨L, h⟩
  · have e : nI L - 8 = nI (L - 8) := pk_sub (a := L) (b := 8) h
    rw [e] at c
    rcases Nat.lt_or_ge (L - 8) a with q | q
    · exact absurd (nI_lt q (by omega)) c
    · omega
set_option maxHeartbeats 4000000 in
set_option maxRecDepth 100000 in
theorem law_loop {p : Program} {l : Launch} {e : Env} {s : State} {m : MethodId} {below : List Frame} {meth : Method} {c : Code} {D : va_G} {dA : Nat → ClassId} {sa : Nat → Nat} {b L : Nat} {xs : Nat → Int32} (hL : L ≤ 4096) (C0 : lwC p l s m meth c b L xs D dA sa s.heap.size) (hr : meth.sig.returnType = ret) (hlocks : meth.locks = false) :
    ∀ (f t : Nat), 8 * t ≤ L → L < 8 * (t + f) → ∀ (al : Nat → Nat → Nat) (σ μ : CS) (n r : Nat) (O : List Nat) (H : Heap) (locs : List Loc) (ls : Array Slot), Rel σ μ n r O → Inv D dA s.heap.size al σ μ H → va_S (fun q => s.heap.size ≤ q) s.heap H locs → lv_has ls 8 (lwV b (nI (8 * t)) al) → W p l e room_1 s m #[Value.ref b] below meth c H locs (40 + 3 * t) (2000 + 17 * t) (lw_Z below #[Value.ref b] s) (F0 m 23 ls []) := by
  obtain ⟨hx, hb, hml, hown, hts, hX, hbl, hbA, hlt, hwd, hnc⟩ := id C0
  intro f
  induction f with
  | zero => intro t h1 h2; exact absurd h2 (by omega)
  | succ f ih =>
    intro t ht htf al σ μ n r O H locs ls hR hI hS hl0
    have hl : lv_has ls 8 [(0, .ref b), (1, .ref (al 0 0)), (2, .ref (al 8 0)), (3, .ref (al 10 0)), (4, .int (nI (8 * t)))] := hl0
    refine lv_iload hx hb dL_law_23 (lv_at hl 4 rfl) ?_
    refine lv_aload_n hx hb dL_law_25 rfl (lv_at hl 0 rfl) ?_
    refine va_slen hx hb hX hbl hbA hS dL_law_26 ?_
    refine lv_bipush (v := 8) hx hb dL_law_27 (by decide) ?_
    refine lv_isub hx hb dL_law_29 ?_
    refine lv_icmp_gt (tgt := 1073) hx hb dL_law_30 (by decide) (fun c_30 => ?_) (fun c_30 => ?_)
    · refine lv_iconst (v := 1) hx hb dL_law_1073 (by decide) ?_
      refine va_forget (fun q hq => hS.2.2 q hq) ?_
      refine W.widen (k := 601024) (n := 7293034) (by omega) (by omega) ?_
      exact lw_ret hx hb hr hlocks dL_law_1074
    · have h8 : 8 * t + 8 ≤ L := lt8 hL (by omega) c_30
      have hin : ∀ j : Nat, j < 8 → vp_in (nI (8 * t) + nI j) L := fun j hj => by rw [nI_add]; exact vp_in_nI (by omega) (by omega)
      have h0 : vp_in (nI (8 * t)) L := vp_in_nI (by omega) (by omega)
      have J : lwJ p l e s m below meth c b (nI (8 * t)) D dA s.heap.size (40 + 3 * t) (2000 + 17 * t) := by
        intro al σ μ n r O H locs ls hR hI hS hl
        have hl : lv_has ls 8 [(0, .ref b), (1, .ref (al 0 0)), (2, .ref (al 8 0)), (3, .ref (al 10 0)), (4, .int (nI (8 * t)))] := hl
        refine lv_iinc (v := nI (8 * (t + 1))) (lv' := [(4, .int (nI (8 * (t + 1)))), (0, .ref b), (1, .ref (al 0 0)), (2, .ref (al 8 0)), (3, .ref (al 10 0))]) hx hb dL_law_1067 hl (k := 4) rfl (show nI (8 * t) + nI 8 = nI (8 * (t + 1)) by rw [nI_add]; rfl) (by decide) rfl (fun ls hl => ?_)
        refine lv_goto (tgt := 23) hx hb dL_law_1070 (by decide) ?_
        refine W.widen (k := 40 + 3 * (t + 1)) (n := 2000 + 17 * (t + 1)) (by omega) (by omega) ?_
        exact ih (t + 1) (by omega) (by omega) al σ μ n r O H locs ls hR hI hS (lv_sub hl [1, 2, 3, 4, 0] rfl)
      have hk3 : 40 + 3 * t + 3 ≤ 601024 := by omega
      have hn3 : 2000 + 17 * t + 17 ≤ 7293034 := by omega
      refine lv_aload_n hx hb dL_law_33 rfl (lv_at hl 0 rfl) ?_
      refine lv_iload hx hb dL_law_34 (lv_at hl 4 rfl) ?_
      refine va_sld hx hb hX hbl hbA hS h0 dL_law_36 ?_
      refine lv_bipush (v := 15) hx hb dL_law_37 (by decide) ?_
      refine lv_iand hx hb dL_law_39 ?_
      generalize xs (nI (8 * t)).toNatClampNeg &&& 15 = x9
      by_cases c_0 : x9 = 0
      · refine lv_tableIn (tgt := 116) hx hb dL_law_40 (by rw [c_0]; decide) (by rw [c_0]; decide) (by rw [c_0]; rfl) (by decide) ?_
        exact lc_guarantee C0 _ hin hk3 hn3 al σ μ n r O H locs ls hR hI hS hl0 J
      by_cases c_1 : x9 = 1
      · refine lv_tableIn (tgt := 284) hx hb dL_law_40 (by rw [c_1]; decide) (by rw [c_1]; decide) (by rw [c_1]; rfl) (by decide) ?_
        exact lc_first C0 _ hin hk3 hn3 al σ μ n r O H locs ls hR hI hS hl0 J
      by_cases c_2 : x9 = 2
      · refine lv_tableIn (tgt := 309) hx hb dL_law_40 (by rw [c_2]; decide) (by rw [c_2]; decide) (by rw [c_2]; rfl) (by decide) ?_
        exact lc_reserve C0 _ hin hk3 hn3 al σ μ n r O H locs ls hR hI hS hl0 J
      by_cases c_3 : x9 = 3
      · refine lv_tableIn (tgt := 421) hx hb dL_law_40 (by rw [c_3]; decide) (by rw [c_3]; decide) (by rw [c_3]; rfl) (by decide) ?_
        exact lc_end C0 _ hin hk3 hn3 al σ μ n r O H locs ls hR hI hS hl0 J
      by_cases c_4 : x9 = 4
      · refine lv_tableIn (tgt := 489) hx hb dL_law_40 (by rw [c_4]; decide) (by rw [c_4]; decide) (by rw [c_4]; rfl) (by decide) ?_
        exact lc_reduce C0 _ hin hk3 hn3 al σ μ n r O H locs ls hR hI hS hl0 J
      by_cases c_5 : x9 = 5
      · refine lv_tableIn (tgt := 588) hx hb dL_law_40 (by rw [c_5]; decide) (by rw [c_5]; decide) (by rw [c_5]; rfl) (by decide) ?_
        exact lc_claim C0 _ hin hk3 hn3 al σ μ n r O H locs ls hR hI hS hl0 J
      by_cases c_6 : x9 = 6
      · refine lv_tableIn (tgt := 687) hx hb dL_law_40 (by rw [c_6]; decide) (by rw [c_6]; decide) (by rw [c_6]; rfl) (by decide) ?_
        exact lc_close C0 _ hin hk3 hn3 al σ μ n r O H locs ls hR hI hS hl0 J
      by_cases c_7 : x9 = 7
      · refine lv_tableIn (tgt := 712) hx hb dL_law_40 (by rw [c_7]; decide) (by rw [c_7]; decide) (by rw [c_7]; rfl) (by decide) ?_
        exact lc_fails C0 _ hin hk3 hn3 al σ μ n r O H locs ls hR hI hS hl0 J
      by_cases c_8 : x9 = 8
      · refine lv_tableIn (tgt := 765) hx hb dL_law_40 (by rw [c_8]; decide) (by rw [c_8]; decide) (by rw [c_8]; rfl) (by decide) ?_
        exact lc_tick C0 _ hin hk3 hn3 al σ μ n r O H locs ls hR hI hS hl0 J
      by_cases c_9 : x9 = 9
      · refine lv_tableIn (tgt := 790) hx hb dL_law_40 (by rw [c_9]; decide) (by rw [c_9]; decide) (by rw [c_9]; rfl) (by decide) ?_
        exact lc_interest C0 _ hin hk3 hn3 al σ μ n r O H locs ls hR hI hS hl0 J
      by_cases c_10 : x9 = 10
      · refine lv_tableIn (tgt := 845) hx hb dL_law_40 (by rw [c_10]; decide) (by rw [c_10]; decide) (by rw [c_10]; rfl) (by decide) ?_
        exact lc_free C0 _ hin hk3 hn3 al σ μ n r O H locs ls hR hI hS hl0 J
      by_cases c_11 : x9 = 11
      · refine lv_tableIn (tgt := 871) hx hb dL_law_40 (by rw [c_11]; decide) (by rw [c_11]; decide) (by rw [c_11]; rfl) (by decide) ?_
        exact lc_list C0 _ hin hk3 hn3 al σ μ n r O H locs ls hR hI hS hl0 J
      by_cases c_12 : x9 = 12
      · refine lv_tableIn (tgt := 908) hx hb dL_law_40 (by rw [c_12]; decide) (by rw [c_12]; decide) (by rw [c_12]; rfl) (by decide) ?_
        exact lc_look C0 _ hin hk3 hn3 al σ μ n r O H locs ls hR hI hS hl0 J
      by_cases c_13 : x9 = 13
      · refine lv_tableIn (tgt := 975) hx hb dL_law_40 (by rw [c_13]; decide) (by rw [c_13]; decide) (by rw [c_13]; rfl) (by decide) ?_
        exact lc_of C0 _ hin hk3 hn3 al σ μ n r O H locs ls hR hI hS hl0 J
      by_cases c_14 : x9 = 14
      · refine lv_tableIn (tgt := 1042) hx hb dL_law_40 (by rw [c_14]; decide) (by rw [c_14]; decide) (by rw [c_14]; rfl) (by decide) ?_
        exact lc_count C0 _ hin hk3 hn3 al σ μ n r O H locs ls hR hI hS hl0 J
      refine lv_tableOut (tgt := 1067) hx hb dL_law_40 (sw_out14 c_0 c_1 c_2 c_3 c_4 c_5 c_6 c_7 c_8 c_9 c_10 c_11 c_12 c_13 c_14) (by decide) ?_
      refine W.widen (k := 40 + 3 * t + 3) (n := 2000 + 17 * t + 17) (by omega) (by omega) ?_
      exact J al σ μ n r O H locs ls hR hI hS hl0

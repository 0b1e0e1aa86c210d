set_option maxHeartbeats 4000000 in
set_option maxRecDepth 100000 in
theorem lc_guarantee {p : Program} {l : Launch} {e : Env} {s : State} {m : MethodId} {below : List Frame} {meth : Method} {c : Code} {D : va_G} {dA : Nat → ClassId} {sa : Nat → Nat} {lo b L : Nat} {xs : Nat → Int32} (C0 : lwC p l s m meth c b L xs D dA sa lo) (x4 : Int32) (hin : ∀ j : Nat, j < 8 → vp_in (x4 + nI j) L) {k ns : Nat} (hk3 : k + 3 ≤ 601024) (hn3 : ns + 17 ≤ 7293034) (al : Nat → Nat → Nat) (σ μ : CS) (n r : Nat) (O : List Nat) (H : Heap) (locs : List Loc) (ls : Array Slot) (hR : Rel σ μ n r O) (hI : Inv D dA lo al σ μ H) (hS : va_S (fun q => lo ≤ q) s.heap H locs) (hl : lv_has ls 8 (lwV b x4 al)) (J : lwJ p l e s m below meth c b x4 D dA lo k ns) : W p l e room_1 s m #[Value.ref b] below meth c H locs k ns (lw_Z below #[Value.ref b] s) (F0 m 116 ls []) := by
  obtain ⟨hx, hb, hml, hown, hts, hX, hbl, hbA, hlt, hwd, hnc⟩ := C0
  have hK := hwd.1
  have hk0 : k + 3 + 0 ≤ room_1.cells := hk3
  have hn0 : ns + 17 + 0 ≤ room_1.slots := hn3
  have hl : lv_has ls 8 [(0, .ref b), (1, .ref (al 0 0)), (2, .ref (al 8 0)), (3, .ref (al 10 0)), (4, .int x4)] := hl
  refine lv_aload_n hx hb dL_law_116 rfl (lv_at hl 1 rfl) ?_
  refine lv_aload_n hx hb dL_law_117 rfl (lv_at hl 0 rfl) ?_
  refine lv_iload hx hb dL_law_118 (lv_at hl 4 rfl) ?_
  refine lv_iconst (v := 1) hx hb dL_law_120 (by decide) ?_
  refine lv_iadd hx hb dL_law_121 ?_
  refine va_sld hx hb hX hbl hbA hS (show vp_in (x4 + 1) L from hin 1 (by decide)) dL_law_122 ?_
  refine lv_aload_n hx hb dL_law_123 rfl (lv_at hl 0 rfl) ?_
  refine lv_iload hx hb dL_law_124 (lv_at hl 4 rfl) ?_
  refine lv_iconst (v := 2) hx hb dL_law_126 (by decide) ?_
  refine lv_iadd hx hb dL_law_127 ?_
  refine va_sld hx hb hX hbl hbA hS (show vp_in (x4 + 2) L from hin 2 (by decide)) dL_law_128 ?_
  refine lv_i2l hx hb dL_law_129 rfl ?_
  refine lv_bipush (v := 32) hx hb dL_law_130 (by decide) ?_
  refine lv_lshl hx hb dL_law_132 rfl ?_
  refine lv_aload_n hx hb dL_law_133 rfl (lv_at hl 0 rfl) ?_
  refine lv_iload hx hb dL_law_134 (lv_at hl 4 rfl) ?_
  refine lv_iconst (v := 3) hx hb dL_law_136 (by decide) ?_
  refine lv_iadd hx hb dL_law_137 ?_
  refine va_sld hx hb hX hbl hbA hS (show vp_in (x4 + 3) L from hin 3 (by decide)) dL_law_138 ?_
  refine lv_i2l hx hb dL_law_139 rfl ?_
  refine lv_ldc2 (v := 4294967295) hx hb hown (hts _ w_4_0) dL_law_140 ?_
  refine lv_land hx hb dL_law_143 ?_
  refine lv_lor hx hb dL_law_144 ?_
  refine W.eq (g2 := F0 m 145 ls (.long (jl (xs (x4 + 2).toNatClampNeg) (xs (x4 + 3).toNatClampNeg)) :: [.int (xs (x4 + 1).toNatClampNeg), .ref (al 0 0)])) rfl ?_
  refine lv_aload_n hx hb dL_law_145 rfl (lv_at hl 0 rfl) ?_
  refine lv_iload hx hb dL_law_146 (lv_at hl 4 rfl) ?_
  refine lv_iconst (v := 4) hx hb dL_law_148 (by decide) ?_
  refine lv_iadd hx hb dL_law_149 ?_
  refine va_sld hx hb hX hbl hbA hS (show vp_in (x4 + 4) L from hin 4 (by decide)) dL_law_150 ?_
  refine lv_aload_n hx hb dL_law_151 rfl (lv_at hl 0 rfl) ?_
  refine lv_iload hx hb dL_law_152 (lv_at hl 4 rfl) ?_
  refine lv_iconst (v := 5) hx hb dL_law_154 (by decide) ?_
  refine lv_iadd hx hb dL_law_155 ?_
  refine va_sld hx hb hX hbl hbA hS (show vp_in (x4 + 5) L from hin 5 (by decide)) dL_law_156 ?_
  refine lv_aload_n hx hb dL_law_157 rfl (lv_at hl 0 rfl) ?_
  refine lv_iload hx hb dL_law_158 (lv_at hl 4 rfl) ?_
  refine lv_bipush (v := 6) hx hb dL_law_160 (by decide) ?_
  refine lv_iadd hx hb dL_law_162 ?_
  refine va_sld hx hb hX hbl hbA hS (show vp_in (x4 + 6) L from hin 6 (by decide)) dL_law_163 ?_
  refine jn_i (tgt := 172) (rest := [.int (xs (x4 + 5).toNatClampNeg), .int (xs (x4 + 4).toNatClampNeg), .long (jl (xs (x4 + 2).toNatClampNeg) (xs (x4 + 3).toNatClampNeg)), .int (xs (x4 + 1).toNatClampNeg), .ref (al 0 0)]) (ls := ls) (P := fun b9 => b9 = bz (xs (x4 + 6).toNatClampNeg)) (fun J_164 => ?_) (fun b9 hb9 => ?_)
  · refine lv_if_eq (tgt := 171) hx hb dL_law_164 (by decide) (fun c_164 => ?_) (fun c_164 => ?_)
    · refine lv_iconst (v := 0) hx hb dL_law_171 (by decide) ?_
      exact J_164 _ (if_pos c_164).symm
    · refine lv_iconst (v := 1) hx hb dL_law_167 (by decide) ?_
      refine lv_goto (tgt := 172) hx hb dL_law_168 (by decide) ?_
      exact J_164 _ (if_neg c_164).symm
  · subst hb9
    refine lv_aload_n hx hb dL_law_172 rfl (lv_at hl 0 rfl) ?_
    refine lv_iload hx hb dL_law_173 (lv_at hl 4 rfl) ?_
    refine lv_bipush (v := 7) hx hb dL_law_175 (by decide) ?_
    refine lv_iadd hx hb dL_law_177 ?_
    refine va_sld hx hb hX hbl hbA hS (show vp_in (x4 + 7) L from hin 7 (by decide)) dL_law_178 ?_
    refine lv_aload_n hx hb dL_law_179 rfl (lv_at hl 3 rfl) ?_
    have hkc : k + 3 ≤ room_1.cells := Nat.le_trans (show k + 3 ≤ k + 3 by omega) hk3
    have hnc9 : ns + 17 ≤ room_1.slots := Nat.le_trans (show ns + 17 ≤ ns + 17 by omega) hn3
    refine va_calli (vx_runSW (As := [.ref (al 0 0), .int (xs (x4 + 1).toNatClampNeg), .long (jl (xs (x4 + 2).toNatClampNeg) (xs (x4 + 3).toNatClampNeg)), .int (xs (x4 + 4).toNatClampNeg), .int (xs (x4 + 5).toNatClampNeg), .int (bz (xs (x4 + 6).toNatClampNeg)), .int (xs (x4 + 7).toNatClampNeg), .ref (al 10 0)]) (rest := []) ⟨hx, hb, hml, hown, hts⟩ (h_guarantee l D dA sa lo al σ μ hlt (xs (x4 + 1).toNatClampNeg) (jl (xs (x4 + 2).toNatClampNeg) (xs (x4 + 3).toNatClampNeg)) (xs (x4 + 4).toNatClampNeg) (xs (x4 + 5).toNatClampNeg) (bz (xs (x4 + 6).toNatClampNeg)) (xs (x4 + 7).toNatClampNeg) (bz_or (xs (x4 + 6).toNatClampNeg)) n r (WFc_of hR) hR.2.1 (fun k => O.filter (hold σ k)) hR.2.2.1.2.2.2) (vx_cwSW 8 hts (gdW w_1_175 w_1_176 w_1_0 w_1_177) rfl rfl rfl (by decide +kernel) ⟨Nat.le_of_ble_eq_true rfl, Nat.le_of_ble_eq_true rfl⟩) ⟨ivn_bl, fun U hU hW => ⟨rfl, ivn_use hI hwd hnc hS hU hW⟩⟩ rfl rfl hl.1 rfl (lv_room (Nat.le_of_ble_eq_true rfl)) dL_law_180 ⟨hkc, hnc9⟩) hS (fun q _ h => h) (fun q h => h) (fun r9 u9 T9 H1 locs ht9 hvm9 e9 hB9 hz9 hk9 hS => ?_)
    obtain ⟨u8, μ8, al8⟩ := u9
    have hI := iv_takeH ht9 hB9
    obtain ⟨er, es, em, hag⟩ := e9
    have hag : agree al al8 := hag
    have hI : Inv D dA lo al8 u8 μ8 H1 := hI
    clear hB9 hk9
    refine W.widen (k := k + 3) (n := ns + 17) (by omega) (by omega) ?_
    have em : μ8 = (if (cGu σ n (fun k => O.filter (hold σ k)) (xs (x4 + 1).toNatClampNeg) (jl (xs (x4 + 2).toNatClampNeg) (xs (x4 + 3).toNatClampNeg)) (xs (x4 + 4).toNatClampNeg) (xs (x4 + 5).toNatClampNeg) (bz (xs (x4 + 6).toNatClampNeg)) (xs (x4 + 7).toNatClampNeg)).1 = 0 then uL μ 10 0 0 (cGu σ n (fun k => O.filter (hold σ k)) (xs (x4 + 1).toNatClampNeg) (jl (xs (x4 + 2).toNatClampNeg) (xs (x4 + 3).toNatClampNeg)) (xs (x4 + 4).toNatClampNeg) (xs (x4 + 5).toNatClampNeg) (bz (xs (x4 + 6).toNatClampNeg)) (xs (x4 + 7).toNatClampNeg)).2.1.toInt64 else μ) := em
    have hR1 : Rel σ μ8 n r O := by rw [em]; split; exact Rel_out hR; exact hR
    have hl : lv_has ls 8 [(0, .ref b), (1, .ref (al8 0 0)), (2, .ref (al8 8 0)), (3, .ref (al8 10 0)), (4, .int x4)] := by rw [hag 0 0 (Or.inl rfl), hag 8 0 (Or.inr (by decide)), hag 10 0 (Or.inr (by decide))]; exact hl
    refine lv_istore (lv' := [(5, .int r9), (0, .ref b), (1, .ref (al8 0 0)), (2, .ref (al8 8 0)), (3, .ref (al8 10 0)), (4, .int x4)]) hx hb dL_law_183 hl (by decide) rfl (fun ls hl => ?_)
    refine lv_aload_n hx hb dL_law_185 rfl (lv_at hl 3 rfl) ?_
    refine lv_aload_n hx hb dL_law_186 rfl (lv_at hl 1 rfl) ?_
    refine lv_iload hx hb dL_law_187 (lv_at hl 5 rfl) ?_
    refine lv_iconst (v := 1) hx hb dL_law_189 (by decide) ?_
    refine lv_iadd hx hb dL_law_190 ?_
    refine va_sld hx hb hX hbl hbA hS (show vp_in (x4 + 1) L from hin 1 (by decide)) dL_law_191 ?_
    refine lv_aload_n hx hb dL_law_192 rfl (lv_at hl 1 rfl) ?_
    refine lv_iload hx hb dL_law_193 (lv_at hl 5 rfl) ?_
    refine lv_iconst (v := 2) hx hb dL_law_195 (by decide) ?_
    refine lv_iadd hx hb dL_law_196 ?_
    refine va_sld hx hb hX hbl hbA hS (show vp_in (x4 + 2) L from hin 2 (by decide)) dL_law_197 ?_
    refine lv_i2l hx hb dL_law_198 rfl ?_
    refine lv_bipush (v := 32) hx hb dL_law_199 (by decide) ?_
    refine lv_lshl hx hb dL_law_201 rfl ?_
    refine lv_aload_n hx hb dL_law_202 rfl (lv_at hl 1 rfl) ?_
    refine lv_iload hx hb dL_law_203 (lv_at hl 5 rfl) ?_
    refine lv_iconst (v := 3) hx hb dL_law_205 (by decide) ?_
    refine lv_iadd hx hb dL_law_206 ?_
    refine va_sld hx hb hX hbl hbA hS (show vp_in (x4 + 3) L from hin 3 (by decide)) dL_law_207 ?_
    refine lv_i2l hx hb dL_law_208 rfl ?_
    refine lv_ldc2 (v := 4294967295) hx hb hown (hts _ w_4_0) dL_law_209 ?_
    refine lv_land hx hb dL_law_212 ?_
    refine lv_lor hx hb dL_law_213 ?_
    refine W.eq (g2 := F0 m 214 ls (.long (jl (xs (x4 + 2).toNatClampNeg) (xs (x4 + 3).toNatClampNeg)) :: [.int (xs (x4 + 1).toNatClampNeg), .ref (al8 8 0)])) rfl ?_
    refine lv_aload_n hx hb dL_law_214 rfl (lv_at hl 1 rfl) ?_
    refine lv_iload hx hb dL_law_215 (lv_at hl 5 rfl) ?_
    refine lv_iconst (v := 4) hx hb dL_law_217 (by decide) ?_
    refine lv_iadd hx hb dL_law_218 ?_
    refine va_sld hx hb hX hbl hbA hS (show vp_in (x4 + 4) L from hin 4 (by decide)) dL_law_219 ?_
    refine lv_aload_n hx hb dL_law_220 rfl (lv_at hl 1 rfl) ?_
    refine lv_iload hx hb dL_law_221 (lv_at hl 5 rfl) ?_
    refine lv_iconst (v := 5) hx hb dL_law_223 (by decide) ?_
    refine lv_iadd hx hb dL_law_224 ?_
    refine va_sld hx hb hX hbl hbA hS (show vp_in (x4 + 5) L from hin 5 (by decide)) dL_law_225 ?_
    refine lv_aload_n hx hb dL_law_226 rfl (lv_at hl 1 rfl) ?_
    refine lv_iload hx hb dL_law_227 (lv_at hl 5 rfl) ?_
    refine lv_bipush (v := 6) hx hb dL_law_229 (by decide) ?_
    refine lv_iadd hx hb dL_law_231 ?_
    refine va_sld hx hb hX hbl hbA hS (show vp_in (x4 + 6) L from hin 6 (by decide)) dL_law_232 ?_
    refine jn_i (tgt := 241) (rest := [.int (xs (x4 + 5).toNatClampNeg), .int (xs (x4 + 4).toNatClampNeg), .long (jl (xs (x4 + 2).toNatClampNeg) (xs (x4 + 3).toNatClampNeg)), .int (xs (x4 + 1).toNatClampNeg), .ref (al8 8 0)]) (ls := ls) (P := fun b9 => b9 = bz (xs (x4 + 6).toNatClampNeg)) (fun J_233 => ?_) (fun b9 hb9 => ?_)
    · refine lv_if_eq (tgt := 240) hx hb dL_law_233 (by decide) (fun c_233 => ?_) (fun c_233 => ?_)
      · refine lv_iconst (v := 0) hx hb dL_law_240 (by decide) ?_
        exact J_233 _ (if_pos c_233).symm
      · refine lv_iconst (v := 1) hx hb dL_law_236 (by decide) ?_
        refine lv_goto (tgt := 241) hx hb dL_law_237 (by decide) ?_
        exact J_233 _ (if_neg c_233).symm
    · subst hb9
      refine lv_aload_n hx hb dL_law_241 rfl (lv_at hl 1 rfl) ?_
      refine lv_iload hx hb dL_law_242 (lv_at hl 5 rfl) ?_
      refine lv_bipush (v := 7) hx hb dL_law_244 (by decide) ?_
      refine lv_iadd hx hb dL_law_246 ?_
      refine va_sld hx hb hX hbl hbA hS (show vp_in (x4 + 7) L from hin 7 (by decide)) dL_law_247 ?_
      refine va_calli (va_runV (As := [.int (xs (x4 + 1).toNatClampNeg), .long (jl (xs (x4 + 2).toNatClampNeg) (xs (x4 + 3).toNatClampNeg)), .int (xs (x4 + 4).toNatClampNeg), .int (xs (x4 + 5).toNatClampNeg), .int (bz (xs (x4 + 6).toNatClampNeg)), .int (xs (x4 + 7).toNatClampNeg)]) (rest := []) ⟨hx, hb, hml, hown, hts⟩ (m_guarantee l D dA sa lo al8 u8 μ8 (xs (x4 + 1).toNatClampNeg) (jl (xs (x4 + 2).toNatClampNeg) (xs (x4 + 3).toNatClampNeg)) (xs (x4 + 4).toNatClampNeg) (xs (x4 + 5).toNatClampNeg) (bz (xs (x4 + 6).toNatClampNeg)) (xs (x4 + 7).toNatClampNeg) (bz_or (xs (x4 + 6).toNatClampNeg)) n r (WFm_of hR1)) (cwV 6 hts (gdV w_3_113 w_3_114 w_3_115 w_1_3 w_3_116) rfl rfl rfl (by decide +kernel) ⟨Nat.le_of_ble_eq_true rfl, Nat.le_of_ble_eq_true rfl⟩) ⟨iv_bl, sx_recv hK (c8_at hI) rfl, fun U hU hW => ⟨rfl, iv_use hI hwd hS hU hW⟩⟩ rfl rfl hl.1 rfl (lv_room (Nat.le_of_ble_eq_true rfl)) dL_law_248 ⟨hk0, hn0⟩) hS (fun q _ h => h) (fun q h => h) (fun rb ub T8 H1 locs ht8 hvm8 eb hB8 hz8 hk8 hS => ?_)
      have hI := iv_takeM ht8 hB8
      clear hB8 hk8
      have o := end32 (P := fun a b => ∃ n1 r1 O1, Rel a b n1 r1 O1) er es em eb (op_guarantee hR1)
      obtain ⟨o1, o2, n1, r1, O1, hR9⟩ := o
      refine lv_istore (lv' := [(6, .int rb), (5, .int r9), (0, .ref b), (1, .ref (al8 0 0)), (2, .ref (al8 8 0)), (3, .ref (al8 10 0)), (4, .int x4)]) hx hb dL_law_251 hl (by decide) rfl (fun ls hl => ?_)
      refine lv_aload_n hx hb dL_law_253 rfl (lv_at hl 4 rfl) ?_
      refine vp_callSi (W.runV (As := []) (rest := []) ⟨hx, hb, hml, hown, hts⟩ (m_thrown l D dA sa lo al8 u8 ub) (cwV 0 hts (gdV w_3_109 w_3_110 w_3_111 w_1_3 w_3_112) rfl rfl rfl (by decide +kernel) ⟨Nat.le_of_ble_eq_true rfl, Nat.le_of_ble_eq_true rfl⟩) ⟨iv_bl, sx_recv hK (c8_at hI) rfl, fun U hU hW => ⟨rfl, iv_use hI hwd hS hU hW⟩⟩ rfl rfl hl.1 rfl (lv_room (Nat.le_of_ble_eq_true rfl)) dL_law_254 ⟨hk0, hn0⟩) (fun rt et => ?_)
      subst et
      refine lv_iload hx hb dL_law_257 (lv_at hl 1 rfl) ?_
      refine lv_icmp_eq (tgt := 264) hx hb dL_law_259 (by decide) (fun c_259 => ?_) (fun c_259 => ?_)
      · refine lv_iload hx hb dL_law_264 (lv_at hl 1 rfl) ?_
        refine lv_if_ne (tgt := 281) hx hb dL_law_266 (by decide) (fun c_266 => ?_) (fun c_266 => ?_)
        · refine lv_goto (tgt := 1067) hx hb dL_law_281 (by decide) ?_
          refine W.widen (k := k + 3) (n := ns + 17) (Nat.le_refl _) (Nat.le_refl _) ?_
          exact J _ _ _ _ _ _ _ _ _ hR9 hI hS (lv_sub hl [2, 3, 4, 5, 6] rfl)
        · refine lv_aload_n hx hb dL_law_269 rfl (lv_at hl 5 rfl) ?_
          refine lv_iconst (v := 0) hx hb dL_law_270 (by decide) ?_
          refine sx_lald hx hb hK (c10_at hI) 1 rfl (show vp_in 0 1 from vp_in_nI (n := 0) (by decide) (by decide)) dL_law_271 ?_
          refine W.eq (g2 := F0 m 272 ls (.long (fL ub 10 0 0) :: [])) rfl ?_
          refine lv_iload hx hb dL_law_272 (lv_at hl 0 rfl) ?_
          refine lv_i2l hx hb dL_law_274 rfl ?_
          refine W.lcmp hx hb dL_law_275 ?_
          refine lv_if_eq (tgt := 281) hx hb dL_law_276 (by decide) (fun c_276 => ?_) (fun c_276 => ?_)
          · have c_276 : (fL ub 10 0 0) = rb.toInt64 := (lg_cmp_eq _ _).mp c_276
            refine lv_goto (tgt := 1067) hx hb dL_law_281 (by decide) ?_
            refine W.widen (k := k + 3) (n := ns + 17) (Nat.le_refl _) (Nat.le_refl _) ?_
            exact J _ _ _ _ _ _ _ _ _ hR9 hI hS (lv_sub hl [2, 3, 4, 5, 6] rfl)
          · have c_276 : ¬ (fL ub 10 0 0) = rb.toInt64 := fun h => c_276 ((lg_cmp_eq _ _).mpr h)
            exact absurd (o2 c_266) c_276
      · exact absurd o1 c_259

/-! THE SECOND PASS: modules, step by step. -/
set_option maxRecDepth 100000 in
theorem c_Mo_module1 {k : cx_K} {l : Launch} {G : cx_G} {N : Nat} {mo : Nat} {P : Nat → Nat} {M : rm_M} {b : Nat × Nat} (hm : rm_R k G mo P M) (hQ : rm_Q b G M) {K : rm_M → Prop} (hK : rp_mod N K M)  : cx_Sp k l m_Mo_module1 436 [.ref mo] G (rp_P0 k mo b G P K) := by
  intro E hE
  have W0 := rm_W.rf hm hQ
  have m0 := hm.1
  have h277 : ∀ (kk : Int32) (Gy : cx_G) (Py : Nat → Nat) (My : rm_M), rm_W k mo b G P Gy Py My → (fun Mq => ∃ mc, Mq.1 12 = nI mc ∧ mc < 3600 ∧ K (rp_fst (rp_int (rp_lset (rp_i Mq 1) 56 mc (Mq.2.2.1 45 mc)) 12 (nI (mc + 1))) (mc + 1))) My → cx_V E 277 [(1, false, .int kk), (0, false, .ref mo)] [] Gy := by
    intro kk Gy Py My Wy hK
    have my := Wy.1.1
    obtain ⟨mc, e12, l12, hK⟩ := hK
    refine cx_aload_n (i := 0) hE d_Mo_module1_277 rfl rfl ?_
    refine cx_dup hE d_Mo_module1_278 ?_
    refine cx_get hE d_Mo_module1_279 f_Mo_193 (by assumption) (by rfl) ?_
    refine cx_iconst (v := 1) hE d_Mo_module1_282 (by decide) ?_
    refine cx_iadd hE d_Mo_module1_283 ?_
    refine cx_putg hE d_Mo_module1_284 f_Mo_193 (by assumption) (Nat.le_of_ble_eq_true rfl) (by first | rfl | exact cx_nr _ _) (by first | rfl | exact cx_fr _ _) (fun G_284 g_284 h_284 => ?_)
    rw [rm_s8] at g_284
    clear h_284
    have W_284 : rm_W k mo b G P G_284 Py (rp_i My 1) := Wy.pi g_284
    have m_284 := W_284.1.1
    refine cx_aload_n (i := 0) hE d_Mo_module1_287 rfl rfl ?_
    refine cx_get hE d_Mo_module1_288 f_Mo_119 (by assumption) (by rfl) ?_
    refine cx_aload_n (i := 0) hE d_Mo_module1_291 rfl rfl ?_
    refine cx_get hE d_Mo_module1_292 f_Mo_266 (by assumption) (by rfl) ?_
    rw [show (rp_i My 1).1 12 = nI mc from e12]
    refine cx_aload_n (i := 0) hE d_Mo_module1_295 rfl rfl ?_
    refine cx_get hE d_Mo_module1_296 f_Mo_101 (by assumption) (by rfl) ?_
    refine cx_aload_n (i := 0) hE d_Mo_module1_299 rfl rfl ?_
    refine cx_get hE d_Mo_module1_300 f_Mo_266 (by assumption) (by rfl) ?_
    rw [show (rp_i My 1).1 12 = nI mc from e12]
    refine cx_lald 2 hE d_Mo_module1_303 rfl (W_284.1.l 45 rfl) (vp_in_nI (by show _ < 3600; omega) (by show 3600 < 2147483648; omega)) ?_
    rw [nI_clamp (by omega)]
    refine cx_last 2 hE d_Mo_module1_304 rfl (W_284.1.l 56 rfl) (vp_in_nI (by show _ < 3600; omega) (by show 3600 < 2147483648; omega)) ?_
    rw [nI_clamp (by omega)]
    refine cx_gen (fun G_304 g_304 => ?_)
    have W_304 : rm_W k mo b G P G_304 Py (rp_lset (rp_i My 1) 56 mc (My.2.2.1 45 mc)) := W_284.sl 56 rfl g_304
    have m_304 := W_304.1.1
    refine cx_aload_n (i := 0) hE d_Mo_module1_305 rfl rfl ?_
    refine cx_dup hE d_Mo_module1_306 ?_
    refine cx_get hE d_Mo_module1_307 f_Mo_266 (by assumption) (by rfl) ?_
    rw [show (rp_lset (rp_i My 1) 56 mc (My.2.2.1 45 mc)).1 12 = nI mc from e12]
    refine cx_iconst (v := 1) hE d_Mo_module1_310 (by decide) ?_
    refine cx_iadd hE d_Mo_module1_311 ?_
    rw [nI_1]
    refine cx_putg hE d_Mo_module1_312 f_Mo_266 (by assumption) (Nat.le_of_ble_eq_true rfl) (by first | rfl | exact cx_nr _ _) (by first | rfl | exact cx_fr _ _) (fun G_312 g_312 h_312 => ?_)
    rw [rm_s12] at g_312
    clear h_312
    have W_312 : rm_W k mo b G P G_312 Py (rp_int (rp_lset (rp_i My 1) 56 mc (My.2.2.1 45 mc)) 12 (nI (mc + 1))) := W_304.pi g_312
    have m_312 := W_312.1.1
    refine cx_aload_n (i := 0) hE d_Mo_module1_315 rfl rfl ?_
    refine cx_get hE d_Mo_module1_316 f_Mo_28 (by assumption) (by rfl) ?_
    refine cx_aload_n (i := 0) hE d_Mo_module1_319 rfl rfl ?_
    refine cx_get hE d_Mo_module1_320 f_Mo_266 (by assumption) (by rfl) ?_
    rw [show (rp_int (rp_lset (rp_i My 1) 56 mc (My.2.2.1 45 mc)) 12 (nI (mc + 1))).1 12 = nI (mc + 1) from rfl]
    refine cx_aload_n (i := 0) hE d_Mo_module1_323 rfl rfl ?_
    refine cx_get hE d_Mo_module1_324 f_Mo_269 (by assumption) (by rfl) ?_
    refine cx_iast 1 hE d_Mo_module1_327 rfl (W_312.1.i 14 rfl) (vp_in_nI (by show _ < 3601; omega) (by show 3601 < 2147483648; omega)) ?_
    rw [nI_clamp (by omega)]
    refine cx_gen (fun G_327 g_327 => ?_)
    have W_327 : rm_W k mo b G P G_327 Py (rp_set (rp_int (rp_lset (rp_i My 1) 56 mc (My.2.2.1 45 mc)) 12 (nI (mc + 1))) 14 (mc + 1) ((rp_int (rp_lset (rp_i My 1) 56 mc (My.2.2.1 45 mc)) 12 (nI (mc + 1))).1 18)) := W_312.si 14 rfl g_327
    have m_327 := W_327.1.1
    refine cx_aload_n (i := 0) hE d_Mo_module1_328 rfl rfl ?_
    refine cx_get hE d_Mo_module1_329 f_Mo_31 (by assumption) (by rfl) ?_
    refine cx_aload_n (i := 0) hE d_Mo_module1_332 rfl rfl ?_
    refine cx_get hE d_Mo_module1_333 f_Mo_266 (by assumption) (by rfl) ?_
    rw [show (rp_set (rp_int (rp_lset (rp_i My 1) 56 mc (My.2.2.1 45 mc)) 12 (nI (mc + 1))) 14 (mc + 1) ((rp_int (rp_lset (rp_i My 1) 56 mc (My.2.2.1 45 mc)) 12 (nI (mc + 1))).1 18)).1 12 = nI (mc + 1) from rfl]
    refine cx_aload_n (i := 0) hE d_Mo_module1_336 rfl rfl ?_
    refine cx_get hE d_Mo_module1_337 f_Mo_276 (by assumption) (by rfl) ?_
    rw [show (rp_set (rp_int (rp_lset (rp_i My 1) 56 mc (My.2.2.1 45 mc)) 12 (nI (mc + 1))) 14 (mc + 1) ((rp_int (rp_lset (rp_i My 1) 56 mc (My.2.2.1 45 mc)) 12 (nI (mc + 1))).1 18)).1 27 = (rp_int (rp_lset (rp_i My 1) 56 mc (My.2.2.1 45 mc)) 12 (nI (mc + 1))).1 27 from rfl]
    refine cx_iast 1 hE d_Mo_module1_340 rfl (W_327.1.i 15 rfl) (vp_in_nI (by show _ < 3601; omega) (by show 3601 < 2147483648; omega)) ?_
    rw [nI_clamp (by omega)]
    refine cx_gen (fun G_340 g_340 => ?_)
    have W_340 : rm_W k mo b G P G_340 Py (rp_set (rp_set (rp_int (rp_lset (rp_i My 1) 56 mc (My.2.2.1 45 mc)) 12 (nI (mc + 1))) 14 (mc + 1) ((rp_int (rp_lset (rp_i My 1) 56 mc (My.2.2.1 45 mc)) 12 (nI (mc + 1))).1 18)) 15 (mc + 1) ((rp_int (rp_lset (rp_i My 1) 56 mc (My.2.2.1 45 mc)) 12 (nI (mc + 1))).1 27)) := W_327.si 15 rfl g_340
    have m_340 := W_340.1.1
    refine cx_aload_n (i := 0) hE d_Mo_module1_341 rfl rfl ?_
    refine cx_get hE d_Mo_module1_342 f_Mo_34 (by assumption) (by rfl) ?_
    refine cx_aload_n (i := 0) hE d_Mo_module1_345 rfl rfl ?_
    refine cx_get hE d_Mo_module1_346 f_Mo_266 (by assumption) (by rfl) ?_
    rw [show (rp_set (rp_set (rp_int (rp_lset (rp_i My 1) 56 mc (My.2.2.1 45 mc)) 12 (nI (mc + 1))) 14 (mc + 1) ((rp_int (rp_lset (rp_i My 1) 56 mc (My.2.2.1 45 mc)) 12 (nI (mc + 1))).1 18)) 15 (mc + 1) ((rp_int (rp_lset (rp_i My 1) 56 mc (My.2.2.1 45 mc)) 12 (nI (mc + 1))).1 27)).1 12 = nI (mc + 1) from rfl]
    refine cx_aload_n (i := 0) hE d_Mo_module1_349 rfl rfl ?_
    refine cx_get hE d_Mo_module1_350 f_Mo_383 (by assumption) (by rfl) ?_
    rw [show (rp_set (rp_set (rp_int (rp_lset (rp_i My 1) 56 mc (My.2.2.1 45 mc)) 12 (nI (mc + 1))) 14 (mc + 1) ((rp_int (rp_lset (rp_i My 1) 56 mc (My.2.2.1 45 mc)) 12 (nI (mc + 1))).1 18)) 15 (mc + 1) ((rp_int (rp_lset (rp_i My 1) 56 mc (My.2.2.1 45 mc)) 12 (nI (mc + 1))).1 27)).1 35 = (rp_int (rp_lset (rp_i My 1) 56 mc (My.2.2.1 45 mc)) 12 (nI (mc + 1))).1 35 from rfl]
    refine cx_iast 1 hE d_Mo_module1_353 rfl (W_340.1.i 16 rfl) (vp_in_nI (by show _ < 3601; omega) (by show 3601 < 2147483648; omega)) ?_
    rw [nI_clamp (by omega)]
    refine cx_gen (fun G_353 g_353 => ?_)
    have W_353 : rm_W k mo b G P G_353 Py (rp_set (rp_set (rp_set (rp_int (rp_lset (rp_i My 1) 56 mc (My.2.2.1 45 mc)) 12 (nI (mc + 1))) 14 (mc + 1) ((rp_int (rp_lset (rp_i My 1) 56 mc (My.2.2.1 45 mc)) 12 (nI (mc + 1))).1 18)) 15 (mc + 1) ((rp_int (rp_lset (rp_i My 1) 56 mc (My.2.2.1 45 mc)) 12 (nI (mc + 1))).1 27)) 16 (mc + 1) ((rp_int (rp_lset (rp_i My 1) 56 mc (My.2.2.1 45 mc)) 12 (nI (mc + 1))).1 35)) := W_340.si 16 rfl g_353
    have m_353 := W_353.1.1
    refine cx_aload_n (i := 0) hE d_Mo_module1_354 rfl rfl ?_
    refine cx_get hE d_Mo_module1_355 f_Mo_37 (by assumption) (by rfl) ?_
    refine cx_aload_n (i := 0) hE d_Mo_module1_358 rfl rfl ?_
    refine cx_get hE d_Mo_module1_359 f_Mo_266 (by assumption) (by rfl) ?_
    rw [show (rp_set (rp_set (rp_set (rp_int (rp_lset (rp_i My 1) 56 mc (My.2.2.1 45 mc)) 12 (nI (mc + 1))) 14 (mc + 1) ((rp_int (rp_lset (rp_i My 1) 56 mc (My.2.2.1 45 mc)) 12 (nI (mc + 1))).1 18)) 15 (mc + 1) ((rp_int (rp_lset (rp_i My 1) 56 mc (My.2.2.1 45 mc)) 12 (nI (mc + 1))).1 27)) 16 (mc + 1) ((rp_int (rp_lset (rp_i My 1) 56 mc (My.2.2.1 45 mc)) 12 (nI (mc + 1))).1 35)).1 12 = nI (mc + 1) from rfl]
    refine cx_aload_n (i := 0) hE d_Mo_module1_362 rfl rfl ?_
    refine cx_get hE d_Mo_module1_363 f_Mo_365 (by assumption) (by rfl) ?_
    rw [show (rp_set (rp_set (rp_set (rp_int (rp_lset (rp_i My 1) 56 mc (My.2.2.1 45 mc)) 12 (nI (mc + 1))) 14 (mc + 1) ((rp_int (rp_lset (rp_i My 1) 56 mc (My.2.2.1 45 mc)) 12 (nI (mc + 1))).1 18)) 15 (mc + 1) ((rp_int (rp_lset (rp_i My 1) 56 mc (My.2.2.1 45 mc)) 12 (nI (mc + 1))).1 27)) 16 (mc + 1) ((rp_int (rp_lset (rp_i My 1) 56 mc (My.2.2.1 45 mc)) 12 (nI (mc + 1))).1 35)).1 38 = (rp_int (rp_lset (rp_i My 1) 56 mc (My.2.2.1 45 mc)) 12 (nI (mc + 1))).1 38 from rfl]
    refine cx_iast 1 hE d_Mo_module1_366 rfl (W_353.1.i 17 rfl) (vp_in_nI (by show _ < 3601; omega) (by show 3601 < 2147483648; omega)) ?_
    rw [nI_clamp (by omega)]
    refine cx_gen (fun G_366 g_366 => ?_)
    have W_366 : rm_W k mo b G P G_366 Py (rp_set (rp_set (rp_set (rp_set (rp_int (rp_lset (rp_i My 1) 56 mc (My.2.2.1 45 mc)) 12 (nI (mc + 1))) 14 (mc + 1) ((rp_int (rp_lset (rp_i My 1) 56 mc (My.2.2.1 45 mc)) 12 (nI (mc + 1))).1 18)) 15 (mc + 1) ((rp_int (rp_lset (rp_i My 1) 56 mc (My.2.2.1 45 mc)) 12 (nI (mc + 1))).1 27)) 16 (mc + 1) ((rp_int (rp_lset (rp_i My 1) 56 mc (My.2.2.1 45 mc)) 12 (nI (mc + 1))).1 35)) 17 (mc + 1) ((rp_int (rp_lset (rp_i My 1) 56 mc (My.2.2.1 45 mc)) 12 (nI (mc + 1))).1 38)) := W_353.si 17 rfl g_366
    have m_366 := W_366.1.1
    refine cx_vret hE d_Mo_module1_367 rfl ?_
    exact ⟨_, _, rfl, W_366, hK⟩
  have hdrn : ∀ (n : Nat) (kk : Int32) (Gy : cx_G) (Py : Nat → Nat) (My : rm_M), rm_W k mo b G P Gy Py My → rp_drn (fun Mq => ∃ mc, Mq.1 12 = nI mc ∧ mc < 3600 ∧ K (rp_fst (rp_int (rp_lset (rp_i Mq 1) 56 mc (Mq.2.2.1 45 mc)) 12 (nI (mc + 1))) (mc + 1))) n kk My → cx_V E 222 [(1, false, .int kk), (0, false, .ref mo)] [] Gy := by
    intro n
    induction n with
    | zero => intro kk Gy Py My _ h; exact h.elim
    | succ n ih =>
      intro kk Gy Py My Wy hK
      have my := Wy.1.1
      unfold rp_drn at hK
      refine cx_iload_n (i := 1) hE d_Mo_module1_222 rfl rfl ?_
      refine cx_aload_n (i := 0) hE d_Mo_module1_223 rfl rfl ?_
      refine cx_get hE d_Mo_module1_224 f_Mo_269 (by assumption) (by rfl) ?_
      refine cx_icmp_ge (tgt := 277)  hE d_Mo_module1_227 (by decide) (fun c_227 => ?_) (fun c_227 => ?_)
      · have K_227 := rp_ifn hK (Int32.not_lt.mpr c_227)
        refine cx_sub [0, 1] rfl ?_
        exact h277 _ _ _ _ Wy K_227
      · have K_227 := rp_ifp hK (Int32.not_le.mp c_227)
        refine cx_aload_n (i := 0) hE d_Mo_module1_230 rfl rfl ?_
        refine cx_get hE d_Mo_module1_231 f_Mo_187 (by assumption) (by rfl) ?_
        refine cx_if_ne (tgt := 277)  hE d_Mo_module1_234 (by decide) (fun c_234 => ?_) (fun c_234 => ?_)
        · have K_234 := rp_ifn K_227 c_234
          refine cx_sub [0, 1] rfl ?_
          exact h277 _ _ _ _ Wy K_234
        · have K_234 := rp_ifp K_227 c_234
          obtain ⟨j_237, rfl, l_237, K_237⟩ := K_234
          refine cx_aload_n (i := 0) hE d_Mo_module1_237 rfl rfl ?_
          refine cx_iload_n (i := 1) hE d_Mo_module1_238 rfl rfl ?_
          refine cx_wR hE d_Mo_module1_239 l_Mo_347 Wy (c_Mo_isDriven (j := j_237) Wy.1 Wy.2.2 l_237) rfl (by omega) (Nat.le_of_ble_eq_true rfl) n_Mo_isDriven (by first | rfl | (simp only [List.map_cons, List.map_nil, cx_rfc]; rfl)) (fun v_239 K_239 => ?_)
          subst K_239
          refine cx_if_eq (tgt := 271)  hE d_Mo_module1_242 (by decide) (fun c_242 => ?_) (fun c_242 => ?_)
          · have K_242 := rp_ifn K_237 (fun z => of_decide_eq_false (cx_b0.mp c_242) z.1)
            refine cx_iinc (v := nI (j_237 + 1)) hE d_Mo_module1_271 rfl (nI_1 _) (by decide) ?_
            refine cx_goto (tgt := 222) hE d_Mo_module1_274 (by decide) ?_
            refine cx_sub [0, 1] rfl ?_
            rw [nI_1] at K_242
            exact ih _ _ _ _ Wy K_242
          · refine cx_aload_n (i := 0) hE d_Mo_module1_245 rfl rfl ?_
            refine cx_get hE d_Mo_module1_246 f_Mo_53 (by assumption) (by rfl) ?_
            refine cx_iload_n (i := 1) hE d_Mo_module1_249 rfl rfl ?_
            refine cx_iald 1 hE d_Mo_module1_250 rfl (Wy.1.i 23 rfl) (vp_in_nI (by show _ < 11000; omega) (by show 11000 < 2147483648; omega)) ?_
            rw [nI_clamp (by omega)]
            refine cx_if_ne (tgt := 271)  hE d_Mo_module1_251 (by decide) (fun c_251 => ?_) (fun c_251 => ?_)
            · have K_251 := rp_ifn K_237 (fun z => c_251 z.2)
              refine cx_iinc (v := nI (j_237 + 1)) hE d_Mo_module1_271 rfl (nI_1 _) (by decide) ?_
              refine cx_goto (tgt := 222) hE d_Mo_module1_274 (by decide) ?_
              refine cx_sub [0, 1] rfl ?_
              rw [nI_1] at K_251
              exact ih _ _ _ _ Wy K_251
            · have K_251 := rp_ifp K_237 ⟨of_decide_eq_true (cx_bn.mp c_242), c_251⟩
              obtain ⟨y_254, e_254, l_254, K_254⟩ := K_251
              refine cx_aload_n (i := 0) hE d_Mo_module1_254 rfl rfl ?_
              refine cx_bipush (v := 33) hE d_Mo_module1_255 (by decide) ?_
              refine cx_aload_n (i := 0) hE d_Mo_module1_257 rfl rfl ?_
              refine cx_get hE d_Mo_module1_258 f_Mo_19 (by assumption) (by rfl) ?_
              refine cx_aload_n (i := 0) hE d_Mo_module1_261 rfl rfl ?_
              refine cx_get hE d_Mo_module1_262 f_Mo_40 (by assumption) (by rfl) ?_
              refine cx_iload_n (i := 1) hE d_Mo_module1_265 rfl rfl ?_
              refine cx_iald 1 hE d_Mo_module1_266 rfl (Wy.1.i 19 rfl) (vp_in_nI (by show _ < 11000; omega) (by show 11000 < 2147483648; omega)) ?_
              rw [nI_clamp (by omega)]
              rw [e_254]
              refine cx_iald 1 hE d_Mo_module1_267 rfl (Wy.1.i 5 rfl) (vp_in_nI (by show _ < 65540; omega) (by show 65540 < 2147483648; omega)) ?_
              rw [nI_clamp (by omega)]
              refine cx_w0 hE d_Mo_module1_268 l_Mo_196 Wy (s_fail (K := fun Mq9 => Mq9 = rm_fail _ _ My) Wy.1 Wy.2.2 rfl) rfl (by omega) (Nat.le_of_ble_eq_true rfl) n_Mo_fail (by first | rfl | (simp only [List.map_cons, List.map_nil, cx_rfc]; rfl)) (fun G_268 P_268 M_268 W_268 K_268 => ?_)
              have m_268 := W_268.1.1
              refine cx_iinc (v := nI (j_237 + 1)) hE d_Mo_module1_271 rfl (nI_1 _) (by decide) ?_
              refine cx_goto (tgt := 222) hE d_Mo_module1_274 (by decide) ?_
              refine cx_sub [0, 1] rfl ?_
              rw [nI_1] at K_254
              subst K_268
              exact ih _ _ _ _ W_268 K_254
  have hits : ∀ (n : Nat) (Gx : cx_G) (Px : Nat → Nat) (Mx : rm_M), rm_W k mo b G P Gx Px Mx → rp_its N (fun Mq => ∃ mc, Mq.1 12 = nI mc ∧ mc < 3600 ∧ rp_drn (fun Mq => ∃ mc, Mq.1 12 = nI mc ∧ mc < 3600 ∧ K (rp_fst (rp_int (rp_lset (rp_i Mq 1) 56 mc (Mq.2.2.1 45 mc)) 12 (nI (mc + 1))) (mc + 1))) N (Mq.2.1 14 mc) Mq) n Mx → cx_V E 188 [(0, false, .ref mo)] [] Gx := by
    intro n
    induction n with
    | zero => intro Gx Px Mx _ h; exact h.elim
    | succ n ih =>
      intro Gx Px Mx Wx hK
      have mx := Wx.1.1
      unfold rp_its at hK
      refine cx_aload_n (i := 0) hE d_Mo_module1_188 rfl rfl ?_
      refine cx_get hE d_Mo_module1_189 f_Mo_187 (by assumption) (by rfl) ?_
      refine cx_if_ne (tgt := 212)  hE d_Mo_module1_192 (by decide) (fun c_192 => ?_) (fun c_192 => ?_)
      · have K_192 := rp_ifn hK c_192
        refine cx_aload_n (i := 0) hE d_Mo_module1_212 rfl rfl ?_
        refine cx_get hE d_Mo_module1_213 f_Mo_28 (by assumption) (by rfl) ?_
        refine cx_aload_n (i := 0) hE d_Mo_module1_216 rfl rfl ?_
        refine cx_get hE d_Mo_module1_217 f_Mo_266 (by assumption) (by rfl) ?_
        obtain ⟨mc_220, e_220, l_220, K_220⟩ := K_192
        rw [e_220]
        refine cx_iald 1 hE d_Mo_module1_220 rfl (Wx.1.i 14 rfl) (vp_in_nI (by show _ < 3601; omega) (by show 3601 < 2147483648; omega)) ?_
        rw [nI_clamp (by omega)]
        refine cx_istore_n (i := 1) hE d_Mo_module1_221 rfl (by decide) ?_
        refine cx_sub [0, 1] rfl ?_
        exact hdrn _ _ _ _ _ Wx K_220
      · have K_192 := rp_ifp hK c_192
        refine cx_aload_n (i := 0) hE d_Mo_module1_195 rfl rfl ?_
        refine cx_wR hE d_Mo_module1_196 l_Mo_216 Wx (s_kind Wx.1 K_192) rfl (by omega) (Nat.le_of_ble_eq_true rfl) n_Mo_kind (by first | rfl | (simp only [List.map_cons, List.map_nil, cx_rfc]; rfl)) (fun v_196 K_196 => ?_)
        refine cx_sipush (v := 301) hE d_Mo_module1_199 (by decide) ?_
        refine cx_icmp_eq (tgt := 212)  hE d_Mo_module1_202 (by decide) (fun c_202 => ?_) (fun c_202 => ?_)
        · have K_202 := rp_ifp K_196 c_202
          refine cx_aload_n (i := 0) hE d_Mo_module1_212 rfl rfl ?_
          refine cx_get hE d_Mo_module1_213 f_Mo_28 (by assumption) (by rfl) ?_
          refine cx_aload_n (i := 0) hE d_Mo_module1_216 rfl rfl ?_
          refine cx_get hE d_Mo_module1_217 f_Mo_266 (by assumption) (by rfl) ?_
          obtain ⟨mc_220, e_220, l_220, K_220⟩ := K_202
          rw [e_220]
          refine cx_iald 1 hE d_Mo_module1_220 rfl (Wx.1.i 14 rfl) (vp_in_nI (by show _ < 3601; omega) (by show 3601 < 2147483648; omega)) ?_
          rw [nI_clamp (by omega)]
          refine cx_istore_n (i := 1) hE d_Mo_module1_221 rfl (by decide) ?_
          refine cx_sub [0, 1] rfl ?_
          exact hdrn _ _ _ _ _ Wx K_220
        · have K_202 := rp_ifn K_196 c_202
          refine cx_aload_n (i := 0) hE d_Mo_module1_205 rfl rfl ?_
          refine cx_w0 hE d_Mo_module1_206 l_Mo_392 Wx (c_Mo_item Wx.1 Wx.2.2 K_202) rfl (by omega) (Nat.le_of_ble_eq_true rfl) n_Mo_item (by first | rfl | (simp only [List.map_cons, List.map_nil, cx_rfc]; rfl)) (fun G_206 P_206 M_206 W_206 K_206 => ?_)
          have m_206 := W_206.1.1
          refine cx_goto (tgt := 188) hE d_Mo_module1_209 (by decide) ?_
          refine cx_sub [0] rfl ?_
          exact ih _ _ _ W_206 K_206
  have hpos : ∀ (n : Nat) (Gx : cx_G) (Px : Nat → Nat) (Mx : rm_M), rm_W k mo b G P Gx Px Mx → rp_pos (fun Mq => rp_its N (fun Mq => ∃ mc, Mq.1 12 = nI mc ∧ mc < 3600 ∧ rp_drn (fun Mq => ∃ mc, Mq.1 12 = nI mc ∧ mc < 3600 ∧ K (rp_fst (rp_int (rp_lset (rp_i Mq 1) 56 mc (Mq.2.2.1 45 mc)) 12 (nI (mc + 1))) (mc + 1))) N (Mq.2.1 14 mc) Mq) N (rp_i Mq 2)) n Mx → cx_V E 125 [(0, false, .ref mo)] [] Gx := by
    intro n
    induction n with
    | zero => intro Gx Px Mx _ h; exact h.elim
    | succ n ih =>
      intro Gx Px Mx Wx hK
      have mx := Wx.1.1
      unfold rp_pos at hK
      obtain ⟨i1, e1, l1, i2, e2, l2, hK⟩ := hK
      refine cx_aload_n (i := 0) hE d_Mo_module1_125 rfl rfl ?_
      refine cx_sipush (v := 302) hE d_Mo_module1_126 (by decide) ?_
      refine cx_invV1 hE d_Mo_module1_129 l_Mo_203 Wx.1.1 (c_Mo_is Wx.1 (i := i1) e1 l1) rfl (by omega) (Nat.le_of_ble_eq_true rfl) n_Mo_is (by rfl) ?_
      refine cx_if_ne (tgt := 145)  hE d_Mo_module1_132 (by decide) (fun c_132 => ?_) (fun c_132 => ?_)
      · have K_132 := rp_ifp hK (Or.inl (cx_bn.mp c_132))
        refine cx_aload_n (i := 0) hE d_Mo_module1_145 rfl rfl ?_
        refine cx_w0 hE d_Mo_module1_146 l_Mo_389 Wx (c_Mo_port Wx.1 Wx.2.2 K_132) rfl (by omega) (Nat.le_of_ble_eq_true rfl) n_Mo_port (by first | rfl | (simp only [List.map_cons, List.map_nil, cx_rfc]; rfl)) (fun G_146 P_146 M_146 W_146 K_146 => ?_)
        have m_146 := W_146.1.1
        refine cx_aload_n (i := 0) hE d_Mo_module1_149 rfl rfl ?_
        refine cx_aload_n (i := 0) hE d_Mo_module1_150 rfl rfl ?_
        refine cx_wR hE d_Mo_module1_151 l_Mo_216 W_146 (s_kind W_146.1 K_146) rfl (by omega) (Nat.le_of_ble_eq_true rfl) n_Mo_kind (by first | rfl | (simp only [List.map_cons, List.map_nil, cx_rfc]; rfl)) (fun v_151 K_151 => ?_)
        refine cx_bipush (v := 44) hE d_Mo_module1_154 (by decide) ?_
        refine cx_icmp_ne (tgt := 168)  hE d_Mo_module1_156 (by decide) (fun c_156 => ?_) (fun c_156 => ?_)
        · rw [if_neg c_156] at K_151
          refine cx_aload_n (i := 0) hE d_Mo_module1_168 rfl rfl ?_
          refine cx_get hE d_Mo_module1_169 f_Mo_193 (by assumption) (by rfl) ?_
          refine cx_putg hE d_Mo_module1_172 f_Mo_193 (by assumption) (Nat.le_of_ble_eq_true rfl) (by first | rfl | exact cx_nr _ _) (by first | rfl | exact cx_fr _ _) (fun G_172 g_172 h_172 => ?_)
          rw [rm_s8] at g_172
          clear h_172
          have W_172 : rm_W k mo b G P G_172 P_146 (rp_t M_146 (M_146.1 8)) := W_146.pi g_172
          have m_172 := W_172.1.1
          refine cx_goto (tgt := 125) hE d_Mo_module1_175 (by decide) ?_
          refine cx_sub [0] rfl ?_
          exact ih _ _ _ W_172 K_151
        · rw [if_pos c_156] at K_151
          refine cx_aload_n (i := 0) hE d_Mo_module1_159 rfl rfl ?_
          refine cx_get hE d_Mo_module1_160 f_Mo_193 (by assumption) (by rfl) ?_
          refine cx_iconst (v := 1) hE d_Mo_module1_163 (by decide) ?_
          refine cx_iadd hE d_Mo_module1_164 ?_
          refine cx_goto (tgt := 172) hE d_Mo_module1_165 (by decide) ?_
          refine cx_putg hE d_Mo_module1_172 f_Mo_193 (by assumption) (Nat.le_of_ble_eq_true rfl) (by first | rfl | exact cx_nr _ _) (by first | rfl | exact cx_fr _ _) (fun G_172 g_172 h_172 => ?_)
          rw [rm_s8] at g_172
          clear h_172
          have W_172 : rm_W k mo b G P G_172 P_146 (rp_t M_146 (M_146.1 8 + 1)) := W_146.pi g_172
          have m_172 := W_172.1.1
          refine cx_goto (tgt := 125) hE d_Mo_module1_175 (by decide) ?_
          refine cx_sub [0] rfl ?_
          exact ih _ _ _ W_172 K_151
      · refine cx_aload_n (i := 0) hE d_Mo_module1_135 rfl rfl ?_
        refine cx_sipush (v := 303) hE d_Mo_module1_136 (by decide) ?_
        refine cx_invV1 hE d_Mo_module1_139 l_Mo_203 Wx.1.1 (c_Mo_is Wx.1 (i := i2) e2 l2) rfl (by omega) (Nat.le_of_ble_eq_true rfl) n_Mo_is (by rfl) ?_
        refine cx_if_eq (tgt := 178)  hE d_Mo_module1_142 (by decide) (fun c_142 => ?_) (fun c_142 => ?_)
        · have K_132 := rp_ifn hK (fun z => z.elim (fun y => by rw [cx_b0.mp c_132] at y; cases y) (fun y => by rw [cx_b0.mp c_142] at y; cases y))
          refine cx_aload_n (i := 0) hE d_Mo_module1_178 rfl rfl ?_
          refine cx_aload_n (i := 0) hE d_Mo_module1_179 rfl rfl ?_
          refine cx_get hE d_Mo_module1_180 f_Mo_193 (by assumption) (by rfl) ?_
          refine cx_iconst (v := 2) hE d_Mo_module1_183 (by decide) ?_
          refine cx_iadd hE d_Mo_module1_184 ?_
          refine cx_putg hE d_Mo_module1_185 f_Mo_193 (by assumption) (Nat.le_of_ble_eq_true rfl) (by first | rfl | exact cx_nr _ _) (by first | rfl | exact cx_fr _ _) (fun G_185 g_185 h_185 => ?_)
          rw [rm_s8] at g_185
          clear h_185
          have W_185 : rm_W k mo b G P G_185 Px (rp_i Mx 2) := Wx.pi g_185
          have m_185 := W_185.1.1
          refine cx_sub [0] rfl ?_
          exact hits _ _ _ _ W_185 K_132
        · have K_132 := rp_ifp hK (Or.inr (cx_bn.mp c_142))
          refine cx_aload_n (i := 0) hE d_Mo_module1_145 rfl rfl ?_
          refine cx_w0 hE d_Mo_module1_146 l_Mo_389 Wx (c_Mo_port Wx.1 Wx.2.2 K_132) rfl (by omega) (Nat.le_of_ble_eq_true rfl) n_Mo_port (by first | rfl | (simp only [List.map_cons, List.map_nil, cx_rfc]; rfl)) (fun G_146 P_146 M_146 W_146 K_146 => ?_)
          have m_146 := W_146.1.1
          refine cx_aload_n (i := 0) hE d_Mo_module1_149 rfl rfl ?_
          refine cx_aload_n (i := 0) hE d_Mo_module1_150 rfl rfl ?_
          refine cx_wR hE d_Mo_module1_151 l_Mo_216 W_146 (s_kind W_146.1 K_146) rfl (by omega) (Nat.le_of_ble_eq_true rfl) n_Mo_kind (by first | rfl | (simp only [List.map_cons, List.map_nil, cx_rfc]; rfl)) (fun v_151 K_151 => ?_)
          refine cx_bipush (v := 44) hE d_Mo_module1_154 (by decide) ?_
          refine cx_icmp_ne (tgt := 168)  hE d_Mo_module1_156 (by decide) (fun c_156 => ?_) (fun c_156 => ?_)
          · rw [if_neg c_156] at K_151
            refine cx_aload_n (i := 0) hE d_Mo_module1_168 rfl rfl ?_
            refine cx_get hE d_Mo_module1_169 f_Mo_193 (by assumption) (by rfl) ?_
            refine cx_putg hE d_Mo_module1_172 f_Mo_193 (by assumption) (Nat.le_of_ble_eq_true rfl) (by first | rfl | exact cx_nr _ _) (by first | rfl | exact cx_fr _ _) (fun G_172 g_172 h_172 => ?_)
            rw [rm_s8] at g_172
            clear h_172
            have W_172 : rm_W k mo b G P G_172 P_146 (rp_t M_146 (M_146.1 8)) := W_146.pi g_172
            have m_172 := W_172.1.1
            refine cx_goto (tgt := 125) hE d_Mo_module1_175 (by decide) ?_
            refine cx_sub [0] rfl ?_
            exact ih _ _ _ W_172 K_151
          · rw [if_pos c_156] at K_151
            refine cx_aload_n (i := 0) hE d_Mo_module1_159 rfl rfl ?_
            refine cx_get hE d_Mo_module1_160 f_Mo_193 (by assumption) (by rfl) ?_
            refine cx_iconst (v := 1) hE d_Mo_module1_163 (by decide) ?_
            refine cx_iadd hE d_Mo_module1_164 ?_
            refine cx_goto (tgt := 172) hE d_Mo_module1_165 (by decide) ?_
            refine cx_putg hE d_Mo_module1_172 f_Mo_193 (by assumption) (Nat.le_of_ble_eq_true rfl) (by first | rfl | exact cx_nr _ _) (by first | rfl | exact cx_fr _ _) (fun G_172 g_172 h_172 => ?_)
            rw [rm_s8] at g_172
            clear h_172
            have W_172 : rm_W k mo b G P G_172 P_146 (rp_t M_146 (M_146.1 8 + 1)) := W_146.pi g_172
            have m_172 := W_172.1.1
            refine cx_goto (tgt := 125) hE d_Mo_module1_175 (by decide) ?_
            refine cx_sub [0] rfl ?_
            exact ih _ _ _ W_172 K_151
  refine cx_aload_n (i := 0) hE d_Mo_module1_0 rfl rfl ?_
  refine cx_dup hE d_Mo_module1_1 ?_
  refine cx_get hE d_Mo_module1_2 f_Mo_193 (by assumption) (by rfl) ?_
  refine cx_iconst (v := 1) hE d_Mo_module1_5 (by decide) ?_
  refine cx_iadd hE d_Mo_module1_6 ?_
  refine cx_putg hE d_Mo_module1_7 f_Mo_193 (by assumption) (Nat.le_of_ble_eq_true rfl) (by first | rfl | exact cx_nr _ _) (by first | rfl | exact cx_fr _ _) (fun G_7 g_7 h_7 => ?_)
  rw [rm_s8] at g_7
  clear h_7
  have W_7 : rm_W k mo b G P G_7 P (rp_i M 1) := W0.pi g_7
  have m_7 := W_7.1.1
  refine cx_aload_n (i := 0) hE d_Mo_module1_10 rfl rfl ?_
  refine cx_aload_n (i := 0) hE d_Mo_module1_11 rfl rfl ?_
  refine cx_get hE d_Mo_module1_12 f_Mo_193 (by assumption) (by rfl) ?_
  refine cx_aload_n (i := 0) hE d_Mo_module1_15 rfl rfl ?_
  refine cx_get hE d_Mo_module1_16 f_Mo_266 (by assumption) (by rfl) ?_
  refine cx_wR hE d_Mo_module1_19 l_Mo_368 W_7 (s_mno W_7.1 hK) rfl (by omega) (Nat.le_of_ble_eq_true rfl) n_Mo_moduleNamed (by first | rfl | (simp only [List.map_cons, List.map_nil, cx_rfc]; rfl)) (fun v_19 K_19 => ?_)
  obtain ⟨i_19, e_19, l_19, K_19b⟩ := K_19
  obtain ⟨mc, e12, l12, K_19c⟩ := K_19b
  have b12 : (if 0 ≤ v_19 then rm_fail 20 ((rp_i M 1).2.1 5 i_19) (rp_i M 1) else rp_i M 1).1 12 = nI mc := by
    split
    · rw [(rx_o.fail _ _ _).1 12 (by decide) (by decide) (by decide) (by decide)]; exact e12
    · exact e12
  have b8 : (if 0 ≤ v_19 then rm_fail 20 ((rp_i M 1).2.1 5 i_19) (rp_i M 1) else rp_i M 1).1 8 = M.1 8 + 1 := by
    split
    · unfold rm_fail
      split <;> rfl
    · rfl
  have h40 : ∀ (G1 : cx_G) (P1 : Nat → Nat), rm_W k mo b G P G1 P1 (if 0 ≤ v_19 then rm_fail 20 ((rp_i M 1).2.1 5 i_19) (rp_i M 1) else rp_i M 1) → cx_V E 40 [(0, false, .ref mo)] [] G1 := by
    intro G1 P1 W1
    have m1 := W1.1.1
    refine cx_aload_n (i := 0) hE d_Mo_module1_40 rfl rfl ?_
    refine cx_get hE d_Mo_module1_41 f_Mo_25 (by assumption) (by rfl) ?_
    refine cx_aload_n (i := 0) hE d_Mo_module1_44 rfl rfl ?_
    refine cx_get hE d_Mo_module1_45 f_Mo_266 (by assumption) (by rfl) ?_
    rw [b12]
    refine cx_aload_n (i := 0) hE d_Mo_module1_48 rfl rfl ?_
    refine cx_get hE d_Mo_module1_49 f_Mo_193 (by assumption) (by rfl) ?_
    rw [b8]
    refine cx_iast 1 hE d_Mo_module1_52 rfl (W1.1.i 13 rfl) (vp_in_nI (by show _ < 3600; omega) (by show 3600 < 2147483648; omega)) ?_
    rw [nI_clamp (by omega)]
    refine cx_gen (fun G_52 g_52 => ?_)
    have W_52 : rm_W k mo b G P G_52 P1 (rp_set (if 0 ≤ v_19 then rm_fail 20 ((rp_i M 1).2.1 5 i_19) (rp_i M 1) else rp_i M 1) 13 mc (M.1 8 + 1)) := W1.si 13 rfl g_52
    have m_52 := W_52.1.1
    refine cx_aload_n (i := 0) hE d_Mo_module1_53 rfl rfl ?_
    refine cx_get hE d_Mo_module1_54 f_Mo_28 (by assumption) (by rfl) ?_
    refine cx_aload_n (i := 0) hE d_Mo_module1_57 rfl rfl ?_
    refine cx_get hE d_Mo_module1_58 f_Mo_266 (by assumption) (by rfl) ?_
    rw [show (rp_set (if 0 ≤ v_19 then rm_fail 20 ((rp_i M 1).2.1 5 i_19) (rp_i M 1) else rp_i M 1) 13 mc (M.1 8 + 1)).1 12 = nI mc from b12]
    refine cx_aload_n (i := 0) hE d_Mo_module1_61 rfl rfl ?_
    refine cx_get hE d_Mo_module1_62 f_Mo_269 (by assumption) (by rfl) ?_
    refine cx_iast 1 hE d_Mo_module1_65 rfl (W_52.1.i 14 rfl) (vp_in_nI (by show _ < 3601; omega) (by show 3601 < 2147483648; omega)) ?_
    rw [nI_clamp (by omega)]
    refine cx_gen (fun G_65 g_65 => ?_)
    have W_65 : rm_W k mo b G P G_65 P1 (rp_set (rp_set (if 0 ≤ v_19 then rm_fail 20 ((rp_i M 1).2.1 5 i_19) (rp_i M 1) else rp_i M 1) 13 mc (M.1 8 + 1)) 14 mc ((rp_set (if 0 ≤ v_19 then rm_fail 20 ((rp_i M 1).2.1 5 i_19) (rp_i M 1) else rp_i M 1) 13 mc (M.1 8 + 1)).1 18)) := W_52.si 14 rfl g_65
    have m_65 := W_65.1.1
    refine cx_aload_n (i := 0) hE d_Mo_module1_66 rfl rfl ?_
    refine cx_get hE d_Mo_module1_67 f_Mo_31 (by assumption) (by rfl) ?_
    refine cx_aload_n (i := 0) hE d_Mo_module1_70 rfl rfl ?_
    refine cx_get hE d_Mo_module1_71 f_Mo_266 (by assumption) (by rfl) ?_
    rw [show (rp_set (rp_set (if 0 ≤ v_19 then rm_fail 20 ((rp_i M 1).2.1 5 i_19) (rp_i M 1) else rp_i M 1) 13 mc (M.1 8 + 1)) 14 mc ((rp_set (if 0 ≤ v_19 then rm_fail 20 ((rp_i M 1).2.1 5 i_19) (rp_i M 1) else rp_i M 1) 13 mc (M.1 8 + 1)).1 18)).1 12 = nI mc from b12]
    refine cx_aload_n (i := 0) hE d_Mo_module1_74 rfl rfl ?_
    refine cx_get hE d_Mo_module1_75 f_Mo_276 (by assumption) (by rfl) ?_
    rw [show (rp_set (rp_set (if 0 ≤ v_19 then rm_fail 20 ((rp_i M 1).2.1 5 i_19) (rp_i M 1) else rp_i M 1) 13 mc (M.1 8 + 1)) 14 mc ((rp_set (if 0 ≤ v_19 then rm_fail 20 ((rp_i M 1).2.1 5 i_19) (rp_i M 1) else rp_i M 1) 13 mc (M.1 8 + 1)).1 18)).1 27 = (rp_set (if 0 ≤ v_19 then rm_fail 20 ((rp_i M 1).2.1 5 i_19) (rp_i M 1) else rp_i M 1) 13 mc (M.1 8 + 1)).1 27 from rfl]
    refine cx_iast 1 hE d_Mo_module1_78 rfl (W_65.1.i 15 rfl) (vp_in_nI (by show _ < 3601; omega) (by show 3601 < 2147483648; omega)) ?_
    rw [nI_clamp (by omega)]
    refine cx_gen (fun G_78 g_78 => ?_)
    have W_78 : rm_W k mo b G P G_78 P1 (rp_set (rp_set (rp_set (if 0 ≤ v_19 then rm_fail 20 ((rp_i M 1).2.1 5 i_19) (rp_i M 1) else rp_i M 1) 13 mc (M.1 8 + 1)) 14 mc ((rp_set (if 0 ≤ v_19 then rm_fail 20 ((rp_i M 1).2.1 5 i_19) (rp_i M 1) else rp_i M 1) 13 mc (M.1 8 + 1)).1 18)) 15 mc ((rp_set (if 0 ≤ v_19 then rm_fail 20 ((rp_i M 1).2.1 5 i_19) (rp_i M 1) else rp_i M 1) 13 mc (M.1 8 + 1)).1 27)) := W_65.si 15 rfl g_78
    have m_78 := W_78.1.1
    refine cx_aload_n (i := 0) hE d_Mo_module1_79 rfl rfl ?_
    refine cx_get hE d_Mo_module1_80 f_Mo_34 (by assumption) (by rfl) ?_
    refine cx_aload_n (i := 0) hE d_Mo_module1_83 rfl rfl ?_
    refine cx_get hE d_Mo_module1_84 f_Mo_266 (by assumption) (by rfl) ?_
    rw [show (rp_set (rp_set (rp_set (if 0 ≤ v_19 then rm_fail 20 ((rp_i M 1).2.1 5 i_19) (rp_i M 1) else rp_i M 1) 13 mc (M.1 8 + 1)) 14 mc ((rp_set (if 0 ≤ v_19 then rm_fail 20 ((rp_i M 1).2.1 5 i_19) (rp_i M 1) else rp_i M 1) 13 mc (M.1 8 + 1)).1 18)) 15 mc ((rp_set (if 0 ≤ v_19 then rm_fail 20 ((rp_i M 1).2.1 5 i_19) (rp_i M 1) else rp_i M 1) 13 mc (M.1 8 + 1)).1 27)).1 12 = nI mc from b12]
    refine cx_aload_n (i := 0) hE d_Mo_module1_87 rfl rfl ?_
    refine cx_get hE d_Mo_module1_88 f_Mo_383 (by assumption) (by rfl) ?_
    rw [show (rp_set (rp_set (rp_set (if 0 ≤ v_19 then rm_fail 20 ((rp_i M 1).2.1 5 i_19) (rp_i M 1) else rp_i M 1) 13 mc (M.1 8 + 1)) 14 mc ((rp_set (if 0 ≤ v_19 then rm_fail 20 ((rp_i M 1).2.1 5 i_19) (rp_i M 1) else rp_i M 1) 13 mc (M.1 8 + 1)).1 18)) 15 mc ((rp_set (if 0 ≤ v_19 then rm_fail 20 ((rp_i M 1).2.1 5 i_19) (rp_i M 1) else rp_i M 1) 13 mc (M.1 8 + 1)).1 27)).1 35 = (rp_set (if 0 ≤ v_19 then rm_fail 20 ((rp_i M 1).2.1 5 i_19) (rp_i M 1) else rp_i M 1) 13 mc (M.1 8 + 1)).1 35 from rfl]
    refine cx_iast 1 hE d_Mo_module1_91 rfl (W_78.1.i 16 rfl) (vp_in_nI (by show _ < 3601; omega) (by show 3601 < 2147483648; omega)) ?_
    rw [nI_clamp (by omega)]
    refine cx_gen (fun G_91 g_91 => ?_)
    have W_91 : rm_W k mo b G P G_91 P1 (rp_set (rp_set (rp_set (rp_set (if 0 ≤ v_19 then rm_fail 20 ((rp_i M 1).2.1 5 i_19) (rp_i M 1) else rp_i M 1) 13 mc (M.1 8 + 1)) 14 mc ((rp_set (if 0 ≤ v_19 then rm_fail 20 ((rp_i M 1).2.1 5 i_19) (rp_i M 1) else rp_i M 1) 13 mc (M.1 8 + 1)).1 18)) 15 mc ((rp_set (if 0 ≤ v_19 then rm_fail 20 ((rp_i M 1).2.1 5 i_19) (rp_i M 1) else rp_i M 1) 13 mc (M.1 8 + 1)).1 27)) 16 mc ((rp_set (if 0 ≤ v_19 then rm_fail 20 ((rp_i M 1).2.1 5 i_19) (rp_i M 1) else rp_i M 1) 13 mc (M.1 8 + 1)).1 35)) := W_78.si 16 rfl g_91
    have m_91 := W_91.1.1
    refine cx_aload_n (i := 0) hE d_Mo_module1_92 rfl rfl ?_
    refine cx_get hE d_Mo_module1_93 f_Mo_37 (by assumption) (by rfl) ?_
    refine cx_aload_n (i := 0) hE d_Mo_module1_96 rfl rfl ?_
    refine cx_get hE d_Mo_module1_97 f_Mo_266 (by assumption) (by rfl) ?_
    rw [show (rp_set (rp_set (rp_set (rp_set (if 0 ≤ v_19 then rm_fail 20 ((rp_i M 1).2.1 5 i_19) (rp_i M 1) else rp_i M 1) 13 mc (M.1 8 + 1)) 14 mc ((rp_set (if 0 ≤ v_19 then rm_fail 20 ((rp_i M 1).2.1 5 i_19) (rp_i M 1) else rp_i M 1) 13 mc (M.1 8 + 1)).1 18)) 15 mc ((rp_set (if 0 ≤ v_19 then rm_fail 20 ((rp_i M 1).2.1 5 i_19) (rp_i M 1) else rp_i M 1) 13 mc (M.1 8 + 1)).1 27)) 16 mc ((rp_set (if 0 ≤ v_19 then rm_fail 20 ((rp_i M 1).2.1 5 i_19) (rp_i M 1) else rp_i M 1) 13 mc (M.1 8 + 1)).1 35)).1 12 = nI mc from b12]
    refine cx_aload_n (i := 0) hE d_Mo_module1_100 rfl rfl ?_
    refine cx_get hE d_Mo_module1_101 f_Mo_365 (by assumption) (by rfl) ?_
    rw [show (rp_set (rp_set (rp_set (rp_set (if 0 ≤ v_19 then rm_fail 20 ((rp_i M 1).2.1 5 i_19) (rp_i M 1) else rp_i M 1) 13 mc (M.1 8 + 1)) 14 mc ((rp_set (if 0 ≤ v_19 then rm_fail 20 ((rp_i M 1).2.1 5 i_19) (rp_i M 1) else rp_i M 1) 13 mc (M.1 8 + 1)).1 18)) 15 mc ((rp_set (if 0 ≤ v_19 then rm_fail 20 ((rp_i M 1).2.1 5 i_19) (rp_i M 1) else rp_i M 1) 13 mc (M.1 8 + 1)).1 27)) 16 mc ((rp_set (if 0 ≤ v_19 then rm_fail 20 ((rp_i M 1).2.1 5 i_19) (rp_i M 1) else rp_i M 1) 13 mc (M.1 8 + 1)).1 35)).1 38 = (rp_set (if 0 ≤ v_19 then rm_fail 20 ((rp_i M 1).2.1 5 i_19) (rp_i M 1) else rp_i M 1) 13 mc (M.1 8 + 1)).1 38 from rfl]
    refine cx_iast 1 hE d_Mo_module1_104 rfl (W_91.1.i 17 rfl) (vp_in_nI (by show _ < 3601; omega) (by show 3601 < 2147483648; omega)) ?_
    rw [nI_clamp (by omega)]
    refine cx_gen (fun G_104 g_104 => ?_)
    have W_104 : rm_W k mo b G P G_104 P1 (rp_set (rp_set (rp_set (rp_set (rp_set (if 0 ≤ v_19 then rm_fail 20 ((rp_i M 1).2.1 5 i_19) (rp_i M 1) else rp_i M 1) 13 mc (M.1 8 + 1)) 14 mc ((rp_set (if 0 ≤ v_19 then rm_fail 20 ((rp_i M 1).2.1 5 i_19) (rp_i M 1) else rp_i M 1) 13 mc (M.1 8 + 1)).1 18)) 15 mc ((rp_set (if 0 ≤ v_19 then rm_fail 20 ((rp_i M 1).2.1 5 i_19) (rp_i M 1) else rp_i M 1) 13 mc (M.1 8 + 1)).1 27)) 16 mc ((rp_set (if 0 ≤ v_19 then rm_fail 20 ((rp_i M 1).2.1 5 i_19) (rp_i M 1) else rp_i M 1) 13 mc (M.1 8 + 1)).1 35)) 17 mc ((rp_set (if 0 ≤ v_19 then rm_fail 20 ((rp_i M 1).2.1 5 i_19) (rp_i M 1) else rp_i M 1) 13 mc (M.1 8 + 1)).1 38)) := W_91.si 17 rfl g_104
    have m_104 := W_104.1.1
    refine cx_aload_n (i := 0) hE d_Mo_module1_105 rfl rfl ?_
    refine cx_get hE d_Mo_module1_106 f_Mo_101 (by assumption) (by rfl) ?_
    refine cx_aload_n (i := 0) hE d_Mo_module1_109 rfl rfl ?_
    refine cx_get hE d_Mo_module1_110 f_Mo_266 (by assumption) (by rfl) ?_
    rw [show (rp_set (rp_set (rp_set (rp_set (rp_set (if 0 ≤ v_19 then rm_fail 20 ((rp_i M 1).2.1 5 i_19) (rp_i M 1) else rp_i M 1) 13 mc (M.1 8 + 1)) 14 mc ((rp_set (if 0 ≤ v_19 then rm_fail 20 ((rp_i M 1).2.1 5 i_19) (rp_i M 1) else rp_i M 1) 13 mc (M.1 8 + 1)).1 18)) 15 mc ((rp_set (if 0 ≤ v_19 then rm_fail 20 ((rp_i M 1).2.1 5 i_19) (rp_i M 1) else rp_i M 1) 13 mc (M.1 8 + 1)).1 27)) 16 mc ((rp_set (if 0 ≤ v_19 then rm_fail 20 ((rp_i M 1).2.1 5 i_19) (rp_i M 1) else rp_i M 1) 13 mc (M.1 8 + 1)).1 35)) 17 mc ((rp_set (if 0 ≤ v_19 then rm_fail 20 ((rp_i M 1).2.1 5 i_19) (rp_i M 1) else rp_i M 1) 13 mc (M.1 8 + 1)).1 38)).1 12 = nI mc from b12]
    refine cx_lconst (v := 0) hE d_Mo_module1_113 (by decide) ?_
    refine cx_last 2 hE d_Mo_module1_114 rfl (W_104.1.l 45 rfl) (vp_in_nI (by show _ < 3600; omega) (by show 3600 < 2147483648; omega)) ?_
    rw [nI_clamp (by omega)]
    refine cx_gen (fun G_114 g_114 => ?_)
    have W_114 : rm_W k mo b G P G_114 P1 (rp_lset (rp_set (rp_set (rp_set (rp_set (rp_set (if 0 ≤ v_19 then rm_fail 20 ((rp_i M 1).2.1 5 i_19) (rp_i M 1) else rp_i M 1) 13 mc (M.1 8 + 1)) 14 mc ((rp_set (if 0 ≤ v_19 then rm_fail 20 ((rp_i M 1).2.1 5 i_19) (rp_i M 1) else rp_i M 1) 13 mc (M.1 8 + 1)).1 18)) 15 mc ((rp_set (if 0 ≤ v_19 then rm_fail 20 ((rp_i M 1).2.1 5 i_19) (rp_i M 1) else rp_i M 1) 13 mc (M.1 8 + 1)).1 27)) 16 mc ((rp_set (if 0 ≤ v_19 then rm_fail 20 ((rp_i M 1).2.1 5 i_19) (rp_i M 1) else rp_i M 1) 13 mc (M.1 8 + 1)).1 35)) 17 mc ((rp_set (if 0 ≤ v_19 then rm_fail 20 ((rp_i M 1).2.1 5 i_19) (rp_i M 1) else rp_i M 1) 13 mc (M.1 8 + 1)).1 38)) 45 mc 0) := W_104.sl 45 rfl g_114
    have m_114 := W_114.1.1
    refine cx_aload_n (i := 0) hE d_Mo_module1_115 rfl rfl ?_
    refine cx_aload_n (i := 0) hE d_Mo_module1_116 rfl rfl ?_
    refine cx_get hE d_Mo_module1_117 f_Mo_193 (by assumption) (by rfl) ?_
    refine cx_iconst (v := 2) hE d_Mo_module1_120 (by decide) ?_
    refine cx_iadd hE d_Mo_module1_121 ?_
    refine cx_putg hE d_Mo_module1_122 f_Mo_193 (by assumption) (Nat.le_of_ble_eq_true rfl) (by first | rfl | exact cx_nr _ _) (by first | rfl | exact cx_fr _ _) (fun G_122 g_122 h_122 => ?_)
    rw [rm_s8] at g_122
    clear h_122
    have W_122 : rm_W k mo b G P G_122 P1 (rp_i (rp_lset (rp_set (rp_set (rp_set (rp_set (rp_set (if 0 ≤ v_19 then rm_fail 20 ((rp_i M 1).2.1 5 i_19) (rp_i M 1) else rp_i M 1) 13 mc (M.1 8 + 1)) 14 mc ((rp_set (if 0 ≤ v_19 then rm_fail 20 ((rp_i M 1).2.1 5 i_19) (rp_i M 1) else rp_i M 1) 13 mc (M.1 8 + 1)).1 18)) 15 mc ((rp_set (if 0 ≤ v_19 then rm_fail 20 ((rp_i M 1).2.1 5 i_19) (rp_i M 1) else rp_i M 1) 13 mc (M.1 8 + 1)).1 27)) 16 mc ((rp_set (if 0 ≤ v_19 then rm_fail 20 ((rp_i M 1).2.1 5 i_19) (rp_i M 1) else rp_i M 1) 13 mc (M.1 8 + 1)).1 35)) 17 mc ((rp_set (if 0 ≤ v_19 then rm_fail 20 ((rp_i M 1).2.1 5 i_19) (rp_i M 1) else rp_i M 1) 13 mc (M.1 8 + 1)).1 38)) 45 mc 0) 2) := W_114.pi g_122
    have m_122 := W_122.1.1
    refine cx_sub [0] rfl ?_
    exact hpos _ _ _ _ W_122 K_19c
  refine cx_if_lt (tgt := 40)  hE d_Mo_module1_22 (by decide) (fun c_22 => ?_) (fun c_22 => ?_)
  · refine cx_sub [0] rfl ?_
    exact h40 _ _ (by rw [if_neg (Int32.not_le.mpr c_22)]; exact W_7)
  · refine cx_aload_n (i := 0) hE d_Mo_module1_25 rfl rfl ?_
    refine cx_bipush (v := 20) hE d_Mo_module1_26 (by decide) ?_
    refine cx_aload_n (i := 0) hE d_Mo_module1_28 rfl rfl ?_
    refine cx_get hE d_Mo_module1_29 f_Mo_19 (by assumption) (by rfl) ?_
    refine cx_aload_n (i := 0) hE d_Mo_module1_32 rfl rfl ?_
    refine cx_get hE d_Mo_module1_33 f_Mo_193 (by assumption) (by rfl) ?_
    rw [e_19]
    refine cx_iald 1 hE d_Mo_module1_36 rfl (W_7.1.i 5 rfl) (vp_in_nI (by show _ < 65540; omega) (by show 65540 < 2147483648; omega)) ?_
    rw [nI_clamp (by omega)]
    refine cx_w0 hE d_Mo_module1_37 l_Mo_196 W_7 (s_fail (K := fun Mq9 => Mq9 = rm_fail _ _ (rp_i M 1)) W_7.1 W_7.2.2 rfl) rfl (by omega) (Nat.le_of_ble_eq_true rfl) n_Mo_fail (by first | rfl | (simp only [List.map_cons, List.map_nil, cx_rfc]; rfl)) (fun G_37 P_37 M_37 W_37 K_37 => ?_)
    have m_37 := W_37.1.1
    refine cx_sub [0] rfl ?_
    exact h40 _ _ (by rw [if_pos (Int32.not_lt.mp c_22)]; subst K_37; exact W_37)
set_option maxRecDepth 100000 in
theorem c_Mo_design {k : cx_K} {l : Launch} {G : cx_G} {N : Nat} {mo : Nat} {P : Nat → Nat} {M : rm_M} {b : Nat × Nat} (hm : rm_R k G mo P M) (hQ : rm_Q b G M) {K : rm_M → Prop} (hK : rp_dsg N K M)  : cx_Sp k l m_Mo_design 437 [.ref mo] G (rp_P0 k mo b G P K) := by
  intro E hE
  have W0 := rm_W.rf hm hQ
  have m0 := hm.1
  have hmds : ∀ (n : Nat) (Gx : cx_G) (Px : Nat → Nat) (Mx : rm_M), rm_W k mo b G P Gx Px Mx → rp_mds N K n Mx → cx_V E 62 [(0, false, .ref mo)] [] Gx := by
    intro n
    induction n with
    | zero => intro Gx Px Mx _ h; exact h.elim
    | succ n ih =>
      intro Gx Px Mx Wx hK
      have mx := Wx.1.1
      unfold rp_mds at hK
      refine cx_aload_n (i := 0) hE d_Mo_design_62 rfl rfl ?_
      refine cx_get hE d_Mo_design_63 f_Mo_187 (by assumption) (by rfl) ?_
      refine cx_if_ne (tgt := 86)  hE d_Mo_design_66 (by decide) (fun c_66 => ?_) (fun c_66 => ?_)
      · have K_66 := rp_ifn hK c_66
        refine cx_vret hE d_Mo_design_86 rfl ?_
        exact ⟨_, _, rfl, Wx, K_66⟩
      · have K_66 := rp_ifp hK c_66
        refine cx_aload_n (i := 0) hE d_Mo_design_69 rfl rfl ?_
        refine cx_wR hE d_Mo_design_70 l_Mo_216 Wx (s_kind Wx.1 K_66) rfl (by omega) (Nat.le_of_ble_eq_true rfl) n_Mo_kind (by first | rfl | (simp only [List.map_cons, List.map_nil, cx_rfc]; rfl)) (fun v_70 K_70 => ?_)
        refine cx_sipush (v := 403) hE d_Mo_design_73 (by decide) ?_
        refine cx_icmp_eq (tgt := 86)  hE d_Mo_design_76 (by decide) (fun c_76 => ?_) (fun c_76 => ?_)
        · have K_76 := rp_ifp K_70 c_76
          refine cx_vret hE d_Mo_design_86 rfl ?_
          exact ⟨_, _, rfl, Wx, K_76⟩
        · have K_76 := rp_ifn K_70 c_76
          refine cx_aload_n (i := 0) hE d_Mo_design_79 rfl rfl ?_
          refine cx_w0 hE d_Mo_design_80 l_Mo_395 Wx (c_Mo_module1 Wx.1 Wx.2.2 K_76) rfl (by omega) (Nat.le_of_ble_eq_true rfl) n_Mo_module1 (by first | rfl | (simp only [List.map_cons, List.map_nil, cx_rfc]; rfl)) (fun G_80 P_80 M_80 W_80 K_80 => ?_)
          have m_80 := W_80.1.1
          refine cx_goto (tgt := 62) hE d_Mo_design_83 (by decide) ?_
          refine cx_sub [0] rfl ?_
          exact ih _ _ _ W_80 K_80
  refine cx_aload_n (i := 0) hE d_Mo_design_0 rfl rfl ?_
  refine cx_iconst (v := 0) hE d_Mo_design_1 (by decide) ?_
  refine cx_putg hE d_Mo_design_2 f_Mo_193 (by assumption) (Nat.le_of_ble_eq_true rfl) (by first | rfl | exact cx_nr _ _) (by first | rfl | exact cx_fr _ _) (fun G_2 g_2 h_2 => ?_)
  rw [rm_s8] at g_2
  clear h_2
  have W_2 : rm_W k mo b G P G_2 P (rp_int M 8 0) := W0.pi g_2
  have m_2 := W_2.1.1
  refine cx_aload_n (i := 0) hE d_Mo_design_5 rfl rfl ?_
  refine cx_iconst (v := 0) hE d_Mo_design_6 (by decide) ?_
  refine cx_putg hE d_Mo_design_7 f_Mo_266 (by assumption) (Nat.le_of_ble_eq_true rfl) (by first | rfl | exact cx_nr _ _) (by first | rfl | exact cx_fr _ _) (fun G_7 g_7 h_7 => ?_)
  rw [rm_s12] at g_7
  clear h_7
  have W_7 : rm_W k mo b G P G_7 P (rp_int (rp_int M 8 0) 12 0) := W_2.pi g_7
  have m_7 := W_7.1.1
  refine cx_aload_n (i := 0) hE d_Mo_design_10 rfl rfl ?_
  refine cx_iconst (v := 0) hE d_Mo_design_11 (by decide) ?_
  refine cx_putg hE d_Mo_design_12 f_Mo_269 (by assumption) (Nat.le_of_ble_eq_true rfl) (by first | rfl | exact cx_nr _ _) (by first | rfl | exact cx_fr _ _) (fun G_12 g_12 h_12 => ?_)
  rw [rm_s18] at g_12
  clear h_12
  have W_12 : rm_W k mo b G P G_12 P (rp_int (rp_int (rp_int M 8 0) 12 0) 18 0) := W_7.pi g_12
  have m_12 := W_12.1.1
  refine cx_aload_n (i := 0) hE d_Mo_design_15 rfl rfl ?_
  refine cx_iconst (v := 0) hE d_Mo_design_16 (by decide) ?_
  refine cx_putg hE d_Mo_design_17 f_Mo_276 (by assumption) (Nat.le_of_ble_eq_true rfl) (by first | rfl | exact cx_nr _ _) (by first | rfl | exact cx_fr _ _) (fun G_17 g_17 h_17 => ?_)
  rw [rm_s27] at g_17
  clear h_17
  have W_17 : rm_W k mo b G P G_17 P (rp_int (rp_int (rp_int (rp_int M 8 0) 12 0) 18 0) 27 0) := W_12.pi g_17
  have m_17 := W_17.1.1
  refine cx_aload_n (i := 0) hE d_Mo_design_20 rfl rfl ?_
  refine cx_iconst (v := 0) hE d_Mo_design_21 (by decide) ?_
  refine cx_putg hE d_Mo_design_22 f_Mo_371 (by assumption) (Nat.le_of_ble_eq_true rfl) (by first | rfl | exact cx_nr _ _) (by first | rfl | exact cx_fr _ _) (fun G_22 g_22 h_22 => ?_)
  rw [rm_s31] at g_22
  clear h_22
  have W_22 : rm_W k mo b G P G_22 P (rp_int (rp_int (rp_int (rp_int (rp_int M 8 0) 12 0) 18 0) 27 0) 31 0) := W_17.pi g_22
  have m_22 := W_22.1.1
  refine cx_aload_n (i := 0) hE d_Mo_design_25 rfl rfl ?_
  refine cx_iconst (v := 0) hE d_Mo_design_26 (by decide) ?_
  refine cx_putg hE d_Mo_design_27 f_Mo_383 (by assumption) (Nat.le_of_ble_eq_true rfl) (by first | rfl | exact cx_nr _ _) (by first | rfl | exact cx_fr _ _) (fun G_27 g_27 h_27 => ?_)
  rw [rm_s35] at g_27
  clear h_27
  have W_27 : rm_W k mo b G P G_27 P (rp_int (rp_int (rp_int (rp_int (rp_int (rp_int M 8 0) 12 0) 18 0) 27 0) 31 0) 35 0) := W_22.pi g_27
  have m_27 := W_27.1.1
  refine cx_aload_n (i := 0) hE d_Mo_design_30 rfl rfl ?_
  refine cx_iconst (v := 0) hE d_Mo_design_31 (by decide) ?_
  refine cx_putg hE d_Mo_design_32 f_Mo_365 (by assumption) (Nat.le_of_ble_eq_true rfl) (by first | rfl | exact cx_nr _ _) (by first | rfl | exact cx_fr _ _) (fun G_32 g_32 h_32 => ?_)
  rw [rm_s38] at g_32
  clear h_32
  have W_32 : rm_W k mo b G P G_32 P (rp_int (rp_int (rp_int (rp_int (rp_int (rp_int (rp_int M 8 0) 12 0) 18 0) 27 0) 31 0) 35 0) 38 0) := W_27.pi g_32
  have m_32 := W_32.1.1
  refine cx_aload_n (i := 0) hE d_Mo_design_35 rfl rfl ?_
  refine cx_iconst (v := 0) hE d_Mo_design_36 (by decide) ?_
  refine cx_putg hE d_Mo_design_37 f_Mo_279 (by assumption) (Nat.le_of_ble_eq_true rfl) (by first | rfl | exact cx_nr _ _) (by first | rfl | exact cx_fr _ _) (fun G_37 g_37 h_37 => ?_)
  rw [rm_s42] at g_37
  clear h_37
  have W_37 : rm_W k mo b G P G_37 P (rp_int (rp_int (rp_int (rp_int (rp_int (rp_int (rp_int (rp_int M 8 0) 12 0) 18 0) 27 0) 31 0) 35 0) 38 0) 42 0) := W_32.pi g_37
  have m_37 := W_37.1.1
  refine cx_aload_n (i := 0) hE d_Mo_design_40 rfl rfl ?_
  refine cx_iconst (v := 0) hE d_Mo_design_41 (by decide) ?_
  refine cx_putg hE d_Mo_design_42 f_Mo_282 (by assumption) (Nat.le_of_ble_eq_true rfl) (by first | rfl | exact cx_nr _ _) (by first | rfl | exact cx_fr _ _) (fun G_42 g_42 h_42 => ?_)
  rw [rm_s44] at g_42
  clear h_42
  have W_42 : rm_W k mo b G P G_42 P (rp_int (rp_int (rp_int (rp_int (rp_int (rp_int (rp_int (rp_int (rp_int M 8 0) 12 0) 18 0) 27 0) 31 0) 35 0) 38 0) 42 0) 44 0) := W_37.pi g_42
  have m_42 := W_42.1.1
  refine cx_aload_n (i := 0) hE d_Mo_design_45 rfl rfl ?_
  refine cx_iconst (v := 0) hE d_Mo_design_46 (by decide) ?_
  refine cx_putg hE d_Mo_design_47 f_Mo_298 (by assumption) (Nat.le_of_ble_eq_true rfl) (by first | rfl | exact cx_nr _ _) (by first | rfl | exact cx_fr _ _) (fun G_47 g_47 h_47 => ?_)
  rw [rm_s48] at g_47
  clear h_47
  have W_47 : rm_W k mo b G P G_47 P (rp_int (rp_int (rp_int (rp_int (rp_int (rp_int (rp_int (rp_int (rp_int (rp_int M 8 0) 12 0) 18 0) 27 0) 31 0) 35 0) 38 0) 42 0) 44 0) 48 0) := W_42.pi g_47
  have m_47 := W_47.1.1
  refine cx_aload_n (i := 0) hE d_Mo_design_50 rfl rfl ?_
  refine cx_iconst (v := 0) hE d_Mo_design_51 (by decide) ?_
  refine cx_putg hE d_Mo_design_52 f_Mo_310 (by assumption) (Nat.le_of_ble_eq_true rfl) (by first | rfl | exact cx_nr _ _) (by first | rfl | exact cx_fr _ _) (fun G_52 g_52 h_52 => ?_)
  rw [rm_s50] at g_52
  clear h_52
  have W_52 : rm_W k mo b G P G_52 P (rp_int (rp_int (rp_int (rp_int (rp_int (rp_int (rp_int (rp_int (rp_int (rp_int (rp_int M 8 0) 12 0) 18 0) 27 0) 31 0) 35 0) 38 0) 42 0) 44 0) 48 0) 50 0) := W_47.pi g_52
  have m_52 := W_52.1.1
  refine cx_aload_n (i := 0) hE d_Mo_design_55 rfl rfl ?_
  refine cx_get hE d_Mo_design_56 f_Mo_71 (by assumption) (by rfl) ?_
  refine cx_iconst (v := 0) hE d_Mo_design_59 (by decide) ?_
  refine cx_iconst (v := 0) hE d_Mo_design_60 (by decide) ?_
  show cx_V E _ _ (.int 0 :: .int (nI 0) :: _) _
  refine cx_iast 1 hE d_Mo_design_61 rfl (W_52.1.i 30 rfl) (vp_in_nI (by show _ < 11001; omega) (by show 11001 < 2147483648; omega)) ?_
  rw [nI_clamp (by omega)]
  refine cx_gen (fun G_61 g_61 => ?_)
  have W_61 : rm_W k mo b G P G_61 P (rp_clr M) := W_52.si 30 rfl g_61
  have m_61 := W_61.1.1
  refine cx_sub [0] rfl ?_
  exact hmds _ _ _ _ W_61 hK

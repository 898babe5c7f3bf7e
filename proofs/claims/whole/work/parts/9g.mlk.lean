/-! THE SECOND PASS: links, step by step. -/
theorem rq_if {c : Prop} [Decidable c] {w p : Int32} {A : rm_M} {j : Nat} (h9 : j ≠ 9) (h10 : j ≠ 10) : (if c then A else rm_fail w p A).1 j = A.1 j := by
  by_cases z : c
  · rw [if_pos z]
  · rw [if_neg z]
    unfold rm_fail
    by_cases y : A.1 9 = 0
    · rw [if_pos y]
      show va_up (va_up A.1 9 w) 10 p j = _
      rw [va_up_ne _ _ h10, va_up_ne _ _ h9]
    · rw [if_neg y]
theorem s_sgn {k : cx_K} {l : Launch} {G : cx_G} {P : Nat → Nat} {mo m : Nat} {M : rm_M} {x : Int32} {K : Int32 → Prop} (hR : rm_R k G mo P M) (h : rp_sgn x m M K) : cx_Sp k l m_Mo_signalNamed 1 [.ref mo, .int x, .int (M.2.1 14 m), .int (M.2.1 14 (m + 1))] G (rp_R G K) := by
  obtain ⟨n, T, i, lo, hi, h1, rfl, h2, h3, h4, h5, h6, h7, h8, h9, h10⟩ := h
  rw [h5, h6]
  exact (c_Mo_signalNamed hR h1 h2 h3 h7 h8 h9).weaken (fun r G' q => ⟨_, q.1, q.2, h10⟩)
set_option maxRecDepth 100000 in
theorem c_Mo_link {k : cx_K} {l : Launch} {G : cx_G} {N : Nat} {mo : Nat} {P : Nat → Nat} {M : rm_M} {b : Nat × Nat} (hm : rm_R k G mo P M) (hQ : rm_Q b G M) {m : Nat} {K : rm_M → Prop} (hK : rp_lnk N m K M)  : cx_Sp k l m_Mo_link 311 [.ref mo, .int (nI m)] G (rp_P0 k mo b G P K) := by
  intro E hE
  have W0 := rm_W.rf hm hQ
  have m0 := hm.1
  have h215f : ∀ (j p : Nat) (dot fm w x : Int32) (G1 : cx_G) (P1 : Nat → Nat) (M1 : rm_M), p < 11000 → rm_W k mo b G P G1 P1 M1 → rp_lnt p dot false (-1) 0 fm w K M1 → cx_V E 215 [(8, false, .int x), (7, false, .int 0), (6, false, .int w), (5, false, .int fm), (4, false, .int (nI j)), (3, false, .int (nI p)), (2, false, .int dot), (0, false, .ref mo), (1, false, .int (nI m))] [] G1 := by
    intro j p dot fm w x G1 P1 M1 lp W1 hK
    have m1 := W1.1.1
    obtain ⟨lk, e31, l31, hK⟩ := hK
    rw [if_neg (by decide)] at hK
    have q31 : (if w = M1.2.1 20 p then M1 else rm_fail 30 dot M1).1 31 = nI lk := by
      split
      · exact e31
      · rw [(rx_o.fail _ _ _).1 31 (by decide) (by decide) (by decide) (by decide)]; exact e31
    have q42 : (if w = M1.2.1 20 p then M1 else rm_fail 30 dot M1).1 42 = M1.1 42 := by
      split
      · rfl
      · exact (rx_o.fail _ _ _).1 42 (by decide) (by decide) (by decide) (by decide)
    have q27 : (if w = M1.2.1 20 p then M1 else rm_fail 30 dot M1).1 27 = M1.1 27 := by
      split
      · rfl
      · exact (rx_o.fail _ _ _).1 27 (by decide) (by decide) (by decide) (by decide)
    have qr : (if w = M1.2.1 20 p then M1 else rm_fail 30 dot M1).2.1 = M1.2.1 := by
      split
      · rfl
      · exact (rx_o.fail _ _ _).2.1
    have h233 : ∀ (G2 : cx_G) (P2 : Nat → Nat), rm_W k mo b G P G2 P2 (if w = M1.2.1 20 p then M1 else rm_fail 30 dot M1) → cx_V E 233 [(8, false, .int x), (7, false, .int 0), (6, false, .int w), (5, false, .int fm), (4, false, .int (nI j)), (3, false, .int (nI p)), (2, false, .int dot), (0, false, .ref mo), (1, false, .int (nI m))] [] G2 := by
      intro G2 P2 W2
      have m2 := W2.1.1
      refine cx_iload hE d_Mo_link_233 rfl ?_
      refine cx_if_eq (tgt := 261)  hE d_Mo_link_235 (by decide) (fun c_235 => ?_) (fun c_235 => ?_)
      · refine cx_aload_n (i := 0) hE d_Mo_link_261 rfl rfl ?_
        refine cx_get hE d_Mo_link_262 f_Mo_74 (by assumption) (by rfl) ?_
        refine cx_aload_n (i := 0) hE d_Mo_link_265 rfl rfl ?_
        refine cx_get hE d_Mo_link_266 f_Mo_371 (by assumption) (by rfl) ?_
        rw [q31]
        refine cx_iload_n (i := 3) hE d_Mo_link_269 rfl rfl ?_
        refine cx_iast 1 hE d_Mo_link_270 rfl (W2.1.i 32 rfl) (vp_in_nI (by show _ < 11000; omega) (by show 11000 < 2147483648; omega)) ?_
        rw [nI_clamp (by omega)]
        refine cx_gen (fun G_270 g_270 => ?_)
        have W_270 : rm_W k mo b G P G_270 P2 (rp_set (if w = M1.2.1 20 p then M1 else rm_fail 30 dot M1) 32 lk (nI p)) := W2.si 32 rfl g_270
        have m_270 := W_270.1.1
        refine cx_aload_n (i := 0) hE d_Mo_link_271 rfl rfl ?_
        refine cx_get hE d_Mo_link_272 f_Mo_77 (by assumption) (by rfl) ?_
        refine cx_aload_n (i := 0) hE d_Mo_link_275 rfl rfl ?_
        refine cx_get hE d_Mo_link_276 f_Mo_371 (by assumption) (by rfl) ?_
        rw [show (rp_set (if w = M1.2.1 20 p then M1 else rm_fail 30 dot M1) 32 lk (nI p)).1 31 = nI lk from q31]
        refine cx_iload hE d_Mo_link_279 rfl ?_
        refine cx_iast 1 hE d_Mo_link_281 rfl (W_270.1.i 33 rfl) (vp_in_nI (by show _ < 11000; omega) (by show 11000 < 2147483648; omega)) ?_
        rw [nI_clamp (by omega)]
        refine cx_gen (fun G_281 g_281 => ?_)
        have W_281 : rm_W k mo b G P G_281 P2 (rp_set (rp_set (if w = M1.2.1 20 p then M1 else rm_fail 30 dot M1) 32 lk (nI p)) 33 lk fm) := W_270.si 33 rfl g_281
        have m_281 := W_281.1.1
        refine cx_aload_n (i := 0) hE d_Mo_link_282 rfl rfl ?_
        refine cx_get hE d_Mo_link_283 f_Mo_80 (by assumption) (by rfl) ?_
        refine cx_aload_n (i := 0) hE d_Mo_link_286 rfl rfl ?_
        refine cx_get hE d_Mo_link_287 f_Mo_371 (by assumption) (by rfl) ?_
        rw [show (rp_set (rp_set (if w = M1.2.1 20 p then M1 else rm_fail 30 dot M1) 32 lk (nI p)) 33 lk fm).1 31 = nI lk from q31]
        refine cx_aload_n (i := 0) hE d_Mo_link_290 rfl rfl ?_
        refine cx_get hE d_Mo_link_291 f_Mo_279 (by assumption) (by rfl) ?_
        rw [show (rp_set (rp_set (if w = M1.2.1 20 p then M1 else rm_fail 30 dot M1) 32 lk (nI p)) 33 lk fm).1 42 = M1.1 42 from q42]
        refine cx_iast 1 hE d_Mo_link_294 rfl (W_281.1.i 34 rfl) (vp_in_nI (by show _ < 11000; omega) (by show 11000 < 2147483648; omega)) ?_
        rw [nI_clamp (by omega)]
        refine cx_gen (fun G_294 g_294 => ?_)
        have W_294 : rm_W k mo b G P G_294 P2 (rp_set (rp_set (rp_set (if w = M1.2.1 20 p then M1 else rm_fail 30 dot M1) 32 lk (nI p)) 33 lk fm) 34 lk (M1.1 42)) := W_281.si 34 rfl g_294
        have m_294 := W_294.1.1
        refine cx_aload_n (i := 0) hE d_Mo_link_295 rfl rfl ?_
        refine cx_dup hE d_Mo_link_296 ?_
        refine cx_get hE d_Mo_link_297 f_Mo_371 (by assumption) (by rfl) ?_
        rw [show (rp_set (rp_set (rp_set (if w = M1.2.1 20 p then M1 else rm_fail 30 dot M1) 32 lk (nI p)) 33 lk fm) 34 lk (M1.1 42)).1 31 = nI lk from q31]
        refine cx_iconst (v := 1) hE d_Mo_link_300 (by decide) ?_
        refine cx_iadd hE d_Mo_link_301 ?_
        rw [nI_1]
        refine cx_putg hE d_Mo_link_302 f_Mo_371 (by assumption) (Nat.le_of_ble_eq_true rfl) (by first | rfl | exact cx_nr _ _) (by first | rfl | exact cx_fr _ _) (fun G_302 g_302 h_302 => ?_)
        rw [rm_s31] at g_302
        clear h_302
        have W_302 : rm_W k mo b G P G_302 P2 (rp_int (rp_set (rp_set (rp_set (if w = M1.2.1 20 p then M1 else rm_fail 30 dot M1) 32 lk (nI p)) 33 lk fm) 34 lk (M1.1 42)) 31 (nI (lk + 1))) := W_294.pi g_302
        have m_302 := W_302.1.1
        refine cx_iload hE d_Mo_link_305 rfl ?_
        refine cx_if_eq (tgt := 337)  hE d_Mo_link_307 (by decide) (fun c_307 => ?_) (fun c_307 => ?_)
        · refine cx_aload_n (i := 0) hE d_Mo_link_337 rfl rfl ?_
          refine cx_dup hE d_Mo_link_338 ?_
          refine cx_get hE d_Mo_link_339 f_Mo_193 (by assumption) (by rfl) ?_
          refine cx_iconst (v := 1) hE d_Mo_link_342 (by decide) ?_
          refine cx_iadd hE d_Mo_link_343 ?_
          refine cx_putg hE d_Mo_link_344 f_Mo_193 (by assumption) (Nat.le_of_ble_eq_true rfl) (by first | rfl | exact cx_nr _ _) (by first | rfl | exact cx_fr _ _) (fun G_344 g_344 h_344 => ?_)
          rw [rm_s8] at g_344
          clear h_344
          have W_344 : rm_W k mo b G P G_344 P2 (rp_i (rp_int (rp_set (rp_set (rp_set (if w = M1.2.1 20 p then M1 else rm_fail 30 dot M1) 32 lk (nI p)) 33 lk fm) 34 lk (M1.1 42)) 31 (nI (lk + 1))) 1) := W_302.pi g_344
          have m_344 := W_344.1.1
          refine cx_vret hE d_Mo_link_347 rfl ?_
          exact ⟨_, _, rfl, W_344, hK⟩
        · exact absurd rfl c_307
          -- end
      · exact absurd rfl c_235
        -- end
    refine cx_iload hE d_Mo_link_215 rfl ?_
    refine cx_aload_n (i := 0) hE d_Mo_link_217 rfl rfl ?_
    refine cx_get hE d_Mo_link_218 f_Mo_43 (by assumption) (by rfl) ?_
    refine cx_iload_n (i := 3) hE d_Mo_link_221 rfl rfl ?_
    refine cx_iald 1 hE d_Mo_link_222 rfl (W1.1.i 20 rfl) (vp_in_nI (by show _ < 11000; omega) (by show 11000 < 2147483648; omega)) ?_
    rw [nI_clamp (by omega)]
    refine cx_icmp_eq (tgt := 233)  hE d_Mo_link_223 (by decide) (fun c_223 => ?_) (fun c_223 => ?_)
    · refine cx_sub [0, 1, 2, 3, 4, 5, 6, 7, 8] rfl ?_
      exact h233 _ _ (by rw [if_pos c_223]; exact W1)
    · refine cx_aload_n (i := 0) hE d_Mo_link_226 rfl rfl ?_
      refine cx_bipush (v := 30) hE d_Mo_link_227 (by decide) ?_
      refine cx_iload_n (i := 2) hE d_Mo_link_229 rfl rfl ?_
      refine cx_w0 hE d_Mo_link_230 l_Mo_196 W1 (s_fail (K := fun Mq9 => Mq9 = rm_fail _ _ M1) W1.1 W1.2.2 rfl) rfl (by omega) (Nat.le_of_ble_eq_true rfl) n_Mo_fail (by first | rfl | (simp only [List.map_cons, List.map_nil, cx_rfc]; rfl)) (fun G_230 P_230 M_230 W_230 K_230 => ?_)
      have m_230 := W_230.1.1
      refine cx_sub [0, 1, 2, 3, 4, 5, 6, 7, 8] rfl ?_
      exact h233 _ _ (by rw [if_neg c_223]; subst K_230; exact W_230)
  have h215t : ∀ (j p x : Nat) (dot fm w : Int32) (G1 : cx_G) (P1 : Nat → Nat) (M1 : rm_M), p < 11000 → x < 11000 → j < 65540 → rm_W k mo b G P G1 P1 M1 → rp_lnt p dot true (nI x) (M1.2.1 5 j) fm w K M1 → cx_V E 215 [(8, false, .int (nI x)), (7, false, .int 1), (6, false, .int w), (5, false, .int fm), (4, false, .int (nI j)), (3, false, .int (nI p)), (2, false, .int dot), (0, false, .ref mo), (1, false, .int (nI m))] [] G1 := by
    intro j p x dot fm w G1 P1 M1 lp lx lj W1 hK
    have m1 := W1.1.1
    obtain ⟨lk, e31, l31, hK⟩ := hK
    rw [if_pos rfl] at hK
    obtain ⟨x2, ex2, lx2, hK⟩ := hK
    have ex3 := (nI_eq (by omega) (by omega)).mp ex2
    subst ex3
    have q31 : (if w = M1.2.1 20 p then M1 else rm_fail 30 dot M1).1 31 = nI lk := by
      split
      · exact e31
      · rw [(rx_o.fail _ _ _).1 31 (by decide) (by decide) (by decide) (by decide)]; exact e31
    have q42 : (if w = M1.2.1 20 p then M1 else rm_fail 30 dot M1).1 42 = M1.1 42 := by
      split
      · rfl
      · exact (rx_o.fail _ _ _).1 42 (by decide) (by decide) (by decide) (by decide)
    have q27 : (if w = M1.2.1 20 p then M1 else rm_fail 30 dot M1).1 27 = M1.1 27 := by
      split
      · rfl
      · exact (rx_o.fail _ _ _).1 27 (by decide) (by decide) (by decide) (by decide)
    have qr : (if w = M1.2.1 20 p then M1 else rm_fail 30 dot M1).2.1 = M1.2.1 := by
      split
      · rfl
      · exact (rx_o.fail _ _ _).2.1
    have r31 : (if (if w = M1.2.1 20 p then M1 else rm_fail 30 dot M1).2.1 23 x = 0 then (if w = M1.2.1 20 p then M1 else rm_fail 30 dot M1) else rm_fail 31 (M1.2.1 5 j) (if w = M1.2.1 20 p then M1 else rm_fail 30 dot M1)).1 31 = nI lk := (rq_if (by decide) (by decide)).trans q31
    have r42 : (if (if w = M1.2.1 20 p then M1 else rm_fail 30 dot M1).2.1 23 x = 0 then (if w = M1.2.1 20 p then M1 else rm_fail 30 dot M1) else rm_fail 31 (M1.2.1 5 j) (if w = M1.2.1 20 p then M1 else rm_fail 30 dot M1)).1 42 = M1.1 42 := (rq_if (by decide) (by decide)).trans q42
    have r27 : (if (if w = M1.2.1 20 p then M1 else rm_fail 30 dot M1).2.1 23 x = 0 then (if w = M1.2.1 20 p then M1 else rm_fail 30 dot M1) else rm_fail 31 (M1.2.1 5 j) (if w = M1.2.1 20 p then M1 else rm_fail 30 dot M1)).1 27 = M1.1 27 := (rq_if (by decide) (by decide)).trans q27
    have h261 : ∀ (G2 : cx_G) (P2 : Nat → Nat), rm_W k mo b G P G2 P2 (if (if w = M1.2.1 20 p then M1 else rm_fail 30 dot M1).2.1 23 x = 0 then (if w = M1.2.1 20 p then M1 else rm_fail 30 dot M1) else rm_fail 31 (M1.2.1 5 j) (if w = M1.2.1 20 p then M1 else rm_fail 30 dot M1)) → cx_V E 261 [(8, false, .int (nI x)), (7, false, .int 1), (6, false, .int w), (5, false, .int fm), (4, false, .int (nI j)), (3, false, .int (nI p)), (2, false, .int dot), (0, false, .ref mo), (1, false, .int (nI m))] [] G2 := by
      intro G2 P2 W2
      have m2 := W2.1.1
      refine cx_aload_n (i := 0) hE d_Mo_link_261 rfl rfl ?_
      refine cx_get hE d_Mo_link_262 f_Mo_74 (by assumption) (by rfl) ?_
      refine cx_aload_n (i := 0) hE d_Mo_link_265 rfl rfl ?_
      refine cx_get hE d_Mo_link_266 f_Mo_371 (by assumption) (by rfl) ?_
      rw [r31]
      refine cx_iload_n (i := 3) hE d_Mo_link_269 rfl rfl ?_
      refine cx_iast 1 hE d_Mo_link_270 rfl (W2.1.i 32 rfl) (vp_in_nI (by show _ < 11000; omega) (by show 11000 < 2147483648; omega)) ?_
      rw [nI_clamp (by omega)]
      refine cx_gen (fun G_270 g_270 => ?_)
      have W_270 : rm_W k mo b G P G_270 P2 (rp_set (if (if w = M1.2.1 20 p then M1 else rm_fail 30 dot M1).2.1 23 x = 0 then (if w = M1.2.1 20 p then M1 else rm_fail 30 dot M1) else rm_fail 31 (M1.2.1 5 j) (if w = M1.2.1 20 p then M1 else rm_fail 30 dot M1)) 32 lk (nI p)) := W2.si 32 rfl g_270
      have m_270 := W_270.1.1
      refine cx_aload_n (i := 0) hE d_Mo_link_271 rfl rfl ?_
      refine cx_get hE d_Mo_link_272 f_Mo_77 (by assumption) (by rfl) ?_
      refine cx_aload_n (i := 0) hE d_Mo_link_275 rfl rfl ?_
      refine cx_get hE d_Mo_link_276 f_Mo_371 (by assumption) (by rfl) ?_
      rw [show (rp_set (if (if w = M1.2.1 20 p then M1 else rm_fail 30 dot M1).2.1 23 x = 0 then (if w = M1.2.1 20 p then M1 else rm_fail 30 dot M1) else rm_fail 31 (M1.2.1 5 j) (if w = M1.2.1 20 p then M1 else rm_fail 30 dot M1)) 32 lk (nI p)).1 31 = nI lk from r31]
      refine cx_iload hE d_Mo_link_279 rfl ?_
      refine cx_iast 1 hE d_Mo_link_281 rfl (W_270.1.i 33 rfl) (vp_in_nI (by show _ < 11000; omega) (by show 11000 < 2147483648; omega)) ?_
      rw [nI_clamp (by omega)]
      refine cx_gen (fun G_281 g_281 => ?_)
      have W_281 : rm_W k mo b G P G_281 P2 (rp_set (rp_set (if (if w = M1.2.1 20 p then M1 else rm_fail 30 dot M1).2.1 23 x = 0 then (if w = M1.2.1 20 p then M1 else rm_fail 30 dot M1) else rm_fail 31 (M1.2.1 5 j) (if w = M1.2.1 20 p then M1 else rm_fail 30 dot M1)) 32 lk (nI p)) 33 lk fm) := W_270.si 33 rfl g_281
      have m_281 := W_281.1.1
      refine cx_aload_n (i := 0) hE d_Mo_link_282 rfl rfl ?_
      refine cx_get hE d_Mo_link_283 f_Mo_80 (by assumption) (by rfl) ?_
      refine cx_aload_n (i := 0) hE d_Mo_link_286 rfl rfl ?_
      refine cx_get hE d_Mo_link_287 f_Mo_371 (by assumption) (by rfl) ?_
      rw [show (rp_set (rp_set (if (if w = M1.2.1 20 p then M1 else rm_fail 30 dot M1).2.1 23 x = 0 then (if w = M1.2.1 20 p then M1 else rm_fail 30 dot M1) else rm_fail 31 (M1.2.1 5 j) (if w = M1.2.1 20 p then M1 else rm_fail 30 dot M1)) 32 lk (nI p)) 33 lk fm).1 31 = nI lk from r31]
      refine cx_aload_n (i := 0) hE d_Mo_link_290 rfl rfl ?_
      refine cx_get hE d_Mo_link_291 f_Mo_279 (by assumption) (by rfl) ?_
      rw [show (rp_set (rp_set (if (if w = M1.2.1 20 p then M1 else rm_fail 30 dot M1).2.1 23 x = 0 then (if w = M1.2.1 20 p then M1 else rm_fail 30 dot M1) else rm_fail 31 (M1.2.1 5 j) (if w = M1.2.1 20 p then M1 else rm_fail 30 dot M1)) 32 lk (nI p)) 33 lk fm).1 42 = M1.1 42 from r42]
      refine cx_iast 1 hE d_Mo_link_294 rfl (W_281.1.i 34 rfl) (vp_in_nI (by show _ < 11000; omega) (by show 11000 < 2147483648; omega)) ?_
      rw [nI_clamp (by omega)]
      refine cx_gen (fun G_294 g_294 => ?_)
      have W_294 : rm_W k mo b G P G_294 P2 (rp_set (rp_set (rp_set (if (if w = M1.2.1 20 p then M1 else rm_fail 30 dot M1).2.1 23 x = 0 then (if w = M1.2.1 20 p then M1 else rm_fail 30 dot M1) else rm_fail 31 (M1.2.1 5 j) (if w = M1.2.1 20 p then M1 else rm_fail 30 dot M1)) 32 lk (nI p)) 33 lk fm) 34 lk (M1.1 42)) := W_281.si 34 rfl g_294
      have m_294 := W_294.1.1
      refine cx_aload_n (i := 0) hE d_Mo_link_295 rfl rfl ?_
      refine cx_dup hE d_Mo_link_296 ?_
      refine cx_get hE d_Mo_link_297 f_Mo_371 (by assumption) (by rfl) ?_
      rw [show (rp_set (rp_set (rp_set (if (if w = M1.2.1 20 p then M1 else rm_fail 30 dot M1).2.1 23 x = 0 then (if w = M1.2.1 20 p then M1 else rm_fail 30 dot M1) else rm_fail 31 (M1.2.1 5 j) (if w = M1.2.1 20 p then M1 else rm_fail 30 dot M1)) 32 lk (nI p)) 33 lk fm) 34 lk (M1.1 42)).1 31 = nI lk from r31]
      refine cx_iconst (v := 1) hE d_Mo_link_300 (by decide) ?_
      refine cx_iadd hE d_Mo_link_301 ?_
      rw [nI_1]
      refine cx_putg hE d_Mo_link_302 f_Mo_371 (by assumption) (Nat.le_of_ble_eq_true rfl) (by first | rfl | exact cx_nr _ _) (by first | rfl | exact cx_fr _ _) (fun G_302 g_302 h_302 => ?_)
      rw [rm_s31] at g_302
      clear h_302
      have W_302 : rm_W k mo b G P G_302 P2 (rp_int (rp_set (rp_set (rp_set (if (if w = M1.2.1 20 p then M1 else rm_fail 30 dot M1).2.1 23 x = 0 then (if w = M1.2.1 20 p then M1 else rm_fail 30 dot M1) else rm_fail 31 (M1.2.1 5 j) (if w = M1.2.1 20 p then M1 else rm_fail 30 dot M1)) 32 lk (nI p)) 33 lk fm) 34 lk (M1.1 42)) 31 (nI (lk + 1))) := W_294.pi g_302
      have m_302 := W_302.1.1
      refine cx_iload hE d_Mo_link_305 rfl ?_
      refine cx_if_eq (tgt := 337)  hE d_Mo_link_307 (by decide) (fun c_307 => ?_) (fun c_307 => ?_)
      · exact absurd c_307 (by decide)
        -- end
      · refine cx_aload_n (i := 0) hE d_Mo_link_310 rfl rfl ?_
        refine cx_get hE d_Mo_link_311 f_Mo_53 (by assumption) (by rfl) ?_
        refine cx_iload hE d_Mo_link_314 rfl ?_
        refine cx_iconst (v := 2) hE d_Mo_link_316 (by decide) ?_
        refine cx_iast 1 hE d_Mo_link_317 rfl (W_302.1.i 23 rfl) (vp_in_nI (by show _ < 11000; omega) (by show 11000 < 2147483648; omega)) ?_
        rw [nI_clamp (by omega)]
        refine cx_gen (fun G_317 g_317 => ?_)
        have W_317 : rm_W k mo b G P G_317 P2 (rp_set (rp_int (rp_set (rp_set (rp_set (if (if w = M1.2.1 20 p then M1 else rm_fail 30 dot M1).2.1 23 x = 0 then (if w = M1.2.1 20 p then M1 else rm_fail 30 dot M1) else rm_fail 31 (M1.2.1 5 j) (if w = M1.2.1 20 p then M1 else rm_fail 30 dot M1)) 32 lk (nI p)) 33 lk fm) 34 lk (M1.1 42)) 31 (nI (lk + 1))) 23 x 2) := W_302.si 23 rfl g_317
        have m_317 := W_317.1.1
        refine cx_aload_n (i := 0) hE d_Mo_link_318 rfl rfl ?_
        refine cx_get hE d_Mo_link_319 f_Mo_56 (by assumption) (by rfl) ?_
        refine cx_iload hE d_Mo_link_322 rfl ?_
        refine cx_aload_n (i := 0) hE d_Mo_link_324 rfl rfl ?_
        refine cx_get hE d_Mo_link_325 f_Mo_276 (by assumption) (by rfl) ?_
        rw [show (rp_set (rp_int (rp_set (rp_set (rp_set (if (if w = M1.2.1 20 p then M1 else rm_fail 30 dot M1).2.1 23 x = 0 then (if w = M1.2.1 20 p then M1 else rm_fail 30 dot M1) else rm_fail 31 (M1.2.1 5 j) (if w = M1.2.1 20 p then M1 else rm_fail 30 dot M1)) 32 lk (nI p)) 33 lk fm) 34 lk (M1.1 42)) 31 (nI (lk + 1))) 23 x 2).1 27 = M1.1 27 from r27]
        refine cx_iast 1 hE d_Mo_link_328 rfl (W_317.1.i 24 rfl) (vp_in_nI (by show _ < 11000; omega) (by show 11000 < 2147483648; omega)) ?_
        rw [nI_clamp (by omega)]
        refine cx_gen (fun G_328 g_328 => ?_)
        have W_328 : rm_W k mo b G P G_328 P2 (rp_set (rp_set (rp_int (rp_set (rp_set (rp_set (if (if w = M1.2.1 20 p then M1 else rm_fail 30 dot M1).2.1 23 x = 0 then (if w = M1.2.1 20 p then M1 else rm_fail 30 dot M1) else rm_fail 31 (M1.2.1 5 j) (if w = M1.2.1 20 p then M1 else rm_fail 30 dot M1)) 32 lk (nI p)) 33 lk fm) 34 lk (M1.1 42)) 31 (nI (lk + 1))) 23 x 2) 24 x (M1.1 27)) := W_317.si 24 rfl g_328
        have m_328 := W_328.1.1
        refine cx_aload_n (i := 0) hE d_Mo_link_329 rfl rfl ?_
        refine cx_get hE d_Mo_link_330 f_Mo_59 (by assumption) (by rfl) ?_
        refine cx_iload hE d_Mo_link_333 rfl ?_
        refine cx_iload_n (i := 3) hE d_Mo_link_335 rfl rfl ?_
        refine cx_iast 1 hE d_Mo_link_336 rfl (W_328.1.i 25 rfl) (vp_in_nI (by show _ < 11000; omega) (by show 11000 < 2147483648; omega)) ?_
        rw [nI_clamp (by omega)]
        refine cx_gen (fun G_336 g_336 => ?_)
        have W_336 : rm_W k mo b G P G_336 P2 (rp_set (rp_set (rp_set (rp_int (rp_set (rp_set (rp_set (if (if w = M1.2.1 20 p then M1 else rm_fail 30 dot M1).2.1 23 x = 0 then (if w = M1.2.1 20 p then M1 else rm_fail 30 dot M1) else rm_fail 31 (M1.2.1 5 j) (if w = M1.2.1 20 p then M1 else rm_fail 30 dot M1)) 32 lk (nI p)) 33 lk fm) 34 lk (M1.1 42)) 31 (nI (lk + 1))) 23 x 2) 24 x (M1.1 27)) 25 x (nI p)) := W_328.si 25 rfl g_336
        have m_336 := W_336.1.1
        refine cx_aload_n (i := 0) hE d_Mo_link_337 rfl rfl ?_
        refine cx_dup hE d_Mo_link_338 ?_
        refine cx_get hE d_Mo_link_339 f_Mo_193 (by assumption) (by rfl) ?_
        refine cx_iconst (v := 1) hE d_Mo_link_342 (by decide) ?_
        refine cx_iadd hE d_Mo_link_343 ?_
        refine cx_putg hE d_Mo_link_344 f_Mo_193 (by assumption) (Nat.le_of_ble_eq_true rfl) (by first | rfl | exact cx_nr _ _) (by first | rfl | exact cx_fr _ _) (fun G_344 g_344 h_344 => ?_)
        rw [rm_s8] at g_344
        clear h_344
        have W_344 : rm_W k mo b G P G_344 P2 (rp_i (rp_set (rp_set (rp_set (rp_int (rp_set (rp_set (rp_set (if (if w = M1.2.1 20 p then M1 else rm_fail 30 dot M1).2.1 23 x = 0 then (if w = M1.2.1 20 p then M1 else rm_fail 30 dot M1) else rm_fail 31 (M1.2.1 5 j) (if w = M1.2.1 20 p then M1 else rm_fail 30 dot M1)) 32 lk (nI p)) 33 lk fm) 34 lk (M1.1 42)) 31 (nI (lk + 1))) 23 x 2) 24 x (M1.1 27)) 25 x (nI p)) 1) := W_336.pi g_344
        have m_344 := W_344.1.1
        refine cx_vret hE d_Mo_link_347 rfl ?_
        exact ⟨_, _, rfl, W_344, hK⟩
    have h233 : ∀ (G2 : cx_G) (P2 : Nat → Nat), rm_W k mo b G P G2 P2 (if w = M1.2.1 20 p then M1 else rm_fail 30 dot M1) → cx_V E 233 [(8, false, .int (nI x)), (7, false, .int 1), (6, false, .int w), (5, false, .int fm), (4, false, .int (nI j)), (3, false, .int (nI p)), (2, false, .int dot), (0, false, .ref mo), (1, false, .int (nI m))] [] G2 := by
      intro G2 P2 W2
      have m2 := W2.1.1
      refine cx_iload hE d_Mo_link_233 rfl ?_
      refine cx_if_eq (tgt := 261)  hE d_Mo_link_235 (by decide) (fun c_235 => ?_) (fun c_235 => ?_)
      · exact absurd c_235 (by decide)
        -- end
      · refine cx_aload_n (i := 0) hE d_Mo_link_238 rfl rfl ?_
        refine cx_get hE d_Mo_link_239 f_Mo_53 (by assumption) (by rfl) ?_
        refine cx_iload hE d_Mo_link_242 rfl ?_
        refine cx_iald 1 hE d_Mo_link_244 rfl (W2.1.i 23 rfl) (vp_in_nI (by show _ < 11000; omega) (by show 11000 < 2147483648; omega)) ?_
        rw [nI_clamp (by omega)]
        refine cx_if_eq (tgt := 261)  hE d_Mo_link_245 (by decide) (fun c_245 => ?_) (fun c_245 => ?_)
        · refine cx_sub [0, 1, 2, 3, 4, 5, 6, 7, 8] rfl ?_
          exact h261 _ _ (by rw [if_pos c_245]; exact W2)
        · refine cx_aload_n (i := 0) hE d_Mo_link_248 rfl rfl ?_
          refine cx_bipush (v := 31) hE d_Mo_link_249 (by decide) ?_
          refine cx_aload_n (i := 0) hE d_Mo_link_251 rfl rfl ?_
          refine cx_get hE d_Mo_link_252 f_Mo_19 (by assumption) (by rfl) ?_
          refine cx_iload hE d_Mo_link_255 rfl ?_
          refine cx_iald 1 hE d_Mo_link_257 rfl (W2.1.i 5 rfl) (vp_in_nI (by show _ < 65540; omega) (by show 65540 < 2147483648; omega)) ?_
          rw [nI_clamp (by omega)]
          rw [qr]
          refine cx_w0 hE d_Mo_link_258 l_Mo_196 W2 (s_fail (K := fun Mq9 => Mq9 = rm_fail _ _ (if w = M1.2.1 20 p then M1 else rm_fail 30 dot M1)) W2.1 W2.2.2 rfl) rfl (by omega) (Nat.le_of_ble_eq_true rfl) n_Mo_fail (by first | rfl | (simp only [List.map_cons, List.map_nil, cx_rfc]; rfl)) (fun G_258 P_258 M_258 W_258 K_258 => ?_)
          have m_258 := W_258.1.1
          refine cx_sub [0, 1, 2, 3, 4, 5, 6, 7, 8] rfl ?_
          exact h261 _ _ (by rw [if_neg c_245]; subst K_258; exact W_258)
    refine cx_iload hE d_Mo_link_215 rfl ?_
    refine cx_aload_n (i := 0) hE d_Mo_link_217 rfl rfl ?_
    refine cx_get hE d_Mo_link_218 f_Mo_43 (by assumption) (by rfl) ?_
    refine cx_iload_n (i := 3) hE d_Mo_link_221 rfl rfl ?_
    refine cx_iald 1 hE d_Mo_link_222 rfl (W1.1.i 20 rfl) (vp_in_nI (by show _ < 11000; omega) (by show 11000 < 2147483648; omega)) ?_
    rw [nI_clamp (by omega)]
    refine cx_icmp_eq (tgt := 233)  hE d_Mo_link_223 (by decide) (fun c_223 => ?_) (fun c_223 => ?_)
    · refine cx_sub [0, 1, 2, 3, 4, 5, 6, 7, 8] rfl ?_
      exact h233 _ _ (by rw [if_pos c_223]; exact W1)
    · refine cx_aload_n (i := 0) hE d_Mo_link_226 rfl rfl ?_
      refine cx_bipush (v := 30) hE d_Mo_link_227 (by decide) ?_
      refine cx_iload_n (i := 2) hE d_Mo_link_229 rfl rfl ?_
      refine cx_w0 hE d_Mo_link_230 l_Mo_196 W1 (s_fail (K := fun Mq9 => Mq9 = rm_fail _ _ M1) W1.1 W1.2.2 rfl) rfl (by omega) (Nat.le_of_ble_eq_true rfl) n_Mo_fail (by first | rfl | (simp only [List.map_cons, List.map_nil, cx_rfc]; rfl)) (fun G_230 P_230 M_230 W_230 K_230 => ?_)
      have m_230 := W_230.1.1
      refine cx_sub [0, 1, 2, 3, 4, 5, 6, 7, 8] rfl ?_
      exact h233 _ _ (by rw [if_neg c_223]; subst K_230; exact W_230)
  refine cx_aload_n (i := 0) hE d_Mo_link_0 rfl rfl ?_
  refine cx_get hE d_Mo_link_1 f_Mo_19 (by assumption) (by rfl) ?_
  refine cx_aload_n (i := 0) hE d_Mo_link_4 rfl rfl ?_
  refine cx_get hE d_Mo_link_5 f_Mo_193 (by assumption) (by rfl) ?_
  obtain ⟨i_8, e_8, l_8, K_8⟩ := hK
  rw [e_8]
  refine cx_iald 1 hE d_Mo_link_8 rfl (W0.1.i 5 rfl) (vp_in_nI (by show _ < 65540; omega) (by show 65540 < 2147483648; omega)) ?_
  rw [nI_clamp (by omega)]
  refine cx_istore_n (i := 2) hE d_Mo_link_9 rfl (by decide) ?_
  refine cx_aload_n (i := 0) hE d_Mo_link_10 rfl rfl ?_
  refine cx_dup hE d_Mo_link_11 ?_
  refine cx_get hE d_Mo_link_12 f_Mo_193 (by assumption) (by rfl) ?_
  refine cx_iconst (v := 1) hE d_Mo_link_15 (by decide) ?_
  refine cx_iadd hE d_Mo_link_16 ?_
  refine cx_putg hE d_Mo_link_17 f_Mo_193 (by assumption) (Nat.le_of_ble_eq_true rfl) (by first | rfl | exact cx_nr _ _) (by first | rfl | exact cx_fr _ _) (fun G_17 g_17 h_17 => ?_)
  rw [rm_s8] at g_17
  clear h_17
  have W_17 : rm_W k mo b G P G_17 P (rp_i M 1) := W0.pi g_17
  have m_17 := W_17.1.1
  refine cx_aload_n (i := 0) hE d_Mo_link_20 rfl rfl ?_
  refine cx_aload_n (i := 0) hE d_Mo_link_21 rfl rfl ?_
  refine cx_get hE d_Mo_link_22 f_Mo_193 (by assumption) (by rfl) ?_
  refine cx_aload_n (i := 0) hE d_Mo_link_25 rfl rfl ?_
  refine cx_get hE d_Mo_link_26 f_Mo_28 (by assumption) (by rfl) ?_
  refine cx_iload_n (i := 1) hE d_Mo_link_29 rfl rfl ?_
  have lm : m < 3600 := by
    obtain ⟨_, _, _, _, _, _, _, _, _, q, _⟩ := K_8
    exact q
  refine cx_iald 1 hE d_Mo_link_30 rfl (W_17.1.i 14 rfl) (vp_in_nI (by show _ < 3601; omega) (by show 3601 < 2147483648; omega)) ?_
  rw [nI_clamp (by omega)]
  refine cx_aload_n (i := 0) hE d_Mo_link_31 rfl rfl ?_
  refine cx_get hE d_Mo_link_32 f_Mo_28 (by assumption) (by rfl) ?_
  refine cx_iload_n (i := 1) hE d_Mo_link_35 rfl rfl ?_
  refine cx_iconst (v := 1) hE d_Mo_link_36 (by decide) ?_
  refine cx_iadd hE d_Mo_link_37 ?_
  rw [nI_1]
  refine cx_iald 1 hE d_Mo_link_38 rfl (W_17.1.i 14 rfl) (vp_in_nI (by show _ < 3601; omega) (by show 3601 < 2147483648; omega)) ?_
  rw [nI_clamp (by omega)]
  refine cx_wR hE d_Mo_link_39 l_Mo_272 W_17 (s_sgn W_17.1 K_8) rfl (by omega) (Nat.le_of_ble_eq_true rfl) n_Mo_signalNamed (by first | rfl | (simp only [List.map_cons, List.map_nil, cx_rfc]; rfl)) (fun v_39 K_39 => ?_)
  obtain ⟨i_39, e_39, l_39, K_39b⟩ := K_39
  refine cx_istore_n (i := 3) hE d_Mo_link_42 rfl (by decide) ?_
  refine cx_iload_n (i := 3) hE d_Mo_link_43 rfl rfl ?_
  refine cx_if_lt (tgt := 73)  hE d_Mo_link_44 (by decide) (fun c_44 => ?_) (fun c_44 => ?_)
  · have K_44 := rp_ifp K_39b c_44
    refine cx_aload_n (i := 0) hE d_Mo_link_73 rfl rfl ?_
    refine cx_bipush (v := 23) hE d_Mo_link_74 (by decide) ?_
    refine cx_aload_n (i := 0) hE d_Mo_link_76 rfl rfl ?_
    refine cx_get hE d_Mo_link_77 f_Mo_19 (by assumption) (by rfl) ?_
    refine cx_aload_n (i := 0) hE d_Mo_link_80 rfl rfl ?_
    refine cx_get hE d_Mo_link_81 f_Mo_193 (by assumption) (by rfl) ?_
    rw [e_39]
    refine cx_iald 1 hE d_Mo_link_84 rfl (W_17.1.i 5 rfl) (vp_in_nI (by show _ < 65540; omega) (by show 65540 < 2147483648; omega)) ?_
    rw [nI_clamp (by omega)]
    refine cx_w0 hE d_Mo_link_85 l_Mo_196 W_17 (s_fail W_17.1 W_17.2.2 K_44) rfl (by omega) (Nat.le_of_ble_eq_true rfl) n_Mo_fail (by first | rfl | (simp only [List.map_cons, List.map_nil, cx_rfc]; rfl)) (fun G_85 P_85 M_85 W_85 K_85 => ?_)
    have m_85 := W_85.1.1
    refine cx_vret hE d_Mo_link_88 rfl ?_
    exact ⟨_, _, rfl, W_85, K_85⟩
  · have K_44 := rp_ifn K_39b c_44
    obtain ⟨p_47, rfl, l_47, K_47⟩ := K_44
    refine cx_aload_n (i := 0) hE d_Mo_link_47 rfl rfl ?_
    refine cx_get hE d_Mo_link_48 f_Mo_46 (by assumption) (by rfl) ?_
    refine cx_iload_n (i := 3) hE d_Mo_link_51 rfl rfl ?_
    refine cx_iald 1 hE d_Mo_link_52 rfl (W_17.1.i 21 rfl) (vp_in_nI (by show _ < 11000; omega) (by show 11000 < 2147483648; omega)) ?_
    rw [nI_clamp (by omega)]
    refine cx_iconst (v := 2) hE d_Mo_link_53 (by decide) ?_
    refine cx_icmp_gt (tgt := 73)  hE d_Mo_link_54 (by decide) (fun c_54 => ?_) (fun c_54 => ?_)
    · have K_54 := rp_ifp K_47 c_54
      refine cx_aload_n (i := 0) hE d_Mo_link_73 rfl rfl ?_
      refine cx_bipush (v := 23) hE d_Mo_link_74 (by decide) ?_
      refine cx_aload_n (i := 0) hE d_Mo_link_76 rfl rfl ?_
      refine cx_get hE d_Mo_link_77 f_Mo_19 (by assumption) (by rfl) ?_
      refine cx_aload_n (i := 0) hE d_Mo_link_80 rfl rfl ?_
      refine cx_get hE d_Mo_link_81 f_Mo_193 (by assumption) (by rfl) ?_
      rw [e_39]
      refine cx_iald 1 hE d_Mo_link_84 rfl (W_17.1.i 5 rfl) (vp_in_nI (by show _ < 65540; omega) (by show 65540 < 2147483648; omega)) ?_
      rw [nI_clamp (by omega)]
      refine cx_w0 hE d_Mo_link_85 l_Mo_196 W_17 (s_fail W_17.1 W_17.2.2 K_54) rfl (by omega) (Nat.le_of_ble_eq_true rfl) n_Mo_fail (by first | rfl | (simp only [List.map_cons, List.map_nil, cx_rfc]; rfl)) (fun G_85 P_85 M_85 W_85 K_85 => ?_)
      have m_85 := W_85.1.1
      refine cx_vret hE d_Mo_link_88 rfl ?_
      exact ⟨_, _, rfl, W_85, K_85⟩
    · have K_54 := rp_ifn K_47 c_54
      refine cx_aload_n (i := 0) hE d_Mo_link_57 rfl rfl ?_
      refine cx_aload_n (i := 0) hE d_Mo_link_58 rfl rfl ?_
      refine cx_get hE d_Mo_link_59 f_Mo_276 (by assumption) (by rfl) ?_
      refine cx_aload_n (i := 0) hE d_Mo_link_62 rfl rfl ?_
      refine cx_get hE d_Mo_link_63 f_Mo_371 (by assumption) (by rfl) ?_
      refine cx_iload_n (i := 3) hE d_Mo_link_66 rfl rfl ?_
      refine cx_wR hE d_Mo_link_67 l_Mo_377 W_17 (s_lof W_17.1 K_54) rfl (by omega) (Nat.le_of_ble_eq_true rfl) n_Mo_linkOf (by first | rfl | (simp only [List.map_cons, List.map_nil, cx_rfc]; rfl)) (fun v_67 K_67 => ?_)
      refine cx_if_lt (tgt := 89)  hE d_Mo_link_70 (by decide) (fun c_70 => ?_) (fun c_70 => ?_)
      · have K_70 := rp_ifn K_67 (Int32.not_le.mpr c_70)
        obtain ⟨j_89, e_89, l_89, K_89⟩ := K_70
        refine cx_aload_n (i := 0) hE d_Mo_link_89 rfl rfl ?_
        refine cx_aload_n (i := 0) hE d_Mo_link_90 rfl rfl ?_
        refine cx_get hE d_Mo_link_91 f_Mo_193 (by assumption) (by rfl) ?_
        refine cx_iconst (v := 2) hE d_Mo_link_94 (by decide) ?_
        refine cx_iadd hE d_Mo_link_95 ?_
        refine cx_putg hE d_Mo_link_96 f_Mo_193 (by assumption) (Nat.le_of_ble_eq_true rfl) (by first | rfl | exact cx_nr _ _) (by first | rfl | exact cx_fr _ _) (fun G_96 g_96 h_96 => ?_)
        rw [rm_s8] at g_96
        clear h_96
        have W_96 : rm_W k mo b G P G_96 P (rp_i (rp_i M 1) 2) := W_17.pi g_96
        have m_96 := W_96.1.1
        refine cx_aload_n (i := 0) hE d_Mo_link_99 rfl rfl ?_
        refine cx_get hE d_Mo_link_100 f_Mo_193 (by assumption) (by rfl) ?_
        rw [e_89]
        refine cx_istore hE d_Mo_link_103 (by decide) ?_
        refine cx_aload_n (i := 0) hE d_Mo_link_105 rfl rfl ?_
        refine cx_get hE d_Mo_link_106 f_Mo_279 (by assumption) (by rfl) ?_
        rw [show (rp_i (rp_i M 1) 2).1 42 = M.1 42 from rfl]
        refine cx_istore hE d_Mo_link_109 (by decide) ?_
        refine cx_aload_n (i := 0) hE d_Mo_link_111 rfl rfl ?_
        refine cx_wP hE d_Mo_link_112 l_Mo_288 W_96 (c_Mo_exp _ _ _ _ W_96.1 W_96.2.2 K_89) rfl (by omega) (Nat.le_of_ble_eq_true rfl) n_Mo_exp (by first | rfl | (simp only [List.map_cons, List.map_nil, cx_rfc]; rfl)) (fun v_112 G_112 P_112 M_112 W_112 K_112 => ?_)
        have m_112 := W_112.1.1
        refine cx_istore hE d_Mo_link_115 (by decide) ?_
        refine cx_aload_n (i := 0) hE d_Mo_link_117 rfl rfl ?_
        refine cx_get hE d_Mo_link_118 f_Mo_187 (by assumption) (by rfl) ?_
        refine cx_if_eq (tgt := 125)  hE d_Mo_link_121 (by decide) (fun c_121 => ?_) (fun c_121 => ?_)
        · have K_121 := rp_ifp K_112 c_121
          refine cx_aload_n (i := 0) hE d_Mo_link_125 rfl rfl ?_
          refine cx_get hE d_Mo_link_126 f_Mo_46 (by assumption) (by rfl) ?_
          refine cx_iload_n (i := 3) hE d_Mo_link_129 rfl rfl ?_
          refine cx_iald 1 hE d_Mo_link_130 rfl (W_112.1.i 21 rfl) (vp_in_nI (by show _ < 11000; omega) (by show 11000 < 2147483648; omega)) ?_
          rw [nI_clamp (by omega)]
          refine cx_if_eq (tgt := 138)  hE d_Mo_link_131 (by decide) (fun c_131 => ?_) (fun c_131 => ?_)
          · have K_131 := rp_ifp K_121 c_131
            refine cx_iconst (v := 0) hE d_Mo_link_138 (by decide) ?_
            refine cx_istore hE d_Mo_link_139 (by decide) ?_
            refine cx_iload hE d_Mo_link_141 rfl ?_
            refine cx_if_eq (tgt := 179)  hE d_Mo_link_143 (by decide) (fun c_143 => ?_) (fun c_143 => ?_)
            · refine cx_iconst (v := -1) hE d_Mo_link_179 (by decide) ?_
              refine cx_istore hE d_Mo_link_180 (by decide) ?_
              refine cx_iload hE d_Mo_link_182 rfl ?_
              refine cx_if_eq (tgt := 215)  hE d_Mo_link_184 (by decide) (fun c_184 => ?_) (fun c_184 => ?_)
              · refine cx_sub [0, 1, 2, 3, 4, 5, 6, 7, 8] rfl ?_
                exact h215f _ _ _ _ _ _ _ _ _ l_47 W_112 K_131
              · exact absurd rfl c_184
                -- end
            · exact absurd rfl c_143
              -- end
          · have K_131 := rp_ifn K_121 c_131
            refine cx_iconst (v := 1) hE d_Mo_link_134 (by decide) ?_
            refine cx_goto (tgt := 139) hE d_Mo_link_135 (by decide) ?_
            refine cx_istore hE d_Mo_link_139 (by decide) ?_
            refine cx_iload hE d_Mo_link_141 rfl ?_
            refine cx_if_eq (tgt := 179)  hE d_Mo_link_143 (by decide) (fun c_143 => ?_) (fun c_143 => ?_)
            · exact absurd c_143 (by decide)
              -- end
            · refine cx_aload_n (i := 0) hE d_Mo_link_146 rfl rfl ?_
              refine cx_get hE d_Mo_link_147 f_Mo_15 (by assumption) (by rfl) ?_
              refine cx_iload hE d_Mo_link_150 rfl ?_
              refine cx_iald 1 hE d_Mo_link_152 rfl (W_112.1.i 4 rfl) (vp_in_nI (by show _ < 65540; omega) (by show 65540 < 2147483648; omega)) ?_
              rw [nI_clamp (by omega)]
              refine cx_sipush (v := 400) hE d_Mo_link_153 (by decide) ?_
              refine cx_icmp_ne (tgt := 179)  hE d_Mo_link_156 (by decide) (fun c_156 => ?_) (fun c_156 => ?_)
              · have K_156 := rp_ifn K_131 (fun z => c_156 z.1)
                refine cx_iconst (v := -1) hE d_Mo_link_179 (by decide) ?_
                refine cx_istore hE d_Mo_link_180 (by decide) ?_
                refine cx_iload hE d_Mo_link_182 rfl ?_
                refine cx_if_eq (tgt := 215)  hE d_Mo_link_184 (by decide) (fun c_184 => ?_) (fun c_184 => ?_)
                · exact absurd c_184 (by decide)
                  -- end
                · refine cx_iload hE d_Mo_link_187 rfl ?_
                  refine cx_if_lt (tgt := 201)  hE d_Mo_link_189 (by decide) (fun c_189 => ?_) (fun c_189 => ?_)
                  · refine cx_aload_n (i := 0) hE d_Mo_link_201 rfl rfl ?_
                    refine cx_bipush (v := 25) hE d_Mo_link_202 (by decide) ?_
                    refine cx_aload_n (i := 0) hE d_Mo_link_204 rfl rfl ?_
                    refine cx_get hE d_Mo_link_205 f_Mo_19 (by assumption) (by rfl) ?_
                    refine cx_iload hE d_Mo_link_208 rfl ?_
                    refine cx_iald 1 hE d_Mo_link_210 rfl (W_112.1.i 5 rfl) (vp_in_nI (by show _ < 65540; omega) (by show 65540 < 2147483648; omega)) ?_
                    rw [nI_clamp (by omega)]
                    refine cx_w0 hE d_Mo_link_211 l_Mo_196 W_112 (s_fail W_112.1 W_112.2.2 K_156) rfl (by omega) (Nat.le_of_ble_eq_true rfl) n_Mo_fail (by first | rfl | (simp only [List.map_cons, List.map_nil, cx_rfc]; rfl)) (fun G_211 P_211 M_211 W_211 K_211 => ?_)
                    have m_211 := W_211.1.1
                    refine cx_vret hE d_Mo_link_214 rfl ?_
                    exact ⟨_, _, rfl, W_211, K_211⟩
                  · exact absurd (show (-1 : Int32) < 0 by decide) c_189
                    -- end
              · refine cx_aload_n (i := 0) hE d_Mo_link_159 rfl rfl ?_
                refine cx_get hE d_Mo_link_160 f_Mo_193 (by assumption) (by rfl) ?_
                refine cx_iload hE d_Mo_link_163 rfl ?_
                refine cx_iconst (v := 1) hE d_Mo_link_165 (by decide) ?_
                refine cx_iadd hE d_Mo_link_166 ?_
                refine cx_icmp_ne (tgt := 179)  hE d_Mo_link_167 (by decide) (fun c_167 => ?_) (fun c_167 => ?_)
                · have K_167 := rp_ifn K_131 (fun z => c_167 z.2)
                  refine cx_iconst (v := -1) hE d_Mo_link_179 (by decide) ?_
                  refine cx_istore hE d_Mo_link_180 (by decide) ?_
                  refine cx_iload hE d_Mo_link_182 rfl ?_
                  refine cx_if_eq (tgt := 215)  hE d_Mo_link_184 (by decide) (fun c_184 => ?_) (fun c_184 => ?_)
                  · exact absurd c_184 (by decide)
                    -- end
                  · refine cx_iload hE d_Mo_link_187 rfl ?_
                    refine cx_if_lt (tgt := 201)  hE d_Mo_link_189 (by decide) (fun c_189 => ?_) (fun c_189 => ?_)
                    · refine cx_aload_n (i := 0) hE d_Mo_link_201 rfl rfl ?_
                      refine cx_bipush (v := 25) hE d_Mo_link_202 (by decide) ?_
                      refine cx_aload_n (i := 0) hE d_Mo_link_204 rfl rfl ?_
                      refine cx_get hE d_Mo_link_205 f_Mo_19 (by assumption) (by rfl) ?_
                      refine cx_iload hE d_Mo_link_208 rfl ?_
                      refine cx_iald 1 hE d_Mo_link_210 rfl (W_112.1.i 5 rfl) (vp_in_nI (by show _ < 65540; omega) (by show 65540 < 2147483648; omega)) ?_
                      rw [nI_clamp (by omega)]
                      refine cx_w0 hE d_Mo_link_211 l_Mo_196 W_112 (s_fail W_112.1 W_112.2.2 K_167) rfl (by omega) (Nat.le_of_ble_eq_true rfl) n_Mo_fail (by first | rfl | (simp only [List.map_cons, List.map_nil, cx_rfc]; rfl)) (fun G_211 P_211 M_211 W_211 K_211 => ?_)
                      have m_211 := W_211.1.1
                      refine cx_vret hE d_Mo_link_214 rfl ?_
                      exact ⟨_, _, rfl, W_211, K_211⟩
                    · exact absurd (show (-1 : Int32) < 0 by decide) c_189
                      -- end
                · have K_167 := rp_ifp K_131 ⟨c_156, c_167⟩
                  refine cx_aload_n (i := 0) hE d_Mo_link_170 rfl rfl ?_
                  refine cx_iload hE d_Mo_link_171 rfl ?_
                  refine cx_wR hE d_Mo_link_173 l_Mo_330 W_112 (s_here W_112.1 K_167) rfl (by omega) (Nat.le_of_ble_eq_true rfl) n_Mo_here (by first | rfl | (simp only [List.map_cons, List.map_nil, cx_rfc]; rfl)) (fun v_173 K_173 => ?_)
                  refine cx_goto (tgt := 180) hE d_Mo_link_176 (by decide) ?_
                  refine cx_istore hE d_Mo_link_180 (by decide) ?_
                  refine cx_iload hE d_Mo_link_182 rfl ?_
                  refine cx_if_eq (tgt := 215)  hE d_Mo_link_184 (by decide) (fun c_184 => ?_) (fun c_184 => ?_)
                  · exact absurd c_184 (by decide)
                    -- end
                  · refine cx_iload hE d_Mo_link_187 rfl ?_
                    refine cx_if_lt (tgt := 201)  hE d_Mo_link_189 (by decide) (fun c_189 => ?_) (fun c_189 => ?_)
                    · have K_189 := rp_ifp K_173 c_189
                      refine cx_aload_n (i := 0) hE d_Mo_link_201 rfl rfl ?_
                      refine cx_bipush (v := 25) hE d_Mo_link_202 (by decide) ?_
                      refine cx_aload_n (i := 0) hE d_Mo_link_204 rfl rfl ?_
                      refine cx_get hE d_Mo_link_205 f_Mo_19 (by assumption) (by rfl) ?_
                      refine cx_iload hE d_Mo_link_208 rfl ?_
                      refine cx_iald 1 hE d_Mo_link_210 rfl (W_112.1.i 5 rfl) (vp_in_nI (by show _ < 65540; omega) (by show 65540 < 2147483648; omega)) ?_
                      rw [nI_clamp (by omega)]
                      refine cx_w0 hE d_Mo_link_211 l_Mo_196 W_112 (s_fail W_112.1 W_112.2.2 K_189) rfl (by omega) (Nat.le_of_ble_eq_true rfl) n_Mo_fail (by first | rfl | (simp only [List.map_cons, List.map_nil, cx_rfc]; rfl)) (fun G_211 P_211 M_211 W_211 K_211 => ?_)
                      have m_211 := W_211.1.1
                      refine cx_vret hE d_Mo_link_214 rfl ?_
                      exact ⟨_, _, rfl, W_211, K_211⟩
                    · have K_189 := rp_ifn K_173 c_189
                      obtain ⟨x_192, rfl, l_192, K_192⟩ := K_189
                      refine cx_aload_n (i := 0) hE d_Mo_link_192 rfl rfl ?_
                      refine cx_iload hE d_Mo_link_193 rfl ?_
                      refine cx_wR hE d_Mo_link_195 l_Mo_347 W_112 (c_Mo_isDriven (j := x_192) W_112.1 W_112.2.2 l_192) rfl (by omega) (Nat.le_of_ble_eq_true rfl) n_Mo_isDriven (by first | rfl | (simp only [List.map_cons, List.map_nil, cx_rfc]; rfl)) (fun v_195 K_195 => ?_)
                      subst K_195
                      refine cx_if_ne (tgt := 215)  hE d_Mo_link_198 (by decide) (fun c_198 => ?_) (fun c_198 => ?_)
                      · have K_198 := rp_ifp K_192 (of_decide_eq_true (cx_bn.mp c_198))
                        refine cx_sub [0, 1, 2, 3, 4, 5, 6, 7, 8] rfl ?_
                        exact h215t _ _ _ _ _ _ _ _ _ l_47 l_192 l_89 W_112 K_198
                      · have K_198 := rp_ifn K_192 (of_decide_eq_false (cx_b0.mp c_198))
                        refine cx_aload_n (i := 0) hE d_Mo_link_201 rfl rfl ?_
                        refine cx_bipush (v := 25) hE d_Mo_link_202 (by decide) ?_
                        refine cx_aload_n (i := 0) hE d_Mo_link_204 rfl rfl ?_
                        refine cx_get hE d_Mo_link_205 f_Mo_19 (by assumption) (by rfl) ?_
                        refine cx_iload hE d_Mo_link_208 rfl ?_
                        refine cx_iald 1 hE d_Mo_link_210 rfl (W_112.1.i 5 rfl) (vp_in_nI (by show _ < 65540; omega) (by show 65540 < 2147483648; omega)) ?_
                        rw [nI_clamp (by omega)]
                        refine cx_w0 hE d_Mo_link_211 l_Mo_196 W_112 (s_fail W_112.1 W_112.2.2 K_198) rfl (by omega) (Nat.le_of_ble_eq_true rfl) n_Mo_fail (by first | rfl | (simp only [List.map_cons, List.map_nil, cx_rfc]; rfl)) (fun G_211 P_211 M_211 W_211 K_211 => ?_)
                        have m_211 := W_211.1.1
                        refine cx_vret hE d_Mo_link_214 rfl ?_
                        exact ⟨_, _, rfl, W_211, K_211⟩
        · have K_121 := rp_ifn K_112 c_121
          refine cx_vret hE d_Mo_link_124 rfl ?_
          exact ⟨_, _, rfl, W_112, K_121⟩
      · have K_70 := rp_ifp K_67 (Int32.not_lt.mp c_70)
        refine cx_aload_n (i := 0) hE d_Mo_link_73 rfl rfl ?_
        refine cx_bipush (v := 23) hE d_Mo_link_74 (by decide) ?_
        refine cx_aload_n (i := 0) hE d_Mo_link_76 rfl rfl ?_
        refine cx_get hE d_Mo_link_77 f_Mo_19 (by assumption) (by rfl) ?_
        refine cx_aload_n (i := 0) hE d_Mo_link_80 rfl rfl ?_
        refine cx_get hE d_Mo_link_81 f_Mo_193 (by assumption) (by rfl) ?_
        rw [e_39]
        refine cx_iald 1 hE d_Mo_link_84 rfl (W_17.1.i 5 rfl) (vp_in_nI (by show _ < 65540; omega) (by show 65540 < 2147483648; omega)) ?_
        rw [nI_clamp (by omega)]
        refine cx_w0 hE d_Mo_link_85 l_Mo_196 W_17 (s_fail W_17.1 W_17.2.2 K_70) rfl (by omega) (Nat.le_of_ble_eq_true rfl) n_Mo_fail (by first | rfl | (simp only [List.map_cons, List.map_nil, cx_rfc]; rfl)) (fun G_85 P_85 M_85 W_85 K_85 => ?_)
        have m_85 := W_85.1.1
        refine cx_vret hE d_Mo_link_88 rfl ?_
        exact ⟨_, _, rfl, W_85, K_85⟩

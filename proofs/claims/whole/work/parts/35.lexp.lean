/-! MEANING: a link's exp. -/
def tx_dvb (s : tx_S) (dv : Option Nat) : Bool := match dv with
  | none => false
  | some q => decide ((s.rc q).2.1 = 1 ∨ (s.rc q).2.1 = 3)
def tx_out (s : tx_S) (x : Nat × Nat) : Bool := decide ((s.rj x.1 x.2).2.1 = 1 ∨ (s.rj x.1 x.2).2.1 = 2)
def tx_lks (dt : tx_Tk) (x : Nat × Nat) (t : tx_Tk) (dv : Option Nat) (w : Int32) (s : tx_S) : tx_S := if (tx_out s x && tx_dvb s dv) = true then tx_drive (dv.getD 0) t (tx_ck (decide ((s.rj x.1 x.2).2.2.1 = w)) 30 (nI dt.2.1) (tx_ck (tx_dvb s dv || !tx_out s x) 25 (nI t.2.1) s)) else tx_ck (decide ((s.rj x.1 x.2).2.2.1 = w)) 30 (nI dt.2.1) (tx_ck (tx_dvb s dv || !tx_out s x) 25 (nI t.2.1) s)
def tx_link (dt : tx_Tk) (p : Option (Nat × Nat)) (t : tx_Tk) (alone : Bool) (w : Int32) (s : tx_S) : tx_S := match p with
  | none => s
  | some x => tx_lks dt x t (match alone with | true => s.da t.2.2.2.1 | false => none) w s
set_option maxRecDepth 100000 in
theorem c_Me_link {k : cx_K} {l : Launch} {G : cx_G} {F : Nat → Prop} {A : tx_A} {s : tx_S} {u : tx_U} (hu : s.2.2.1 = some u) {a : Nat} {t : tx_Tk} (ht : tx_tw G A a t) {d : Nat} {dt : tx_Tk} (hdt : tx_tw G A d dt) {p : Option (Nat × Nat)} (hp : ∀ x : Nat × Nat, p = some x → ∃ ux : tx_U, s.all[x.1]? = some ux ∧ x.2 < ux.2.2.1.length) {alone : Bool} {w : Int32} (hm : tx_m k F G A s)  : cx_Sp k l m_Me_link 2 [.ref A.me, .ref d, va_rf (p.map (fun x => A.na x.1 x.2)), .ref a, .int (cx_b alone), .int w] G (tx_mq k F G A (tx_link dt p t alone w s) none) := by
  intro E hE
  obtain ⟨x0, hme, hxu⟩ := hm.2.1
  have hxu := hxu u hu
  subst hxu
  obtain ⟨nx, ht0, hwf⟩ := id ht
  have hta : G.1 a = some (.inr (7, [.int t.1, .int (nI t.2.1), .int (nI t.2.2.1), va_rf nx, va_rf (A.w t.2.2.2.1), .int t.2.2.2.2.1, .long t.2.2.2.2.2])) := ht0
  cases p with
  | none =>
    refine cx_aload_n (i := 2) hE d_Me_link_0 rfl rfl ?_
    refine cx_ifnonnull (tgt := 5) (r := none) hE d_Me_link_1 (by decide) (fun a_1 c_1 => ?_) (fun c_1 => ?_)
    · cases c_1
      -- end
    · refine cx_vret hE d_Me_link_4 rfl ?_
      exact ⟨rfl, hm, tx_st.rf _ _, rfl⟩
  | some x9 =>
    obtain ⟨j, i⟩ := x9
    obtain ⟨uj, huj, hil⟩ := hp (j, i) rfl
    have huj : s.all[j]? = some uj := huj
    obtain ⟨ri, hri⟩ : ∃ ri, uj.2.2.1[i]? = some ri := ⟨_, List.getElem?_eq_getElem hil⟩
    have hrj : s.rj j i = ri := by unfold tx_S.rj; rw [tx_S.un_of huj, List.getD_eq_getElem?_getD, hri]; rfl
    have hni := hm.2.2.2.2.2.1 j uj huj i ri hri
    unfold tx_nm at hni
    cases alone with
    | false =>
      have hdvb : tx_dvb s none = false := rfl
      refine cx_aload_n (i := 2) hE d_Me_link_0 rfl rfl ?_
      refine cx_ifnonnull (tgt := 5) (r := some (A.na j i)) hE d_Me_link_1 (by decide) (fun a_1 c_1 => ?_) (fun c_1 => ?_)
      · refine cx_iload hE d_Me_link_5 rfl ?_
        refine cx_if_eq (tgt := 18)  hE d_Me_link_7 (by decide) (fun c_7 => ?_) (fun c_7 => ?_)
        · refine cx_null hE d_Me_link_18 ?_
          refine cx_astore hE d_Me_link_19 (by decide) ?_
          refine cx_aload hE d_Me_link_21 rfl ?_
          refine cx_ifnull (tgt := 38) (r := none) hE d_Me_link_23 (by decide) (fun c_23 => ?_) (fun a_23 c_23 => ?_)
          · refine cx_iconst (v := 0) hE d_Me_link_38 (by decide) ?_
            refine cx_istore hE d_Me_link_39 (by decide) ?_
            refine cx_aload_n (i := 0) hE d_Me_link_41 rfl rfl ?_
            refine cx_get hE d_Me_link_42 f_Me_32 (by assumption) (by rfl) ?_
            refine cx_iload hE d_Me_link_45 rfl ?_
            refine cx_if_ne (tgt := 57)  hE d_Me_link_47 (by decide) (fun c_47 => ?_) (fun c_47 => ?_)
            · exact absurd rfl c_47
              -- end
            · refine cx_aload_n (i := 2) hE d_Me_link_50 rfl rfl ?_
              refine cx_invV1 hE d_Me_link_51 l_Me_159 hni (c_Nm_isOutput hni) rfl (by omega) (Nat.le_of_ble_eq_true rfl) n_Nm_isOutput (by rfl) ?_
              refine cx_if_ne (tgt := 61)  hE d_Me_link_54 (by decide) (fun c_54 => ?_) (fun c_54 => ?_)
              · have q_o : decide (ri.2.1 = 1 ∨ ri.2.1 = 2) = true := cx_bn.mp c_54
                refine cx_iconst (v := 0) hE d_Me_link_61 (by decide) ?_
                refine cx_bipush (v := 25) hE d_Me_link_62 (by decide) ?_
                refine cx_aload_n (i := 3) hE d_Me_link_64 rfl rfl ?_
                refine cx_get hE d_Me_link_65 f_Me_40 (by assumption) (by rfl) ?_
                refine cx_invV hE d_Me_link_68 l_Me_44 hm.1 (c_ck (right := false) (code := 25) (place := (nI t.2.1)) hm) rfl (by omega) (Nat.le_of_ble_eq_true rfl) n_Ve_check (by rfl) (fun v G1 q => ?_) (fun a G1 q => by cases q.1)
                obtain ⟨q0, hm1, hs1, hc1⟩ := q
                cases q0
                show cx_V E _ _ [] G1
                obtain ⟨x1, hme1, -⟩ := hm1.2.1
                have huj1 := huj
                rw [← tx_ck_a false 25 (nI t.2.1) s] at huj1
                have hni1 := hm1.2.2.2.2.2.1 j uj huj1 i ri hri
                unfold tx_nm at hni1
                have htd1 := (hdt.st hs1)
                obtain ⟨nd1, hd1, -⟩ := htd1
                have hdd1 : G1.1 d = some (.inr (7, [.int dt.1, .int (nI dt.2.1), .int (nI dt.2.2.1), va_rf nd1, va_rf (A.w dt.2.2.2.1), .int dt.2.2.2.2.1, .long dt.2.2.2.2.2])) := hd1
                refine cx_aload_n (i := 0) hE d_Me_link_71 rfl rfl ?_
                refine cx_get hE d_Me_link_72 f_Me_32 (by assumption) (by rfl) ?_
                refine cx_aload_n (i := 2) hE d_Me_link_75 rfl rfl ?_
                refine cx_get hE d_Me_link_76 f_Me_86 (by assumption) (by rfl) ?_
                refine cx_iload hE d_Me_link_79 rfl ?_
                refine cx_icmp_ne (tgt := 88)  hE d_Me_link_81 (by decide) (fun c_81 => ?_) (fun c_81 => ?_)
                · have q_w : decide (ri.2.2.1 = w) = false := decide_eq_false c_81
                  refine cx_iconst (v := 0) hE d_Me_link_88 (by decide) ?_
                  refine cx_bipush (v := 30) hE d_Me_link_89 (by decide) ?_
                  refine cx_aload_n (i := 1) hE d_Me_link_91 rfl rfl ?_
                  refine cx_get hE d_Me_link_92 f_Me_40 (by assumption) (by rfl) ?_
                  refine cx_invV hE d_Me_link_95 l_Me_44 hm1.1 (c_ck (right := false) (code := 30) (place := (nI dt.2.1)) hm1) rfl (by omega) (Nat.le_of_ble_eq_true rfl) n_Ve_check (by rfl) (fun v G2 q => ?_) (fun a G2 q => by cases q.1)
                  obtain ⟨q0, hm2, hs2, hc2⟩ := q
                  cases q0
                  show cx_V E _ _ [] G2
                  have huj2 := huj1
                  rw [← tx_ck_a false 30 (nI dt.2.1) (tx_ck false 25 (nI t.2.1) s)] at huj2
                  have hni2 := hm2.2.2.2.2.2.1 j uj huj2 i ri hri
                  unfold tx_nm at hni2
                  obtain ⟨x2, hme2, -⟩ := hm2.2.1
                  refine cx_aload_n (i := 2) hE d_Me_link_98 rfl rfl ?_
                  refine cx_invV1 hE d_Me_link_99 l_Me_159 hni2 (c_Nm_isOutput hni2) rfl (by omega) (Nat.le_of_ble_eq_true rfl) n_Nm_isOutput (by rfl) ?_
                  refine cx_if_eq (tgt := 117)  hE d_Me_link_102 (by decide) (fun c_102 => ?_) (fun c_102 => ?_)
                  · exact absurd (cx_b0.mp c_102) (by rw [q_o]; decide)
                    -- end
                  · refine cx_iload hE d_Me_link_105 rfl ?_
                    refine cx_if_eq (tgt := 117)  hE d_Me_link_107 (by decide) (fun c_107 => ?_) (fun c_107 => ?_)
                    · refine cx_vret hE d_Me_link_117 rfl ?_
                      have e9 : tx_link dt (some (j, i)) t false w s = if (decide (ri.2.1 = 1 ∨ ri.2.1 = 2) && false) = true then tx_drive ((none : Option Nat).getD 0) t (tx_ck (decide (ri.2.2.1 = w)) 30 (nI dt.2.1) (tx_ck (false || !decide (ri.2.1 = 1 ∨ ri.2.1 = 2)) 25 (nI t.2.1) s)) else tx_ck (decide (ri.2.2.1 = w)) 30 (nI dt.2.1) (tx_ck (false || !decide (ri.2.1 = 1 ∨ ri.2.1 = 2)) 25 (nI t.2.1) s) := by
                        show tx_lks dt (j, i) t none w s = _
                        skip
                        unfold tx_lks tx_out
                        show (if (decide ((s.rj j i).2.1 = 1 ∨ (s.rj j i).2.1 = 2) && tx_dvb s none) = true then tx_drive _ t (tx_ck (decide ((s.rj j i).2.2.1 = w)) _ _ (tx_ck (tx_dvb s none || !decide ((s.rj j i).2.1 = 1 ∨ (s.rj j i).2.1 = 2)) _ _ s)) else (tx_ck (decide ((s.rj j i).2.2.1 = w)) _ _ (tx_ck (tx_dvb s none || !decide ((s.rj j i).2.1 = 1 ∨ (s.rj j i).2.1 = 2)) _ _ s))) = _
                        rw [hrj, hdvb]
                      rw [e9, q_o, q_w]
                      first
                        | exact ⟨rfl, hm3, hs1.tr (hs2.tr hs3), hc3.trans (hc2.trans hc1)⟩
                        | exact ⟨rfl, hm2, hs1.tr hs2, hc2.trans hc1⟩
                    · exact absurd rfl c_107
                      -- end
                · have q_w : decide (ri.2.2.1 = w) = true := decide_eq_true c_81
                  refine cx_iconst (v := 1) hE d_Me_link_84 (by decide) ?_
                  refine cx_goto (tgt := 89) hE d_Me_link_85 (by decide) ?_
                  refine cx_bipush (v := 30) hE d_Me_link_89 (by decide) ?_
                  refine cx_aload_n (i := 1) hE d_Me_link_91 rfl rfl ?_
                  refine cx_get hE d_Me_link_92 f_Me_40 (by assumption) (by rfl) ?_
                  refine cx_invV hE d_Me_link_95 l_Me_44 hm1.1 (c_ck (right := true) (code := 30) (place := (nI dt.2.1)) hm1) rfl (by omega) (Nat.le_of_ble_eq_true rfl) n_Ve_check (by rfl) (fun v G2 q => ?_) (fun a G2 q => by cases q.1)
                  obtain ⟨q0, hm2, hs2, hc2⟩ := q
                  cases q0
                  show cx_V E _ _ [] G2
                  have huj2 := huj1
                  rw [← tx_ck_a true 30 (nI dt.2.1) (tx_ck false 25 (nI t.2.1) s)] at huj2
                  have hni2 := hm2.2.2.2.2.2.1 j uj huj2 i ri hri
                  unfold tx_nm at hni2
                  obtain ⟨x2, hme2, -⟩ := hm2.2.1
                  refine cx_aload_n (i := 2) hE d_Me_link_98 rfl rfl ?_
                  refine cx_invV1 hE d_Me_link_99 l_Me_159 hni2 (c_Nm_isOutput hni2) rfl (by omega) (Nat.le_of_ble_eq_true rfl) n_Nm_isOutput (by rfl) ?_
                  refine cx_if_eq (tgt := 117)  hE d_Me_link_102 (by decide) (fun c_102 => ?_) (fun c_102 => ?_)
                  · exact absurd (cx_b0.mp c_102) (by rw [q_o]; decide)
                    -- end
                  · refine cx_iload hE d_Me_link_105 rfl ?_
                    refine cx_if_eq (tgt := 117)  hE d_Me_link_107 (by decide) (fun c_107 => ?_) (fun c_107 => ?_)
                    · refine cx_vret hE d_Me_link_117 rfl ?_
                      have e9 : tx_link dt (some (j, i)) t false w s = if (decide (ri.2.1 = 1 ∨ ri.2.1 = 2) && false) = true then tx_drive ((none : Option Nat).getD 0) t (tx_ck (decide (ri.2.2.1 = w)) 30 (nI dt.2.1) (tx_ck (false || !decide (ri.2.1 = 1 ∨ ri.2.1 = 2)) 25 (nI t.2.1) s)) else tx_ck (decide (ri.2.2.1 = w)) 30 (nI dt.2.1) (tx_ck (false || !decide (ri.2.1 = 1 ∨ ri.2.1 = 2)) 25 (nI t.2.1) s) := by
                        show tx_lks dt (j, i) t none w s = _
                        skip
                        unfold tx_lks tx_out
                        show (if (decide ((s.rj j i).2.1 = 1 ∨ (s.rj j i).2.1 = 2) && tx_dvb s none) = true then tx_drive _ t (tx_ck (decide ((s.rj j i).2.2.1 = w)) _ _ (tx_ck (tx_dvb s none || !decide ((s.rj j i).2.1 = 1 ∨ (s.rj j i).2.1 = 2)) _ _ s)) else (tx_ck (decide ((s.rj j i).2.2.1 = w)) _ _ (tx_ck (tx_dvb s none || !decide ((s.rj j i).2.1 = 1 ∨ (s.rj j i).2.1 = 2)) _ _ s))) = _
                        rw [hrj, hdvb]
                      rw [e9, q_o, q_w]
                      first
                        | exact ⟨rfl, hm3, hs1.tr (hs2.tr hs3), hc3.trans (hc2.trans hc1)⟩
                        | exact ⟨rfl, hm2, hs1.tr hs2, hc2.trans hc1⟩
                    · exact absurd rfl c_107
                      -- end
              · have q_o : decide (ri.2.1 = 1 ∨ ri.2.1 = 2) = false := cx_b0.mp (by simpa using c_54)
                refine cx_iconst (v := 1) hE d_Me_link_57 (by decide) ?_
                refine cx_goto (tgt := 62) hE d_Me_link_58 (by decide) ?_
                refine cx_bipush (v := 25) hE d_Me_link_62 (by decide) ?_
                refine cx_aload_n (i := 3) hE d_Me_link_64 rfl rfl ?_
                refine cx_get hE d_Me_link_65 f_Me_40 (by assumption) (by rfl) ?_
                refine cx_invV hE d_Me_link_68 l_Me_44 hm.1 (c_ck (right := true) (code := 25) (place := (nI t.2.1)) hm) rfl (by omega) (Nat.le_of_ble_eq_true rfl) n_Ve_check (by rfl) (fun v G1 q => ?_) (fun a G1 q => by cases q.1)
                obtain ⟨q0, hm1, hs1, hc1⟩ := q
                cases q0
                show cx_V E _ _ [] G1
                obtain ⟨x1, hme1, -⟩ := hm1.2.1
                have huj1 := huj
                rw [← tx_ck_a true 25 (nI t.2.1) s] at huj1
                have hni1 := hm1.2.2.2.2.2.1 j uj huj1 i ri hri
                unfold tx_nm at hni1
                have htd1 := (hdt.st hs1)
                obtain ⟨nd1, hd1, -⟩ := htd1
                have hdd1 : G1.1 d = some (.inr (7, [.int dt.1, .int (nI dt.2.1), .int (nI dt.2.2.1), va_rf nd1, va_rf (A.w dt.2.2.2.1), .int dt.2.2.2.2.1, .long dt.2.2.2.2.2])) := hd1
                refine cx_aload_n (i := 0) hE d_Me_link_71 rfl rfl ?_
                refine cx_get hE d_Me_link_72 f_Me_32 (by assumption) (by rfl) ?_
                refine cx_aload_n (i := 2) hE d_Me_link_75 rfl rfl ?_
                refine cx_get hE d_Me_link_76 f_Me_86 (by assumption) (by rfl) ?_
                refine cx_iload hE d_Me_link_79 rfl ?_
                refine cx_icmp_ne (tgt := 88)  hE d_Me_link_81 (by decide) (fun c_81 => ?_) (fun c_81 => ?_)
                · have q_w : decide (ri.2.2.1 = w) = false := decide_eq_false c_81
                  refine cx_iconst (v := 0) hE d_Me_link_88 (by decide) ?_
                  refine cx_bipush (v := 30) hE d_Me_link_89 (by decide) ?_
                  refine cx_aload_n (i := 1) hE d_Me_link_91 rfl rfl ?_
                  refine cx_get hE d_Me_link_92 f_Me_40 (by assumption) (by rfl) ?_
                  refine cx_invV hE d_Me_link_95 l_Me_44 hm1.1 (c_ck (right := false) (code := 30) (place := (nI dt.2.1)) hm1) rfl (by omega) (Nat.le_of_ble_eq_true rfl) n_Ve_check (by rfl) (fun v G2 q => ?_) (fun a G2 q => by cases q.1)
                  obtain ⟨q0, hm2, hs2, hc2⟩ := q
                  cases q0
                  show cx_V E _ _ [] G2
                  have huj2 := huj1
                  rw [← tx_ck_a false 30 (nI dt.2.1) (tx_ck true 25 (nI t.2.1) s)] at huj2
                  have hni2 := hm2.2.2.2.2.2.1 j uj huj2 i ri hri
                  unfold tx_nm at hni2
                  obtain ⟨x2, hme2, -⟩ := hm2.2.1
                  refine cx_aload_n (i := 2) hE d_Me_link_98 rfl rfl ?_
                  refine cx_invV1 hE d_Me_link_99 l_Me_159 hni2 (c_Nm_isOutput hni2) rfl (by omega) (Nat.le_of_ble_eq_true rfl) n_Nm_isOutput (by rfl) ?_
                  refine cx_if_eq (tgt := 117)  hE d_Me_link_102 (by decide) (fun c_102 => ?_) (fun c_102 => ?_)
                  · refine cx_vret hE d_Me_link_117 rfl ?_
                    have e9 : tx_link dt (some (j, i)) t false w s = if (decide (ri.2.1 = 1 ∨ ri.2.1 = 2) && false) = true then tx_drive ((none : Option Nat).getD 0) t (tx_ck (decide (ri.2.2.1 = w)) 30 (nI dt.2.1) (tx_ck (false || !decide (ri.2.1 = 1 ∨ ri.2.1 = 2)) 25 (nI t.2.1) s)) else tx_ck (decide (ri.2.2.1 = w)) 30 (nI dt.2.1) (tx_ck (false || !decide (ri.2.1 = 1 ∨ ri.2.1 = 2)) 25 (nI t.2.1) s) := by
                      show tx_lks dt (j, i) t none w s = _
                      skip
                      unfold tx_lks tx_out
                      show (if (decide ((s.rj j i).2.1 = 1 ∨ (s.rj j i).2.1 = 2) && tx_dvb s none) = true then tx_drive _ t (tx_ck (decide ((s.rj j i).2.2.1 = w)) _ _ (tx_ck (tx_dvb s none || !decide ((s.rj j i).2.1 = 1 ∨ (s.rj j i).2.1 = 2)) _ _ s)) else (tx_ck (decide ((s.rj j i).2.2.1 = w)) _ _ (tx_ck (tx_dvb s none || !decide ((s.rj j i).2.1 = 1 ∨ (s.rj j i).2.1 = 2)) _ _ s))) = _
                      rw [hrj, hdvb]
                    rw [e9, q_o, q_w]
                    first
                      | exact ⟨rfl, hm3, hs1.tr (hs2.tr hs3), hc3.trans (hc2.trans hc1)⟩
                      | exact ⟨rfl, hm2, hs1.tr hs2, hc2.trans hc1⟩
                  · exact absurd (cx_bn.mp c_102) (by rw [q_o]; decide)
                    -- end
                · have q_w : decide (ri.2.2.1 = w) = true := decide_eq_true c_81
                  refine cx_iconst (v := 1) hE d_Me_link_84 (by decide) ?_
                  refine cx_goto (tgt := 89) hE d_Me_link_85 (by decide) ?_
                  refine cx_bipush (v := 30) hE d_Me_link_89 (by decide) ?_
                  refine cx_aload_n (i := 1) hE d_Me_link_91 rfl rfl ?_
                  refine cx_get hE d_Me_link_92 f_Me_40 (by assumption) (by rfl) ?_
                  refine cx_invV hE d_Me_link_95 l_Me_44 hm1.1 (c_ck (right := true) (code := 30) (place := (nI dt.2.1)) hm1) rfl (by omega) (Nat.le_of_ble_eq_true rfl) n_Ve_check (by rfl) (fun v G2 q => ?_) (fun a G2 q => by cases q.1)
                  obtain ⟨q0, hm2, hs2, hc2⟩ := q
                  cases q0
                  show cx_V E _ _ [] G2
                  have huj2 := huj1
                  rw [← tx_ck_a true 30 (nI dt.2.1) (tx_ck true 25 (nI t.2.1) s)] at huj2
                  have hni2 := hm2.2.2.2.2.2.1 j uj huj2 i ri hri
                  unfold tx_nm at hni2
                  obtain ⟨x2, hme2, -⟩ := hm2.2.1
                  refine cx_aload_n (i := 2) hE d_Me_link_98 rfl rfl ?_
                  refine cx_invV1 hE d_Me_link_99 l_Me_159 hni2 (c_Nm_isOutput hni2) rfl (by omega) (Nat.le_of_ble_eq_true rfl) n_Nm_isOutput (by rfl) ?_
                  refine cx_if_eq (tgt := 117)  hE d_Me_link_102 (by decide) (fun c_102 => ?_) (fun c_102 => ?_)
                  · refine cx_vret hE d_Me_link_117 rfl ?_
                    have e9 : tx_link dt (some (j, i)) t false w s = if (decide (ri.2.1 = 1 ∨ ri.2.1 = 2) && false) = true then tx_drive ((none : Option Nat).getD 0) t (tx_ck (decide (ri.2.2.1 = w)) 30 (nI dt.2.1) (tx_ck (false || !decide (ri.2.1 = 1 ∨ ri.2.1 = 2)) 25 (nI t.2.1) s)) else tx_ck (decide (ri.2.2.1 = w)) 30 (nI dt.2.1) (tx_ck (false || !decide (ri.2.1 = 1 ∨ ri.2.1 = 2)) 25 (nI t.2.1) s) := by
                      show tx_lks dt (j, i) t none w s = _
                      skip
                      unfold tx_lks tx_out
                      show (if (decide ((s.rj j i).2.1 = 1 ∨ (s.rj j i).2.1 = 2) && tx_dvb s none) = true then tx_drive _ t (tx_ck (decide ((s.rj j i).2.2.1 = w)) _ _ (tx_ck (tx_dvb s none || !decide ((s.rj j i).2.1 = 1 ∨ (s.rj j i).2.1 = 2)) _ _ s)) else (tx_ck (decide ((s.rj j i).2.2.1 = w)) _ _ (tx_ck (tx_dvb s none || !decide ((s.rj j i).2.1 = 1 ∨ (s.rj j i).2.1 = 2)) _ _ s))) = _
                      rw [hrj, hdvb]
                    rw [e9, q_o, q_w]
                    first
                      | exact ⟨rfl, hm3, hs1.tr (hs2.tr hs3), hc3.trans (hc2.trans hc1)⟩
                      | exact ⟨rfl, hm2, hs1.tr hs2, hc2.trans hc1⟩
                  · exact absurd (cx_bn.mp c_102) (by rw [q_o]; decide)
                    -- end
          · cases c_23
            -- end
        · exact absurd rfl c_7
          -- end
      · cases c_1
        -- end
    | true =>
      have hda := c_Me_declaredAs (l := l) hm hu ht
      cases hd : s.da t.2.2.2.1 with
      | none =>
        rw [hd] at hda
        have hdvb : tx_dvb s none = false := rfl
        refine cx_aload_n (i := 2) hE d_Me_link_0 rfl rfl ?_
        refine cx_ifnonnull (tgt := 5) (r := some (A.na j i)) hE d_Me_link_1 (by decide) (fun a_1 c_1 => ?_) (fun c_1 => ?_)
        · refine cx_iload hE d_Me_link_5 rfl ?_
          refine cx_if_eq (tgt := 18)  hE d_Me_link_7 (by decide) (fun c_7 => ?_) (fun c_7 => ?_)
          · exact absurd c_7 (by decide)
            -- end
          · refine cx_aload_n (i := 0) hE d_Me_link_10 rfl rfl ?_
            refine cx_aload_n (i := 3) hE d_Me_link_11 rfl rfl ?_
            refine cx_invV1 hE d_Me_link_12 l_Me_93 hme hda rfl (by omega) (Nat.le_of_ble_eq_true rfl) n_Me_declaredAs (by rfl) ?_
            refine cx_goto (tgt := 19) hE d_Me_link_15 (by decide) ?_
            refine cx_astore hE d_Me_link_19 (by decide) ?_
            refine cx_aload hE d_Me_link_21 rfl ?_
            refine cx_ifnull (tgt := 38) (r := none) hE d_Me_link_23 (by decide) (fun c_23 => ?_) (fun a_23 c_23 => ?_)
            · refine cx_iconst (v := 0) hE d_Me_link_38 (by decide) ?_
              refine cx_istore hE d_Me_link_39 (by decide) ?_
              refine cx_aload_n (i := 0) hE d_Me_link_41 rfl rfl ?_
              refine cx_get hE d_Me_link_42 f_Me_32 (by assumption) (by rfl) ?_
              refine cx_iload hE d_Me_link_45 rfl ?_
              refine cx_if_ne (tgt := 57)  hE d_Me_link_47 (by decide) (fun c_47 => ?_) (fun c_47 => ?_)
              · exact absurd rfl c_47
                -- end
              · refine cx_aload_n (i := 2) hE d_Me_link_50 rfl rfl ?_
                refine cx_invV1 hE d_Me_link_51 l_Me_159 hni (c_Nm_isOutput hni) rfl (by omega) (Nat.le_of_ble_eq_true rfl) n_Nm_isOutput (by rfl) ?_
                refine cx_if_ne (tgt := 61)  hE d_Me_link_54 (by decide) (fun c_54 => ?_) (fun c_54 => ?_)
                · have q_o : decide (ri.2.1 = 1 ∨ ri.2.1 = 2) = true := cx_bn.mp c_54
                  refine cx_iconst (v := 0) hE d_Me_link_61 (by decide) ?_
                  refine cx_bipush (v := 25) hE d_Me_link_62 (by decide) ?_
                  refine cx_aload_n (i := 3) hE d_Me_link_64 rfl rfl ?_
                  refine cx_get hE d_Me_link_65 f_Me_40 (by assumption) (by rfl) ?_
                  refine cx_invV hE d_Me_link_68 l_Me_44 hm.1 (c_ck (right := false) (code := 25) (place := (nI t.2.1)) hm) rfl (by omega) (Nat.le_of_ble_eq_true rfl) n_Ve_check (by rfl) (fun v G1 q => ?_) (fun a G1 q => by cases q.1)
                  obtain ⟨q0, hm1, hs1, hc1⟩ := q
                  cases q0
                  show cx_V E _ _ [] G1
                  obtain ⟨x1, hme1, -⟩ := hm1.2.1
                  have huj1 := huj
                  rw [← tx_ck_a false 25 (nI t.2.1) s] at huj1
                  have hni1 := hm1.2.2.2.2.2.1 j uj huj1 i ri hri
                  unfold tx_nm at hni1
                  have htd1 := (hdt.st hs1)
                  obtain ⟨nd1, hd1, -⟩ := htd1
                  have hdd1 : G1.1 d = some (.inr (7, [.int dt.1, .int (nI dt.2.1), .int (nI dt.2.2.1), va_rf nd1, va_rf (A.w dt.2.2.2.1), .int dt.2.2.2.2.1, .long dt.2.2.2.2.2])) := hd1
                  refine cx_aload_n (i := 0) hE d_Me_link_71 rfl rfl ?_
                  refine cx_get hE d_Me_link_72 f_Me_32 (by assumption) (by rfl) ?_
                  refine cx_aload_n (i := 2) hE d_Me_link_75 rfl rfl ?_
                  refine cx_get hE d_Me_link_76 f_Me_86 (by assumption) (by rfl) ?_
                  refine cx_iload hE d_Me_link_79 rfl ?_
                  refine cx_icmp_ne (tgt := 88)  hE d_Me_link_81 (by decide) (fun c_81 => ?_) (fun c_81 => ?_)
                  · have q_w : decide (ri.2.2.1 = w) = false := decide_eq_false c_81
                    refine cx_iconst (v := 0) hE d_Me_link_88 (by decide) ?_
                    refine cx_bipush (v := 30) hE d_Me_link_89 (by decide) ?_
                    refine cx_aload_n (i := 1) hE d_Me_link_91 rfl rfl ?_
                    refine cx_get hE d_Me_link_92 f_Me_40 (by assumption) (by rfl) ?_
                    refine cx_invV hE d_Me_link_95 l_Me_44 hm1.1 (c_ck (right := false) (code := 30) (place := (nI dt.2.1)) hm1) rfl (by omega) (Nat.le_of_ble_eq_true rfl) n_Ve_check (by rfl) (fun v G2 q => ?_) (fun a G2 q => by cases q.1)
                    obtain ⟨q0, hm2, hs2, hc2⟩ := q
                    cases q0
                    show cx_V E _ _ [] G2
                    have huj2 := huj1
                    rw [← tx_ck_a false 30 (nI dt.2.1) (tx_ck false 25 (nI t.2.1) s)] at huj2
                    have hni2 := hm2.2.2.2.2.2.1 j uj huj2 i ri hri
                    unfold tx_nm at hni2
                    obtain ⟨x2, hme2, -⟩ := hm2.2.1
                    refine cx_aload_n (i := 2) hE d_Me_link_98 rfl rfl ?_
                    refine cx_invV1 hE d_Me_link_99 l_Me_159 hni2 (c_Nm_isOutput hni2) rfl (by omega) (Nat.le_of_ble_eq_true rfl) n_Nm_isOutput (by rfl) ?_
                    refine cx_if_eq (tgt := 117)  hE d_Me_link_102 (by decide) (fun c_102 => ?_) (fun c_102 => ?_)
                    · exact absurd (cx_b0.mp c_102) (by rw [q_o]; decide)
                      -- end
                    · refine cx_iload hE d_Me_link_105 rfl ?_
                      refine cx_if_eq (tgt := 117)  hE d_Me_link_107 (by decide) (fun c_107 => ?_) (fun c_107 => ?_)
                      · refine cx_vret hE d_Me_link_117 rfl ?_
                        have e9 : tx_link dt (some (j, i)) t true w s = if (decide (ri.2.1 = 1 ∨ ri.2.1 = 2) && false) = true then tx_drive ((none : Option Nat).getD 0) t (tx_ck (decide (ri.2.2.1 = w)) 30 (nI dt.2.1) (tx_ck (false || !decide (ri.2.1 = 1 ∨ ri.2.1 = 2)) 25 (nI t.2.1) s)) else tx_ck (decide (ri.2.2.1 = w)) 30 (nI dt.2.1) (tx_ck (false || !decide (ri.2.1 = 1 ∨ ri.2.1 = 2)) 25 (nI t.2.1) s) := by
                          show tx_lks dt (j, i) t (s.da t.2.2.2.1) w s = _
                          rw [hd]
                          unfold tx_lks tx_out
                          show (if (decide ((s.rj j i).2.1 = 1 ∨ (s.rj j i).2.1 = 2) && tx_dvb s none) = true then tx_drive _ t (tx_ck (decide ((s.rj j i).2.2.1 = w)) _ _ (tx_ck (tx_dvb s none || !decide ((s.rj j i).2.1 = 1 ∨ (s.rj j i).2.1 = 2)) _ _ s)) else (tx_ck (decide ((s.rj j i).2.2.1 = w)) _ _ (tx_ck (tx_dvb s none || !decide ((s.rj j i).2.1 = 1 ∨ (s.rj j i).2.1 = 2)) _ _ s))) = _
                          rw [hrj, hdvb]
                        rw [e9, q_o, q_w]
                        first
                          | exact ⟨rfl, hm3, hs1.tr (hs2.tr hs3), hc3.trans (hc2.trans hc1)⟩
                          | exact ⟨rfl, hm2, hs1.tr hs2, hc2.trans hc1⟩
                      · exact absurd rfl c_107
                        -- end
                  · have q_w : decide (ri.2.2.1 = w) = true := decide_eq_true c_81
                    refine cx_iconst (v := 1) hE d_Me_link_84 (by decide) ?_
                    refine cx_goto (tgt := 89) hE d_Me_link_85 (by decide) ?_
                    refine cx_bipush (v := 30) hE d_Me_link_89 (by decide) ?_
                    refine cx_aload_n (i := 1) hE d_Me_link_91 rfl rfl ?_
                    refine cx_get hE d_Me_link_92 f_Me_40 (by assumption) (by rfl) ?_
                    refine cx_invV hE d_Me_link_95 l_Me_44 hm1.1 (c_ck (right := true) (code := 30) (place := (nI dt.2.1)) hm1) rfl (by omega) (Nat.le_of_ble_eq_true rfl) n_Ve_check (by rfl) (fun v G2 q => ?_) (fun a G2 q => by cases q.1)
                    obtain ⟨q0, hm2, hs2, hc2⟩ := q
                    cases q0
                    show cx_V E _ _ [] G2
                    have huj2 := huj1
                    rw [← tx_ck_a true 30 (nI dt.2.1) (tx_ck false 25 (nI t.2.1) s)] at huj2
                    have hni2 := hm2.2.2.2.2.2.1 j uj huj2 i ri hri
                    unfold tx_nm at hni2
                    obtain ⟨x2, hme2, -⟩ := hm2.2.1
                    refine cx_aload_n (i := 2) hE d_Me_link_98 rfl rfl ?_
                    refine cx_invV1 hE d_Me_link_99 l_Me_159 hni2 (c_Nm_isOutput hni2) rfl (by omega) (Nat.le_of_ble_eq_true rfl) n_Nm_isOutput (by rfl) ?_
                    refine cx_if_eq (tgt := 117)  hE d_Me_link_102 (by decide) (fun c_102 => ?_) (fun c_102 => ?_)
                    · exact absurd (cx_b0.mp c_102) (by rw [q_o]; decide)
                      -- end
                    · refine cx_iload hE d_Me_link_105 rfl ?_
                      refine cx_if_eq (tgt := 117)  hE d_Me_link_107 (by decide) (fun c_107 => ?_) (fun c_107 => ?_)
                      · refine cx_vret hE d_Me_link_117 rfl ?_
                        have e9 : tx_link dt (some (j, i)) t true w s = if (decide (ri.2.1 = 1 ∨ ri.2.1 = 2) && false) = true then tx_drive ((none : Option Nat).getD 0) t (tx_ck (decide (ri.2.2.1 = w)) 30 (nI dt.2.1) (tx_ck (false || !decide (ri.2.1 = 1 ∨ ri.2.1 = 2)) 25 (nI t.2.1) s)) else tx_ck (decide (ri.2.2.1 = w)) 30 (nI dt.2.1) (tx_ck (false || !decide (ri.2.1 = 1 ∨ ri.2.1 = 2)) 25 (nI t.2.1) s) := by
                          show tx_lks dt (j, i) t (s.da t.2.2.2.1) w s = _
                          rw [hd]
                          unfold tx_lks tx_out
                          show (if (decide ((s.rj j i).2.1 = 1 ∨ (s.rj j i).2.1 = 2) && tx_dvb s none) = true then tx_drive _ t (tx_ck (decide ((s.rj j i).2.2.1 = w)) _ _ (tx_ck (tx_dvb s none || !decide ((s.rj j i).2.1 = 1 ∨ (s.rj j i).2.1 = 2)) _ _ s)) else (tx_ck (decide ((s.rj j i).2.2.1 = w)) _ _ (tx_ck (tx_dvb s none || !decide ((s.rj j i).2.1 = 1 ∨ (s.rj j i).2.1 = 2)) _ _ s))) = _
                          rw [hrj, hdvb]
                        rw [e9, q_o, q_w]
                        first
                          | exact ⟨rfl, hm3, hs1.tr (hs2.tr hs3), hc3.trans (hc2.trans hc1)⟩
                          | exact ⟨rfl, hm2, hs1.tr hs2, hc2.trans hc1⟩
                      · exact absurd rfl c_107
                        -- end
                · have q_o : decide (ri.2.1 = 1 ∨ ri.2.1 = 2) = false := cx_b0.mp (by simpa using c_54)
                  refine cx_iconst (v := 1) hE d_Me_link_57 (by decide) ?_
                  refine cx_goto (tgt := 62) hE d_Me_link_58 (by decide) ?_
                  refine cx_bipush (v := 25) hE d_Me_link_62 (by decide) ?_
                  refine cx_aload_n (i := 3) hE d_Me_link_64 rfl rfl ?_
                  refine cx_get hE d_Me_link_65 f_Me_40 (by assumption) (by rfl) ?_
                  refine cx_invV hE d_Me_link_68 l_Me_44 hm.1 (c_ck (right := true) (code := 25) (place := (nI t.2.1)) hm) rfl (by omega) (Nat.le_of_ble_eq_true rfl) n_Ve_check (by rfl) (fun v G1 q => ?_) (fun a G1 q => by cases q.1)
                  obtain ⟨q0, hm1, hs1, hc1⟩ := q
                  cases q0
                  show cx_V E _ _ [] G1
                  obtain ⟨x1, hme1, -⟩ := hm1.2.1
                  have huj1 := huj
                  rw [← tx_ck_a true 25 (nI t.2.1) s] at huj1
                  have hni1 := hm1.2.2.2.2.2.1 j uj huj1 i ri hri
                  unfold tx_nm at hni1
                  have htd1 := (hdt.st hs1)
                  obtain ⟨nd1, hd1, -⟩ := htd1
                  have hdd1 : G1.1 d = some (.inr (7, [.int dt.1, .int (nI dt.2.1), .int (nI dt.2.2.1), va_rf nd1, va_rf (A.w dt.2.2.2.1), .int dt.2.2.2.2.1, .long dt.2.2.2.2.2])) := hd1
                  refine cx_aload_n (i := 0) hE d_Me_link_71 rfl rfl ?_
                  refine cx_get hE d_Me_link_72 f_Me_32 (by assumption) (by rfl) ?_
                  refine cx_aload_n (i := 2) hE d_Me_link_75 rfl rfl ?_
                  refine cx_get hE d_Me_link_76 f_Me_86 (by assumption) (by rfl) ?_
                  refine cx_iload hE d_Me_link_79 rfl ?_
                  refine cx_icmp_ne (tgt := 88)  hE d_Me_link_81 (by decide) (fun c_81 => ?_) (fun c_81 => ?_)
                  · have q_w : decide (ri.2.2.1 = w) = false := decide_eq_false c_81
                    refine cx_iconst (v := 0) hE d_Me_link_88 (by decide) ?_
                    refine cx_bipush (v := 30) hE d_Me_link_89 (by decide) ?_
                    refine cx_aload_n (i := 1) hE d_Me_link_91 rfl rfl ?_
                    refine cx_get hE d_Me_link_92 f_Me_40 (by assumption) (by rfl) ?_
                    refine cx_invV hE d_Me_link_95 l_Me_44 hm1.1 (c_ck (right := false) (code := 30) (place := (nI dt.2.1)) hm1) rfl (by omega) (Nat.le_of_ble_eq_true rfl) n_Ve_check (by rfl) (fun v G2 q => ?_) (fun a G2 q => by cases q.1)
                    obtain ⟨q0, hm2, hs2, hc2⟩ := q
                    cases q0
                    show cx_V E _ _ [] G2
                    have huj2 := huj1
                    rw [← tx_ck_a false 30 (nI dt.2.1) (tx_ck true 25 (nI t.2.1) s)] at huj2
                    have hni2 := hm2.2.2.2.2.2.1 j uj huj2 i ri hri
                    unfold tx_nm at hni2
                    obtain ⟨x2, hme2, -⟩ := hm2.2.1
                    refine cx_aload_n (i := 2) hE d_Me_link_98 rfl rfl ?_
                    refine cx_invV1 hE d_Me_link_99 l_Me_159 hni2 (c_Nm_isOutput hni2) rfl (by omega) (Nat.le_of_ble_eq_true rfl) n_Nm_isOutput (by rfl) ?_
                    refine cx_if_eq (tgt := 117)  hE d_Me_link_102 (by decide) (fun c_102 => ?_) (fun c_102 => ?_)
                    · refine cx_vret hE d_Me_link_117 rfl ?_
                      have e9 : tx_link dt (some (j, i)) t true w s = if (decide (ri.2.1 = 1 ∨ ri.2.1 = 2) && false) = true then tx_drive ((none : Option Nat).getD 0) t (tx_ck (decide (ri.2.2.1 = w)) 30 (nI dt.2.1) (tx_ck (false || !decide (ri.2.1 = 1 ∨ ri.2.1 = 2)) 25 (nI t.2.1) s)) else tx_ck (decide (ri.2.2.1 = w)) 30 (nI dt.2.1) (tx_ck (false || !decide (ri.2.1 = 1 ∨ ri.2.1 = 2)) 25 (nI t.2.1) s) := by
                        show tx_lks dt (j, i) t (s.da t.2.2.2.1) w s = _
                        rw [hd]
                        unfold tx_lks tx_out
                        show (if (decide ((s.rj j i).2.1 = 1 ∨ (s.rj j i).2.1 = 2) && tx_dvb s none) = true then tx_drive _ t (tx_ck (decide ((s.rj j i).2.2.1 = w)) _ _ (tx_ck (tx_dvb s none || !decide ((s.rj j i).2.1 = 1 ∨ (s.rj j i).2.1 = 2)) _ _ s)) else (tx_ck (decide ((s.rj j i).2.2.1 = w)) _ _ (tx_ck (tx_dvb s none || !decide ((s.rj j i).2.1 = 1 ∨ (s.rj j i).2.1 = 2)) _ _ s))) = _
                        rw [hrj, hdvb]
                      rw [e9, q_o, q_w]
                      first
                        | exact ⟨rfl, hm3, hs1.tr (hs2.tr hs3), hc3.trans (hc2.trans hc1)⟩
                        | exact ⟨rfl, hm2, hs1.tr hs2, hc2.trans hc1⟩
                    · exact absurd (cx_bn.mp c_102) (by rw [q_o]; decide)
                      -- end
                  · have q_w : decide (ri.2.2.1 = w) = true := decide_eq_true c_81
                    refine cx_iconst (v := 1) hE d_Me_link_84 (by decide) ?_
                    refine cx_goto (tgt := 89) hE d_Me_link_85 (by decide) ?_
                    refine cx_bipush (v := 30) hE d_Me_link_89 (by decide) ?_
                    refine cx_aload_n (i := 1) hE d_Me_link_91 rfl rfl ?_
                    refine cx_get hE d_Me_link_92 f_Me_40 (by assumption) (by rfl) ?_
                    refine cx_invV hE d_Me_link_95 l_Me_44 hm1.1 (c_ck (right := true) (code := 30) (place := (nI dt.2.1)) hm1) rfl (by omega) (Nat.le_of_ble_eq_true rfl) n_Ve_check (by rfl) (fun v G2 q => ?_) (fun a G2 q => by cases q.1)
                    obtain ⟨q0, hm2, hs2, hc2⟩ := q
                    cases q0
                    show cx_V E _ _ [] G2
                    have huj2 := huj1
                    rw [← tx_ck_a true 30 (nI dt.2.1) (tx_ck true 25 (nI t.2.1) s)] at huj2
                    have hni2 := hm2.2.2.2.2.2.1 j uj huj2 i ri hri
                    unfold tx_nm at hni2
                    obtain ⟨x2, hme2, -⟩ := hm2.2.1
                    refine cx_aload_n (i := 2) hE d_Me_link_98 rfl rfl ?_
                    refine cx_invV1 hE d_Me_link_99 l_Me_159 hni2 (c_Nm_isOutput hni2) rfl (by omega) (Nat.le_of_ble_eq_true rfl) n_Nm_isOutput (by rfl) ?_
                    refine cx_if_eq (tgt := 117)  hE d_Me_link_102 (by decide) (fun c_102 => ?_) (fun c_102 => ?_)
                    · refine cx_vret hE d_Me_link_117 rfl ?_
                      have e9 : tx_link dt (some (j, i)) t true w s = if (decide (ri.2.1 = 1 ∨ ri.2.1 = 2) && false) = true then tx_drive ((none : Option Nat).getD 0) t (tx_ck (decide (ri.2.2.1 = w)) 30 (nI dt.2.1) (tx_ck (false || !decide (ri.2.1 = 1 ∨ ri.2.1 = 2)) 25 (nI t.2.1) s)) else tx_ck (decide (ri.2.2.1 = w)) 30 (nI dt.2.1) (tx_ck (false || !decide (ri.2.1 = 1 ∨ ri.2.1 = 2)) 25 (nI t.2.1) s) := by
                        show tx_lks dt (j, i) t (s.da t.2.2.2.1) w s = _
                        rw [hd]
                        unfold tx_lks tx_out
                        show (if (decide ((s.rj j i).2.1 = 1 ∨ (s.rj j i).2.1 = 2) && tx_dvb s none) = true then tx_drive _ t (tx_ck (decide ((s.rj j i).2.2.1 = w)) _ _ (tx_ck (tx_dvb s none || !decide ((s.rj j i).2.1 = 1 ∨ (s.rj j i).2.1 = 2)) _ _ s)) else (tx_ck (decide ((s.rj j i).2.2.1 = w)) _ _ (tx_ck (tx_dvb s none || !decide ((s.rj j i).2.1 = 1 ∨ (s.rj j i).2.1 = 2)) _ _ s))) = _
                        rw [hrj, hdvb]
                      rw [e9, q_o, q_w]
                      first
                        | exact ⟨rfl, hm3, hs1.tr (hs2.tr hs3), hc3.trans (hc2.trans hc1)⟩
                        | exact ⟨rfl, hm2, hs1.tr hs2, hc2.trans hc1⟩
                    · exact absurd (cx_bn.mp c_102) (by rw [q_o]; decide)
                      -- end
            · cases c_23
              -- end
        · cases c_1
          -- end
      | some q =>
        rw [hd] at hda
        obtain ⟨u9, r, hu9, hr⟩ := tx_S.da_ok hm.2.2.2.2.2.2.2.2.1 _ q hd
        cases hu.symm.trans hu9
        have hn9 := hm.2.2.2.2.2.1 _ u (tx_S.cur hu) q r hr
        unfold tx_nm at hn9
        have hrc := tx_S.rc_of hu hr
        have hdvb : tx_dvb s (some q) = decide (r.2.1 = 1 ∨ r.2.1 = 3) := by
          show decide ((s.rc q).2.1 = 1 ∨ (s.rc q).2.1 = 3) = _
          rw [hrc]
        refine cx_aload_n (i := 2) hE d_Me_link_0 rfl rfl ?_
        refine cx_ifnonnull (tgt := 5) (r := some (A.na j i)) hE d_Me_link_1 (by decide) (fun a_1 c_1 => ?_) (fun c_1 => ?_)
        · refine cx_iload hE d_Me_link_5 rfl ?_
          refine cx_if_eq (tgt := 18)  hE d_Me_link_7 (by decide) (fun c_7 => ?_) (fun c_7 => ?_)
          · exact absurd c_7 (by decide)
            -- end
          · refine cx_aload_n (i := 0) hE d_Me_link_10 rfl rfl ?_
            refine cx_aload_n (i := 3) hE d_Me_link_11 rfl rfl ?_
            refine cx_invV1 hE d_Me_link_12 l_Me_93 hme hda rfl (by omega) (Nat.le_of_ble_eq_true rfl) n_Me_declaredAs (by rfl) ?_
            refine cx_goto (tgt := 19) hE d_Me_link_15 (by decide) ?_
            refine cx_astore hE d_Me_link_19 (by decide) ?_
            refine cx_aload hE d_Me_link_21 rfl ?_
            refine cx_ifnull (tgt := 38) (r := some (A.na s.2.1.length q)) hE d_Me_link_23 (by decide) (fun c_23 => ?_) (fun a_23 c_23 => ?_)
            · cases c_23
              -- end
            · refine cx_aload hE d_Me_link_26 rfl ?_
              refine cx_invV1 hE d_Me_link_28 l_Me_67 hn9 (c_Nm_isDrivable hn9) rfl (by omega) (Nat.le_of_ble_eq_true rfl) n_Nm_isDrivable (by rfl) ?_
              refine cx_if_eq (tgt := 38)  hE d_Me_link_31 (by decide) (fun c_31 => ?_) (fun c_31 => ?_)
              · have q_d : decide (r.2.1 = 1 ∨ r.2.1 = 3) = false := cx_b0.mp c_31
                rw [q_d] at hdvb
                refine cx_iconst (v := 0) hE d_Me_link_38 (by decide) ?_
                refine cx_istore hE d_Me_link_39 (by decide) ?_
                refine cx_aload_n (i := 0) hE d_Me_link_41 rfl rfl ?_
                refine cx_get hE d_Me_link_42 f_Me_32 (by assumption) (by rfl) ?_
                refine cx_iload hE d_Me_link_45 rfl ?_
                refine cx_if_ne (tgt := 57)  hE d_Me_link_47 (by decide) (fun c_47 => ?_) (fun c_47 => ?_)
                · exact absurd rfl c_47
                  -- end
                · refine cx_aload_n (i := 2) hE d_Me_link_50 rfl rfl ?_
                  refine cx_invV1 hE d_Me_link_51 l_Me_159 hni (c_Nm_isOutput hni) rfl (by omega) (Nat.le_of_ble_eq_true rfl) n_Nm_isOutput (by rfl) ?_
                  refine cx_if_ne (tgt := 61)  hE d_Me_link_54 (by decide) (fun c_54 => ?_) (fun c_54 => ?_)
                  · have q_o : decide (ri.2.1 = 1 ∨ ri.2.1 = 2) = true := cx_bn.mp c_54
                    refine cx_iconst (v := 0) hE d_Me_link_61 (by decide) ?_
                    refine cx_bipush (v := 25) hE d_Me_link_62 (by decide) ?_
                    refine cx_aload_n (i := 3) hE d_Me_link_64 rfl rfl ?_
                    refine cx_get hE d_Me_link_65 f_Me_40 (by assumption) (by rfl) ?_
                    refine cx_invV hE d_Me_link_68 l_Me_44 hm.1 (c_ck (right := false) (code := 25) (place := (nI t.2.1)) hm) rfl (by omega) (Nat.le_of_ble_eq_true rfl) n_Ve_check (by rfl) (fun v G1 q => ?_) (fun a G1 q => by cases q.1)
                    obtain ⟨q0, hm1, hs1, hc1⟩ := q
                    cases q0
                    show cx_V E _ _ [] G1
                    obtain ⟨x1, hme1, -⟩ := hm1.2.1
                    have huj1 := huj
                    rw [← tx_ck_a false 25 (nI t.2.1) s] at huj1
                    have hni1 := hm1.2.2.2.2.2.1 j uj huj1 i ri hri
                    unfold tx_nm at hni1
                    have htd1 := (hdt.st hs1)
                    obtain ⟨nd1, hd1, -⟩ := htd1
                    have hdd1 : G1.1 d = some (.inr (7, [.int dt.1, .int (nI dt.2.1), .int (nI dt.2.2.1), va_rf nd1, va_rf (A.w dt.2.2.2.1), .int dt.2.2.2.2.1, .long dt.2.2.2.2.2])) := hd1
                    refine cx_aload_n (i := 0) hE d_Me_link_71 rfl rfl ?_
                    refine cx_get hE d_Me_link_72 f_Me_32 (by assumption) (by rfl) ?_
                    refine cx_aload_n (i := 2) hE d_Me_link_75 rfl rfl ?_
                    refine cx_get hE d_Me_link_76 f_Me_86 (by assumption) (by rfl) ?_
                    refine cx_iload hE d_Me_link_79 rfl ?_
                    refine cx_icmp_ne (tgt := 88)  hE d_Me_link_81 (by decide) (fun c_81 => ?_) (fun c_81 => ?_)
                    · have q_w : decide (ri.2.2.1 = w) = false := decide_eq_false c_81
                      refine cx_iconst (v := 0) hE d_Me_link_88 (by decide) ?_
                      refine cx_bipush (v := 30) hE d_Me_link_89 (by decide) ?_
                      refine cx_aload_n (i := 1) hE d_Me_link_91 rfl rfl ?_
                      refine cx_get hE d_Me_link_92 f_Me_40 (by assumption) (by rfl) ?_
                      refine cx_invV hE d_Me_link_95 l_Me_44 hm1.1 (c_ck (right := false) (code := 30) (place := (nI dt.2.1)) hm1) rfl (by omega) (Nat.le_of_ble_eq_true rfl) n_Ve_check (by rfl) (fun v G2 q => ?_) (fun a G2 q => by cases q.1)
                      obtain ⟨q0, hm2, hs2, hc2⟩ := q
                      cases q0
                      show cx_V E _ _ [] G2
                      have huj2 := huj1
                      rw [← tx_ck_a false 30 (nI dt.2.1) (tx_ck false 25 (nI t.2.1) s)] at huj2
                      have hni2 := hm2.2.2.2.2.2.1 j uj huj2 i ri hri
                      unfold tx_nm at hni2
                      obtain ⟨x2, hme2, -⟩ := hm2.2.1
                      refine cx_aload_n (i := 2) hE d_Me_link_98 rfl rfl ?_
                      refine cx_invV1 hE d_Me_link_99 l_Me_159 hni2 (c_Nm_isOutput hni2) rfl (by omega) (Nat.le_of_ble_eq_true rfl) n_Nm_isOutput (by rfl) ?_
                      refine cx_if_eq (tgt := 117)  hE d_Me_link_102 (by decide) (fun c_102 => ?_) (fun c_102 => ?_)
                      · exact absurd (cx_b0.mp c_102) (by rw [q_o]; decide)
                        -- end
                      · refine cx_iload hE d_Me_link_105 rfl ?_
                        refine cx_if_eq (tgt := 117)  hE d_Me_link_107 (by decide) (fun c_107 => ?_) (fun c_107 => ?_)
                        · refine cx_vret hE d_Me_link_117 rfl ?_
                          first
                            | (have e9 : tx_link dt (some (j, i)) t true w s = if (decide (ri.2.1 = 1 ∨ ri.2.1 = 2) && true) = true then tx_drive (((some q) : Option Nat).getD 0) t (tx_ck (decide (ri.2.2.1 = w)) 30 (nI dt.2.1) (tx_ck (true || !decide (ri.2.1 = 1 ∨ ri.2.1 = 2)) 25 (nI t.2.1) s)) else tx_ck (decide (ri.2.2.1 = w)) 30 (nI dt.2.1) (tx_ck (true || !decide (ri.2.1 = 1 ∨ ri.2.1 = 2)) 25 (nI t.2.1) s) := by
                                 show tx_lks dt (j, i) t (s.da t.2.2.2.1) w s = _
                                 rw [hd]
                                 unfold tx_lks tx_out
                                 show (if (decide ((s.rj j i).2.1 = 1 ∨ (s.rj j i).2.1 = 2) && tx_dvb s (some q)) = true then tx_drive _ t (tx_ck (decide ((s.rj j i).2.2.1 = w)) _ _ (tx_ck (tx_dvb s (some q) || !decide ((s.rj j i).2.1 = 1 ∨ (s.rj j i).2.1 = 2)) _ _ s)) else (tx_ck (decide ((s.rj j i).2.2.1 = w)) _ _ (tx_ck (tx_dvb s (some q) || !decide ((s.rj j i).2.1 = 1 ∨ (s.rj j i).2.1 = 2)) _ _ s))) = _
                                 rw [hrj, hdvb]
                               rw [e9, q_o, q_w]
                               first
                                 | exact ⟨rfl, hm3, hs1.tr (hs2.tr hs3), hc3.trans (hc2.trans hc1)⟩
                                 | exact ⟨rfl, hm2, hs1.tr hs2, hc2.trans hc1⟩)
                            | (have e9 : tx_link dt (some (j, i)) t true w s = if (decide (ri.2.1 = 1 ∨ ri.2.1 = 2) && false) = true then tx_drive (((some q) : Option Nat).getD 0) t (tx_ck (decide (ri.2.2.1 = w)) 30 (nI dt.2.1) (tx_ck (false || !decide (ri.2.1 = 1 ∨ ri.2.1 = 2)) 25 (nI t.2.1) s)) else tx_ck (decide (ri.2.2.1 = w)) 30 (nI dt.2.1) (tx_ck (false || !decide (ri.2.1 = 1 ∨ ri.2.1 = 2)) 25 (nI t.2.1) s) := by
                                 show tx_lks dt (j, i) t (s.da t.2.2.2.1) w s = _
                                 rw [hd]
                                 unfold tx_lks tx_out
                                 show (if (decide ((s.rj j i).2.1 = 1 ∨ (s.rj j i).2.1 = 2) && tx_dvb s (some q)) = true then tx_drive _ t (tx_ck (decide ((s.rj j i).2.2.1 = w)) _ _ (tx_ck (tx_dvb s (some q) || !decide ((s.rj j i).2.1 = 1 ∨ (s.rj j i).2.1 = 2)) _ _ s)) else (tx_ck (decide ((s.rj j i).2.2.1 = w)) _ _ (tx_ck (tx_dvb s (some q) || !decide ((s.rj j i).2.1 = 1 ∨ (s.rj j i).2.1 = 2)) _ _ s))) = _
                                 rw [hrj, hdvb]
                               rw [e9, q_o, q_w]
                               first
                                 | exact ⟨rfl, hm3, hs1.tr (hs2.tr hs3), hc3.trans (hc2.trans hc1)⟩
                                 | exact ⟨rfl, hm2, hs1.tr hs2, hc2.trans hc1⟩)
                        · exact absurd rfl c_107
                          -- end
                    · have q_w : decide (ri.2.2.1 = w) = true := decide_eq_true c_81
                      refine cx_iconst (v := 1) hE d_Me_link_84 (by decide) ?_
                      refine cx_goto (tgt := 89) hE d_Me_link_85 (by decide) ?_
                      refine cx_bipush (v := 30) hE d_Me_link_89 (by decide) ?_
                      refine cx_aload_n (i := 1) hE d_Me_link_91 rfl rfl ?_
                      refine cx_get hE d_Me_link_92 f_Me_40 (by assumption) (by rfl) ?_
                      refine cx_invV hE d_Me_link_95 l_Me_44 hm1.1 (c_ck (right := true) (code := 30) (place := (nI dt.2.1)) hm1) rfl (by omega) (Nat.le_of_ble_eq_true rfl) n_Ve_check (by rfl) (fun v G2 q => ?_) (fun a G2 q => by cases q.1)
                      obtain ⟨q0, hm2, hs2, hc2⟩ := q
                      cases q0
                      show cx_V E _ _ [] G2
                      have huj2 := huj1
                      rw [← tx_ck_a true 30 (nI dt.2.1) (tx_ck false 25 (nI t.2.1) s)] at huj2
                      have hni2 := hm2.2.2.2.2.2.1 j uj huj2 i ri hri
                      unfold tx_nm at hni2
                      obtain ⟨x2, hme2, -⟩ := hm2.2.1
                      refine cx_aload_n (i := 2) hE d_Me_link_98 rfl rfl ?_
                      refine cx_invV1 hE d_Me_link_99 l_Me_159 hni2 (c_Nm_isOutput hni2) rfl (by omega) (Nat.le_of_ble_eq_true rfl) n_Nm_isOutput (by rfl) ?_
                      refine cx_if_eq (tgt := 117)  hE d_Me_link_102 (by decide) (fun c_102 => ?_) (fun c_102 => ?_)
                      · exact absurd (cx_b0.mp c_102) (by rw [q_o]; decide)
                        -- end
                      · refine cx_iload hE d_Me_link_105 rfl ?_
                        refine cx_if_eq (tgt := 117)  hE d_Me_link_107 (by decide) (fun c_107 => ?_) (fun c_107 => ?_)
                        · refine cx_vret hE d_Me_link_117 rfl ?_
                          first
                            | (have e9 : tx_link dt (some (j, i)) t true w s = if (decide (ri.2.1 = 1 ∨ ri.2.1 = 2) && true) = true then tx_drive (((some q) : Option Nat).getD 0) t (tx_ck (decide (ri.2.2.1 = w)) 30 (nI dt.2.1) (tx_ck (true || !decide (ri.2.1 = 1 ∨ ri.2.1 = 2)) 25 (nI t.2.1) s)) else tx_ck (decide (ri.2.2.1 = w)) 30 (nI dt.2.1) (tx_ck (true || !decide (ri.2.1 = 1 ∨ ri.2.1 = 2)) 25 (nI t.2.1) s) := by
                                 show tx_lks dt (j, i) t (s.da t.2.2.2.1) w s = _
                                 rw [hd]
                                 unfold tx_lks tx_out
                                 show (if (decide ((s.rj j i).2.1 = 1 ∨ (s.rj j i).2.1 = 2) && tx_dvb s (some q)) = true then tx_drive _ t (tx_ck (decide ((s.rj j i).2.2.1 = w)) _ _ (tx_ck (tx_dvb s (some q) || !decide ((s.rj j i).2.1 = 1 ∨ (s.rj j i).2.1 = 2)) _ _ s)) else (tx_ck (decide ((s.rj j i).2.2.1 = w)) _ _ (tx_ck (tx_dvb s (some q) || !decide ((s.rj j i).2.1 = 1 ∨ (s.rj j i).2.1 = 2)) _ _ s))) = _
                                 rw [hrj, hdvb]
                               rw [e9, q_o, q_w]
                               first
                                 | exact ⟨rfl, hm3, hs1.tr (hs2.tr hs3), hc3.trans (hc2.trans hc1)⟩
                                 | exact ⟨rfl, hm2, hs1.tr hs2, hc2.trans hc1⟩)
                            | (have e9 : tx_link dt (some (j, i)) t true w s = if (decide (ri.2.1 = 1 ∨ ri.2.1 = 2) && false) = true then tx_drive (((some q) : Option Nat).getD 0) t (tx_ck (decide (ri.2.2.1 = w)) 30 (nI dt.2.1) (tx_ck (false || !decide (ri.2.1 = 1 ∨ ri.2.1 = 2)) 25 (nI t.2.1) s)) else tx_ck (decide (ri.2.2.1 = w)) 30 (nI dt.2.1) (tx_ck (false || !decide (ri.2.1 = 1 ∨ ri.2.1 = 2)) 25 (nI t.2.1) s) := by
                                 show tx_lks dt (j, i) t (s.da t.2.2.2.1) w s = _
                                 rw [hd]
                                 unfold tx_lks tx_out
                                 show (if (decide ((s.rj j i).2.1 = 1 ∨ (s.rj j i).2.1 = 2) && tx_dvb s (some q)) = true then tx_drive _ t (tx_ck (decide ((s.rj j i).2.2.1 = w)) _ _ (tx_ck (tx_dvb s (some q) || !decide ((s.rj j i).2.1 = 1 ∨ (s.rj j i).2.1 = 2)) _ _ s)) else (tx_ck (decide ((s.rj j i).2.2.1 = w)) _ _ (tx_ck (tx_dvb s (some q) || !decide ((s.rj j i).2.1 = 1 ∨ (s.rj j i).2.1 = 2)) _ _ s))) = _
                                 rw [hrj, hdvb]
                               rw [e9, q_o, q_w]
                               first
                                 | exact ⟨rfl, hm3, hs1.tr (hs2.tr hs3), hc3.trans (hc2.trans hc1)⟩
                                 | exact ⟨rfl, hm2, hs1.tr hs2, hc2.trans hc1⟩)
                        · exact absurd rfl c_107
                          -- end
                  · have q_o : decide (ri.2.1 = 1 ∨ ri.2.1 = 2) = false := cx_b0.mp (by simpa using c_54)
                    refine cx_iconst (v := 1) hE d_Me_link_57 (by decide) ?_
                    refine cx_goto (tgt := 62) hE d_Me_link_58 (by decide) ?_
                    refine cx_bipush (v := 25) hE d_Me_link_62 (by decide) ?_
                    refine cx_aload_n (i := 3) hE d_Me_link_64 rfl rfl ?_
                    refine cx_get hE d_Me_link_65 f_Me_40 (by assumption) (by rfl) ?_
                    refine cx_invV hE d_Me_link_68 l_Me_44 hm.1 (c_ck (right := true) (code := 25) (place := (nI t.2.1)) hm) rfl (by omega) (Nat.le_of_ble_eq_true rfl) n_Ve_check (by rfl) (fun v G1 q => ?_) (fun a G1 q => by cases q.1)
                    obtain ⟨q0, hm1, hs1, hc1⟩ := q
                    cases q0
                    show cx_V E _ _ [] G1
                    obtain ⟨x1, hme1, -⟩ := hm1.2.1
                    have huj1 := huj
                    rw [← tx_ck_a true 25 (nI t.2.1) s] at huj1
                    have hni1 := hm1.2.2.2.2.2.1 j uj huj1 i ri hri
                    unfold tx_nm at hni1
                    have htd1 := (hdt.st hs1)
                    obtain ⟨nd1, hd1, -⟩ := htd1
                    have hdd1 : G1.1 d = some (.inr (7, [.int dt.1, .int (nI dt.2.1), .int (nI dt.2.2.1), va_rf nd1, va_rf (A.w dt.2.2.2.1), .int dt.2.2.2.2.1, .long dt.2.2.2.2.2])) := hd1
                    refine cx_aload_n (i := 0) hE d_Me_link_71 rfl rfl ?_
                    refine cx_get hE d_Me_link_72 f_Me_32 (by assumption) (by rfl) ?_
                    refine cx_aload_n (i := 2) hE d_Me_link_75 rfl rfl ?_
                    refine cx_get hE d_Me_link_76 f_Me_86 (by assumption) (by rfl) ?_
                    refine cx_iload hE d_Me_link_79 rfl ?_
                    refine cx_icmp_ne (tgt := 88)  hE d_Me_link_81 (by decide) (fun c_81 => ?_) (fun c_81 => ?_)
                    · have q_w : decide (ri.2.2.1 = w) = false := decide_eq_false c_81
                      refine cx_iconst (v := 0) hE d_Me_link_88 (by decide) ?_
                      refine cx_bipush (v := 30) hE d_Me_link_89 (by decide) ?_
                      refine cx_aload_n (i := 1) hE d_Me_link_91 rfl rfl ?_
                      refine cx_get hE d_Me_link_92 f_Me_40 (by assumption) (by rfl) ?_
                      refine cx_invV hE d_Me_link_95 l_Me_44 hm1.1 (c_ck (right := false) (code := 30) (place := (nI dt.2.1)) hm1) rfl (by omega) (Nat.le_of_ble_eq_true rfl) n_Ve_check (by rfl) (fun v G2 q => ?_) (fun a G2 q => by cases q.1)
                      obtain ⟨q0, hm2, hs2, hc2⟩ := q
                      cases q0
                      show cx_V E _ _ [] G2
                      have huj2 := huj1
                      rw [← tx_ck_a false 30 (nI dt.2.1) (tx_ck true 25 (nI t.2.1) s)] at huj2
                      have hni2 := hm2.2.2.2.2.2.1 j uj huj2 i ri hri
                      unfold tx_nm at hni2
                      obtain ⟨x2, hme2, -⟩ := hm2.2.1
                      refine cx_aload_n (i := 2) hE d_Me_link_98 rfl rfl ?_
                      refine cx_invV1 hE d_Me_link_99 l_Me_159 hni2 (c_Nm_isOutput hni2) rfl (by omega) (Nat.le_of_ble_eq_true rfl) n_Nm_isOutput (by rfl) ?_
                      refine cx_if_eq (tgt := 117)  hE d_Me_link_102 (by decide) (fun c_102 => ?_) (fun c_102 => ?_)
                      · refine cx_vret hE d_Me_link_117 rfl ?_
                        first
                          | (have e9 : tx_link dt (some (j, i)) t true w s = if (decide (ri.2.1 = 1 ∨ ri.2.1 = 2) && true) = true then tx_drive (((some q) : Option Nat).getD 0) t (tx_ck (decide (ri.2.2.1 = w)) 30 (nI dt.2.1) (tx_ck (true || !decide (ri.2.1 = 1 ∨ ri.2.1 = 2)) 25 (nI t.2.1) s)) else tx_ck (decide (ri.2.2.1 = w)) 30 (nI dt.2.1) (tx_ck (true || !decide (ri.2.1 = 1 ∨ ri.2.1 = 2)) 25 (nI t.2.1) s) := by
                               show tx_lks dt (j, i) t (s.da t.2.2.2.1) w s = _
                               rw [hd]
                               unfold tx_lks tx_out
                               show (if (decide ((s.rj j i).2.1 = 1 ∨ (s.rj j i).2.1 = 2) && tx_dvb s (some q)) = true then tx_drive _ t (tx_ck (decide ((s.rj j i).2.2.1 = w)) _ _ (tx_ck (tx_dvb s (some q) || !decide ((s.rj j i).2.1 = 1 ∨ (s.rj j i).2.1 = 2)) _ _ s)) else (tx_ck (decide ((s.rj j i).2.2.1 = w)) _ _ (tx_ck (tx_dvb s (some q) || !decide ((s.rj j i).2.1 = 1 ∨ (s.rj j i).2.1 = 2)) _ _ s))) = _
                               rw [hrj, hdvb]
                             rw [e9, q_o, q_w]
                             first
                               | exact ⟨rfl, hm3, hs1.tr (hs2.tr hs3), hc3.trans (hc2.trans hc1)⟩
                               | exact ⟨rfl, hm2, hs1.tr hs2, hc2.trans hc1⟩)
                          | (have e9 : tx_link dt (some (j, i)) t true w s = if (decide (ri.2.1 = 1 ∨ ri.2.1 = 2) && false) = true then tx_drive (((some q) : Option Nat).getD 0) t (tx_ck (decide (ri.2.2.1 = w)) 30 (nI dt.2.1) (tx_ck (false || !decide (ri.2.1 = 1 ∨ ri.2.1 = 2)) 25 (nI t.2.1) s)) else tx_ck (decide (ri.2.2.1 = w)) 30 (nI dt.2.1) (tx_ck (false || !decide (ri.2.1 = 1 ∨ ri.2.1 = 2)) 25 (nI t.2.1) s) := by
                               show tx_lks dt (j, i) t (s.da t.2.2.2.1) w s = _
                               rw [hd]
                               unfold tx_lks tx_out
                               show (if (decide ((s.rj j i).2.1 = 1 ∨ (s.rj j i).2.1 = 2) && tx_dvb s (some q)) = true then tx_drive _ t (tx_ck (decide ((s.rj j i).2.2.1 = w)) _ _ (tx_ck (tx_dvb s (some q) || !decide ((s.rj j i).2.1 = 1 ∨ (s.rj j i).2.1 = 2)) _ _ s)) else (tx_ck (decide ((s.rj j i).2.2.1 = w)) _ _ (tx_ck (tx_dvb s (some q) || !decide ((s.rj j i).2.1 = 1 ∨ (s.rj j i).2.1 = 2)) _ _ s))) = _
                               rw [hrj, hdvb]
                             rw [e9, q_o, q_w]
                             first
                               | exact ⟨rfl, hm3, hs1.tr (hs2.tr hs3), hc3.trans (hc2.trans hc1)⟩
                               | exact ⟨rfl, hm2, hs1.tr hs2, hc2.trans hc1⟩)
                      · exact absurd (cx_bn.mp c_102) (by rw [q_o]; decide)
                        -- end
                    · have q_w : decide (ri.2.2.1 = w) = true := decide_eq_true c_81
                      refine cx_iconst (v := 1) hE d_Me_link_84 (by decide) ?_
                      refine cx_goto (tgt := 89) hE d_Me_link_85 (by decide) ?_
                      refine cx_bipush (v := 30) hE d_Me_link_89 (by decide) ?_
                      refine cx_aload_n (i := 1) hE d_Me_link_91 rfl rfl ?_
                      refine cx_get hE d_Me_link_92 f_Me_40 (by assumption) (by rfl) ?_
                      refine cx_invV hE d_Me_link_95 l_Me_44 hm1.1 (c_ck (right := true) (code := 30) (place := (nI dt.2.1)) hm1) rfl (by omega) (Nat.le_of_ble_eq_true rfl) n_Ve_check (by rfl) (fun v G2 q => ?_) (fun a G2 q => by cases q.1)
                      obtain ⟨q0, hm2, hs2, hc2⟩ := q
                      cases q0
                      show cx_V E _ _ [] G2
                      have huj2 := huj1
                      rw [← tx_ck_a true 30 (nI dt.2.1) (tx_ck true 25 (nI t.2.1) s)] at huj2
                      have hni2 := hm2.2.2.2.2.2.1 j uj huj2 i ri hri
                      unfold tx_nm at hni2
                      obtain ⟨x2, hme2, -⟩ := hm2.2.1
                      refine cx_aload_n (i := 2) hE d_Me_link_98 rfl rfl ?_
                      refine cx_invV1 hE d_Me_link_99 l_Me_159 hni2 (c_Nm_isOutput hni2) rfl (by omega) (Nat.le_of_ble_eq_true rfl) n_Nm_isOutput (by rfl) ?_
                      refine cx_if_eq (tgt := 117)  hE d_Me_link_102 (by decide) (fun c_102 => ?_) (fun c_102 => ?_)
                      · refine cx_vret hE d_Me_link_117 rfl ?_
                        first
                          | (have e9 : tx_link dt (some (j, i)) t true w s = if (decide (ri.2.1 = 1 ∨ ri.2.1 = 2) && true) = true then tx_drive (((some q) : Option Nat).getD 0) t (tx_ck (decide (ri.2.2.1 = w)) 30 (nI dt.2.1) (tx_ck (true || !decide (ri.2.1 = 1 ∨ ri.2.1 = 2)) 25 (nI t.2.1) s)) else tx_ck (decide (ri.2.2.1 = w)) 30 (nI dt.2.1) (tx_ck (true || !decide (ri.2.1 = 1 ∨ ri.2.1 = 2)) 25 (nI t.2.1) s) := by
                               show tx_lks dt (j, i) t (s.da t.2.2.2.1) w s = _
                               rw [hd]
                               unfold tx_lks tx_out
                               show (if (decide ((s.rj j i).2.1 = 1 ∨ (s.rj j i).2.1 = 2) && tx_dvb s (some q)) = true then tx_drive _ t (tx_ck (decide ((s.rj j i).2.2.1 = w)) _ _ (tx_ck (tx_dvb s (some q) || !decide ((s.rj j i).2.1 = 1 ∨ (s.rj j i).2.1 = 2)) _ _ s)) else (tx_ck (decide ((s.rj j i).2.2.1 = w)) _ _ (tx_ck (tx_dvb s (some q) || !decide ((s.rj j i).2.1 = 1 ∨ (s.rj j i).2.1 = 2)) _ _ s))) = _
                               rw [hrj, hdvb]
                             rw [e9, q_o, q_w]
                             first
                               | exact ⟨rfl, hm3, hs1.tr (hs2.tr hs3), hc3.trans (hc2.trans hc1)⟩
                               | exact ⟨rfl, hm2, hs1.tr hs2, hc2.trans hc1⟩)
                          | (have e9 : tx_link dt (some (j, i)) t true w s = if (decide (ri.2.1 = 1 ∨ ri.2.1 = 2) && false) = true then tx_drive (((some q) : Option Nat).getD 0) t (tx_ck (decide (ri.2.2.1 = w)) 30 (nI dt.2.1) (tx_ck (false || !decide (ri.2.1 = 1 ∨ ri.2.1 = 2)) 25 (nI t.2.1) s)) else tx_ck (decide (ri.2.2.1 = w)) 30 (nI dt.2.1) (tx_ck (false || !decide (ri.2.1 = 1 ∨ ri.2.1 = 2)) 25 (nI t.2.1) s) := by
                               show tx_lks dt (j, i) t (s.da t.2.2.2.1) w s = _
                               rw [hd]
                               unfold tx_lks tx_out
                               show (if (decide ((s.rj j i).2.1 = 1 ∨ (s.rj j i).2.1 = 2) && tx_dvb s (some q)) = true then tx_drive _ t (tx_ck (decide ((s.rj j i).2.2.1 = w)) _ _ (tx_ck (tx_dvb s (some q) || !decide ((s.rj j i).2.1 = 1 ∨ (s.rj j i).2.1 = 2)) _ _ s)) else (tx_ck (decide ((s.rj j i).2.2.1 = w)) _ _ (tx_ck (tx_dvb s (some q) || !decide ((s.rj j i).2.1 = 1 ∨ (s.rj j i).2.1 = 2)) _ _ s))) = _
                               rw [hrj, hdvb]
                             rw [e9, q_o, q_w]
                             first
                               | exact ⟨rfl, hm3, hs1.tr (hs2.tr hs3), hc3.trans (hc2.trans hc1)⟩
                               | exact ⟨rfl, hm2, hs1.tr hs2, hc2.trans hc1⟩)
                      · exact absurd (cx_bn.mp c_102) (by rw [q_o]; decide)
                        -- end
              · have q_d : decide (r.2.1 = 1 ∨ r.2.1 = 3) = true := cx_bn.mp c_31
                rw [q_d] at hdvb
                refine cx_iconst (v := 1) hE d_Me_link_34 (by decide) ?_
                refine cx_goto (tgt := 39) hE d_Me_link_35 (by decide) ?_
                refine cx_istore hE d_Me_link_39 (by decide) ?_
                refine cx_aload_n (i := 0) hE d_Me_link_41 rfl rfl ?_
                refine cx_get hE d_Me_link_42 f_Me_32 (by assumption) (by rfl) ?_
                refine cx_iload hE d_Me_link_45 rfl ?_
                refine cx_if_ne (tgt := 57)  hE d_Me_link_47 (by decide) (fun c_47 => ?_) (fun c_47 => ?_)
                · refine cx_iconst (v := 1) hE d_Me_link_57 (by decide) ?_
                  refine cx_goto (tgt := 62) hE d_Me_link_58 (by decide) ?_
                  refine cx_bipush (v := 25) hE d_Me_link_62 (by decide) ?_
                  refine cx_aload_n (i := 3) hE d_Me_link_64 rfl rfl ?_
                  refine cx_get hE d_Me_link_65 f_Me_40 (by assumption) (by rfl) ?_
                  refine cx_invV hE d_Me_link_68 l_Me_44 hm.1 (c_ck (right := true) (code := 25) (place := (nI t.2.1)) hm) rfl (by omega) (Nat.le_of_ble_eq_true rfl) n_Ve_check (by rfl) (fun v G1 q => ?_) (fun a G1 q => by cases q.1)
                  obtain ⟨q0, hm1, hs1, hc1⟩ := q
                  cases q0
                  show cx_V E _ _ [] G1
                  obtain ⟨x1, hme1, -⟩ := hm1.2.1
                  have huj1 := huj
                  rw [← tx_ck_a true 25 (nI t.2.1) s] at huj1
                  have hni1 := hm1.2.2.2.2.2.1 j uj huj1 i ri hri
                  unfold tx_nm at hni1
                  have htd1 := (hdt.st hs1)
                  obtain ⟨nd1, hd1, -⟩ := htd1
                  have hdd1 : G1.1 d = some (.inr (7, [.int dt.1, .int (nI dt.2.1), .int (nI dt.2.2.1), va_rf nd1, va_rf (A.w dt.2.2.2.1), .int dt.2.2.2.2.1, .long dt.2.2.2.2.2])) := hd1
                  refine cx_aload_n (i := 0) hE d_Me_link_71 rfl rfl ?_
                  refine cx_get hE d_Me_link_72 f_Me_32 (by assumption) (by rfl) ?_
                  refine cx_aload_n (i := 2) hE d_Me_link_75 rfl rfl ?_
                  refine cx_get hE d_Me_link_76 f_Me_86 (by assumption) (by rfl) ?_
                  refine cx_iload hE d_Me_link_79 rfl ?_
                  refine cx_icmp_ne (tgt := 88)  hE d_Me_link_81 (by decide) (fun c_81 => ?_) (fun c_81 => ?_)
                  · have q_w : decide (ri.2.2.1 = w) = false := decide_eq_false c_81
                    refine cx_iconst (v := 0) hE d_Me_link_88 (by decide) ?_
                    refine cx_bipush (v := 30) hE d_Me_link_89 (by decide) ?_
                    refine cx_aload_n (i := 1) hE d_Me_link_91 rfl rfl ?_
                    refine cx_get hE d_Me_link_92 f_Me_40 (by assumption) (by rfl) ?_
                    refine cx_invV hE d_Me_link_95 l_Me_44 hm1.1 (c_ck (right := false) (code := 30) (place := (nI dt.2.1)) hm1) rfl (by omega) (Nat.le_of_ble_eq_true rfl) n_Ve_check (by rfl) (fun v G2 q => ?_) (fun a G2 q => by cases q.1)
                    obtain ⟨q0, hm2, hs2, hc2⟩ := q
                    cases q0
                    show cx_V E _ _ [] G2
                    have huj2 := huj1
                    rw [← tx_ck_a false 30 (nI dt.2.1) (tx_ck true 25 (nI t.2.1) s)] at huj2
                    have hni2 := hm2.2.2.2.2.2.1 j uj huj2 i ri hri
                    unfold tx_nm at hni2
                    obtain ⟨x2, hme2, -⟩ := hm2.2.1
                    refine cx_aload_n (i := 2) hE d_Me_link_98 rfl rfl ?_
                    refine cx_invV1 hE d_Me_link_99 l_Me_159 hni2 (c_Nm_isOutput hni2) rfl (by omega) (Nat.le_of_ble_eq_true rfl) n_Nm_isOutput (by rfl) ?_
                    refine cx_if_eq (tgt := 117)  hE d_Me_link_102 (by decide) (fun c_102 => ?_) (fun c_102 => ?_)
                    · have q_o : decide (ri.2.1 = 1 ∨ ri.2.1 = 2) = false := cx_b0.mp c_102
                      refine cx_vret hE d_Me_link_117 rfl ?_
                      first
                        | (have e9 : tx_link dt (some (j, i)) t true w s = if (decide (ri.2.1 = 1 ∨ ri.2.1 = 2) && true) = true then tx_drive (((some q) : Option Nat).getD 0) t (tx_ck (decide (ri.2.2.1 = w)) 30 (nI dt.2.1) (tx_ck (true || !decide (ri.2.1 = 1 ∨ ri.2.1 = 2)) 25 (nI t.2.1) s)) else tx_ck (decide (ri.2.2.1 = w)) 30 (nI dt.2.1) (tx_ck (true || !decide (ri.2.1 = 1 ∨ ri.2.1 = 2)) 25 (nI t.2.1) s) := by
                             show tx_lks dt (j, i) t (s.da t.2.2.2.1) w s = _
                             rw [hd]
                             unfold tx_lks tx_out
                             show (if (decide ((s.rj j i).2.1 = 1 ∨ (s.rj j i).2.1 = 2) && tx_dvb s (some q)) = true then tx_drive _ t (tx_ck (decide ((s.rj j i).2.2.1 = w)) _ _ (tx_ck (tx_dvb s (some q) || !decide ((s.rj j i).2.1 = 1 ∨ (s.rj j i).2.1 = 2)) _ _ s)) else (tx_ck (decide ((s.rj j i).2.2.1 = w)) _ _ (tx_ck (tx_dvb s (some q) || !decide ((s.rj j i).2.1 = 1 ∨ (s.rj j i).2.1 = 2)) _ _ s))) = _
                             rw [hrj, hdvb]
                           rw [e9, q_o, q_w]
                           first
                             | exact ⟨rfl, hm3, hs1.tr (hs2.tr hs3), hc3.trans (hc2.trans hc1)⟩
                             | exact ⟨rfl, hm2, hs1.tr hs2, hc2.trans hc1⟩)
                        | (have e9 : tx_link dt (some (j, i)) t true w s = if (decide (ri.2.1 = 1 ∨ ri.2.1 = 2) && false) = true then tx_drive (((some q) : Option Nat).getD 0) t (tx_ck (decide (ri.2.2.1 = w)) 30 (nI dt.2.1) (tx_ck (false || !decide (ri.2.1 = 1 ∨ ri.2.1 = 2)) 25 (nI t.2.1) s)) else tx_ck (decide (ri.2.2.1 = w)) 30 (nI dt.2.1) (tx_ck (false || !decide (ri.2.1 = 1 ∨ ri.2.1 = 2)) 25 (nI t.2.1) s) := by
                             show tx_lks dt (j, i) t (s.da t.2.2.2.1) w s = _
                             rw [hd]
                             unfold tx_lks tx_out
                             show (if (decide ((s.rj j i).2.1 = 1 ∨ (s.rj j i).2.1 = 2) && tx_dvb s (some q)) = true then tx_drive _ t (tx_ck (decide ((s.rj j i).2.2.1 = w)) _ _ (tx_ck (tx_dvb s (some q) || !decide ((s.rj j i).2.1 = 1 ∨ (s.rj j i).2.1 = 2)) _ _ s)) else (tx_ck (decide ((s.rj j i).2.2.1 = w)) _ _ (tx_ck (tx_dvb s (some q) || !decide ((s.rj j i).2.1 = 1 ∨ (s.rj j i).2.1 = 2)) _ _ s))) = _
                             rw [hrj, hdvb]
                           rw [e9, q_o, q_w]
                           first
                             | exact ⟨rfl, hm3, hs1.tr (hs2.tr hs3), hc3.trans (hc2.trans hc1)⟩
                             | exact ⟨rfl, hm2, hs1.tr hs2, hc2.trans hc1⟩)
                    · have q_o : decide (ri.2.1 = 1 ∨ ri.2.1 = 2) = true := cx_bn.mp c_102
                      refine cx_iload hE d_Me_link_105 rfl ?_
                      refine cx_if_eq (tgt := 117)  hE d_Me_link_107 (by decide) (fun c_107 => ?_) (fun c_107 => ?_)
                      · exact absurd c_107 (by decide)
                        -- end
                      · refine cx_aload_n (i := 0) hE d_Me_link_110 rfl rfl ?_
                        refine cx_aload hE d_Me_link_111 rfl ?_
                        refine cx_aload_n (i := 3) hE d_Me_link_113 rfl rfl ?_
                        have hu2 : (tx_ck false 30 (nI dt.2.1) (tx_ck true 25 (nI t.2.1) s)).2.2.1 = some u := by rw [tx_ck_all, tx_ck_all]; exact hu
                        have hdr := c_Me_drive (l := l) hu2 hr ((ht.st hs1).st hs2) hm2
                        rw [tx_ck_l, tx_ck_l] at hdr
                        refine cx_invV hE d_Me_link_114 l_Me_115 hme2 (hdr) rfl (by omega) (Nat.le_of_ble_eq_true rfl) n_Me_drive (by rfl) (fun v G3 q => ?_) (fun a G3 q => by cases q.1)
                        obtain ⟨q0, hm3, hs3, hc3⟩ := q
                        cases q0
                        show cx_V E _ _ [] G3
                        refine cx_vret hE d_Me_link_117 rfl ?_
                        first
                          | (have e9 : tx_link dt (some (j, i)) t true w s = if (decide (ri.2.1 = 1 ∨ ri.2.1 = 2) && true) = true then tx_drive (((some q) : Option Nat).getD 0) t (tx_ck (decide (ri.2.2.1 = w)) 30 (nI dt.2.1) (tx_ck (true || !decide (ri.2.1 = 1 ∨ ri.2.1 = 2)) 25 (nI t.2.1) s)) else tx_ck (decide (ri.2.2.1 = w)) 30 (nI dt.2.1) (tx_ck (true || !decide (ri.2.1 = 1 ∨ ri.2.1 = 2)) 25 (nI t.2.1) s) := by
                               show tx_lks dt (j, i) t (s.da t.2.2.2.1) w s = _
                               rw [hd]
                               unfold tx_lks tx_out
                               show (if (decide ((s.rj j i).2.1 = 1 ∨ (s.rj j i).2.1 = 2) && tx_dvb s (some q)) = true then tx_drive _ t (tx_ck (decide ((s.rj j i).2.2.1 = w)) _ _ (tx_ck (tx_dvb s (some q) || !decide ((s.rj j i).2.1 = 1 ∨ (s.rj j i).2.1 = 2)) _ _ s)) else (tx_ck (decide ((s.rj j i).2.2.1 = w)) _ _ (tx_ck (tx_dvb s (some q) || !decide ((s.rj j i).2.1 = 1 ∨ (s.rj j i).2.1 = 2)) _ _ s))) = _
                               rw [hrj, hdvb]
                             rw [e9, q_o, q_w]
                             first
                               | exact ⟨rfl, hm3, hs1.tr (hs2.tr hs3), hc3.trans (hc2.trans hc1)⟩
                               | exact ⟨rfl, hm2, hs1.tr hs2, hc2.trans hc1⟩)
                          | (have e9 : tx_link dt (some (j, i)) t true w s = if (decide (ri.2.1 = 1 ∨ ri.2.1 = 2) && false) = true then tx_drive (((some q) : Option Nat).getD 0) t (tx_ck (decide (ri.2.2.1 = w)) 30 (nI dt.2.1) (tx_ck (false || !decide (ri.2.1 = 1 ∨ ri.2.1 = 2)) 25 (nI t.2.1) s)) else tx_ck (decide (ri.2.2.1 = w)) 30 (nI dt.2.1) (tx_ck (false || !decide (ri.2.1 = 1 ∨ ri.2.1 = 2)) 25 (nI t.2.1) s) := by
                               show tx_lks dt (j, i) t (s.da t.2.2.2.1) w s = _
                               rw [hd]
                               unfold tx_lks tx_out
                               show (if (decide ((s.rj j i).2.1 = 1 ∨ (s.rj j i).2.1 = 2) && tx_dvb s (some q)) = true then tx_drive _ t (tx_ck (decide ((s.rj j i).2.2.1 = w)) _ _ (tx_ck (tx_dvb s (some q) || !decide ((s.rj j i).2.1 = 1 ∨ (s.rj j i).2.1 = 2)) _ _ s)) else (tx_ck (decide ((s.rj j i).2.2.1 = w)) _ _ (tx_ck (tx_dvb s (some q) || !decide ((s.rj j i).2.1 = 1 ∨ (s.rj j i).2.1 = 2)) _ _ s))) = _
                               rw [hrj, hdvb]
                             rw [e9, q_o, q_w]
                             first
                               | exact ⟨rfl, hm3, hs1.tr (hs2.tr hs3), hc3.trans (hc2.trans hc1)⟩
                               | exact ⟨rfl, hm2, hs1.tr hs2, hc2.trans hc1⟩)
                  · have q_w : decide (ri.2.2.1 = w) = true := decide_eq_true c_81
                    refine cx_iconst (v := 1) hE d_Me_link_84 (by decide) ?_
                    refine cx_goto (tgt := 89) hE d_Me_link_85 (by decide) ?_
                    refine cx_bipush (v := 30) hE d_Me_link_89 (by decide) ?_
                    refine cx_aload_n (i := 1) hE d_Me_link_91 rfl rfl ?_
                    refine cx_get hE d_Me_link_92 f_Me_40 (by assumption) (by rfl) ?_
                    refine cx_invV hE d_Me_link_95 l_Me_44 hm1.1 (c_ck (right := true) (code := 30) (place := (nI dt.2.1)) hm1) rfl (by omega) (Nat.le_of_ble_eq_true rfl) n_Ve_check (by rfl) (fun v G2 q => ?_) (fun a G2 q => by cases q.1)
                    obtain ⟨q0, hm2, hs2, hc2⟩ := q
                    cases q0
                    show cx_V E _ _ [] G2
                    have huj2 := huj1
                    rw [← tx_ck_a true 30 (nI dt.2.1) (tx_ck true 25 (nI t.2.1) s)] at huj2
                    have hni2 := hm2.2.2.2.2.2.1 j uj huj2 i ri hri
                    unfold tx_nm at hni2
                    obtain ⟨x2, hme2, -⟩ := hm2.2.1
                    refine cx_aload_n (i := 2) hE d_Me_link_98 rfl rfl ?_
                    refine cx_invV1 hE d_Me_link_99 l_Me_159 hni2 (c_Nm_isOutput hni2) rfl (by omega) (Nat.le_of_ble_eq_true rfl) n_Nm_isOutput (by rfl) ?_
                    refine cx_if_eq (tgt := 117)  hE d_Me_link_102 (by decide) (fun c_102 => ?_) (fun c_102 => ?_)
                    · have q_o : decide (ri.2.1 = 1 ∨ ri.2.1 = 2) = false := cx_b0.mp c_102
                      refine cx_vret hE d_Me_link_117 rfl ?_
                      first
                        | (have e9 : tx_link dt (some (j, i)) t true w s = if (decide (ri.2.1 = 1 ∨ ri.2.1 = 2) && true) = true then tx_drive (((some q) : Option Nat).getD 0) t (tx_ck (decide (ri.2.2.1 = w)) 30 (nI dt.2.1) (tx_ck (true || !decide (ri.2.1 = 1 ∨ ri.2.1 = 2)) 25 (nI t.2.1) s)) else tx_ck (decide (ri.2.2.1 = w)) 30 (nI dt.2.1) (tx_ck (true || !decide (ri.2.1 = 1 ∨ ri.2.1 = 2)) 25 (nI t.2.1) s) := by
                             show tx_lks dt (j, i) t (s.da t.2.2.2.1) w s = _
                             rw [hd]
                             unfold tx_lks tx_out
                             show (if (decide ((s.rj j i).2.1 = 1 ∨ (s.rj j i).2.1 = 2) && tx_dvb s (some q)) = true then tx_drive _ t (tx_ck (decide ((s.rj j i).2.2.1 = w)) _ _ (tx_ck (tx_dvb s (some q) || !decide ((s.rj j i).2.1 = 1 ∨ (s.rj j i).2.1 = 2)) _ _ s)) else (tx_ck (decide ((s.rj j i).2.2.1 = w)) _ _ (tx_ck (tx_dvb s (some q) || !decide ((s.rj j i).2.1 = 1 ∨ (s.rj j i).2.1 = 2)) _ _ s))) = _
                             rw [hrj, hdvb]
                           rw [e9, q_o, q_w]
                           first
                             | exact ⟨rfl, hm3, hs1.tr (hs2.tr hs3), hc3.trans (hc2.trans hc1)⟩
                             | exact ⟨rfl, hm2, hs1.tr hs2, hc2.trans hc1⟩)
                        | (have e9 : tx_link dt (some (j, i)) t true w s = if (decide (ri.2.1 = 1 ∨ ri.2.1 = 2) && false) = true then tx_drive (((some q) : Option Nat).getD 0) t (tx_ck (decide (ri.2.2.1 = w)) 30 (nI dt.2.1) (tx_ck (false || !decide (ri.2.1 = 1 ∨ ri.2.1 = 2)) 25 (nI t.2.1) s)) else tx_ck (decide (ri.2.2.1 = w)) 30 (nI dt.2.1) (tx_ck (false || !decide (ri.2.1 = 1 ∨ ri.2.1 = 2)) 25 (nI t.2.1) s) := by
                             show tx_lks dt (j, i) t (s.da t.2.2.2.1) w s = _
                             rw [hd]
                             unfold tx_lks tx_out
                             show (if (decide ((s.rj j i).2.1 = 1 ∨ (s.rj j i).2.1 = 2) && tx_dvb s (some q)) = true then tx_drive _ t (tx_ck (decide ((s.rj j i).2.2.1 = w)) _ _ (tx_ck (tx_dvb s (some q) || !decide ((s.rj j i).2.1 = 1 ∨ (s.rj j i).2.1 = 2)) _ _ s)) else (tx_ck (decide ((s.rj j i).2.2.1 = w)) _ _ (tx_ck (tx_dvb s (some q) || !decide ((s.rj j i).2.1 = 1 ∨ (s.rj j i).2.1 = 2)) _ _ s))) = _
                             rw [hrj, hdvb]
                           rw [e9, q_o, q_w]
                           first
                             | exact ⟨rfl, hm3, hs1.tr (hs2.tr hs3), hc3.trans (hc2.trans hc1)⟩
                             | exact ⟨rfl, hm2, hs1.tr hs2, hc2.trans hc1⟩)
                    · have q_o : decide (ri.2.1 = 1 ∨ ri.2.1 = 2) = true := cx_bn.mp c_102
                      refine cx_iload hE d_Me_link_105 rfl ?_
                      refine cx_if_eq (tgt := 117)  hE d_Me_link_107 (by decide) (fun c_107 => ?_) (fun c_107 => ?_)
                      · exact absurd c_107 (by decide)
                        -- end
                      · refine cx_aload_n (i := 0) hE d_Me_link_110 rfl rfl ?_
                        refine cx_aload hE d_Me_link_111 rfl ?_
                        refine cx_aload_n (i := 3) hE d_Me_link_113 rfl rfl ?_
                        have hu2 : (tx_ck true 30 (nI dt.2.1) (tx_ck true 25 (nI t.2.1) s)).2.2.1 = some u := by rw [tx_ck_all, tx_ck_all]; exact hu
                        have hdr := c_Me_drive (l := l) hu2 hr ((ht.st hs1).st hs2) hm2
                        rw [tx_ck_l, tx_ck_l] at hdr
                        refine cx_invV hE d_Me_link_114 l_Me_115 hme2 (hdr) rfl (by omega) (Nat.le_of_ble_eq_true rfl) n_Me_drive (by rfl) (fun v G3 q => ?_) (fun a G3 q => by cases q.1)
                        obtain ⟨q0, hm3, hs3, hc3⟩ := q
                        cases q0
                        show cx_V E _ _ [] G3
                        refine cx_vret hE d_Me_link_117 rfl ?_
                        first
                          | (have e9 : tx_link dt (some (j, i)) t true w s = if (decide (ri.2.1 = 1 ∨ ri.2.1 = 2) && true) = true then tx_drive (((some q) : Option Nat).getD 0) t (tx_ck (decide (ri.2.2.1 = w)) 30 (nI dt.2.1) (tx_ck (true || !decide (ri.2.1 = 1 ∨ ri.2.1 = 2)) 25 (nI t.2.1) s)) else tx_ck (decide (ri.2.2.1 = w)) 30 (nI dt.2.1) (tx_ck (true || !decide (ri.2.1 = 1 ∨ ri.2.1 = 2)) 25 (nI t.2.1) s) := by
                               show tx_lks dt (j, i) t (s.da t.2.2.2.1) w s = _
                               rw [hd]
                               unfold tx_lks tx_out
                               show (if (decide ((s.rj j i).2.1 = 1 ∨ (s.rj j i).2.1 = 2) && tx_dvb s (some q)) = true then tx_drive _ t (tx_ck (decide ((s.rj j i).2.2.1 = w)) _ _ (tx_ck (tx_dvb s (some q) || !decide ((s.rj j i).2.1 = 1 ∨ (s.rj j i).2.1 = 2)) _ _ s)) else (tx_ck (decide ((s.rj j i).2.2.1 = w)) _ _ (tx_ck (tx_dvb s (some q) || !decide ((s.rj j i).2.1 = 1 ∨ (s.rj j i).2.1 = 2)) _ _ s))) = _
                               rw [hrj, hdvb]
                             rw [e9, q_o, q_w]
                             first
                               | exact ⟨rfl, hm3, hs1.tr (hs2.tr hs3), hc3.trans (hc2.trans hc1)⟩
                               | exact ⟨rfl, hm2, hs1.tr hs2, hc2.trans hc1⟩)
                          | (have e9 : tx_link dt (some (j, i)) t true w s = if (decide (ri.2.1 = 1 ∨ ri.2.1 = 2) && false) = true then tx_drive (((some q) : Option Nat).getD 0) t (tx_ck (decide (ri.2.2.1 = w)) 30 (nI dt.2.1) (tx_ck (false || !decide (ri.2.1 = 1 ∨ ri.2.1 = 2)) 25 (nI t.2.1) s)) else tx_ck (decide (ri.2.2.1 = w)) 30 (nI dt.2.1) (tx_ck (false || !decide (ri.2.1 = 1 ∨ ri.2.1 = 2)) 25 (nI t.2.1) s) := by
                               show tx_lks dt (j, i) t (s.da t.2.2.2.1) w s = _
                               rw [hd]
                               unfold tx_lks tx_out
                               show (if (decide ((s.rj j i).2.1 = 1 ∨ (s.rj j i).2.1 = 2) && tx_dvb s (some q)) = true then tx_drive _ t (tx_ck (decide ((s.rj j i).2.2.1 = w)) _ _ (tx_ck (tx_dvb s (some q) || !decide ((s.rj j i).2.1 = 1 ∨ (s.rj j i).2.1 = 2)) _ _ s)) else (tx_ck (decide ((s.rj j i).2.2.1 = w)) _ _ (tx_ck (tx_dvb s (some q) || !decide ((s.rj j i).2.1 = 1 ∨ (s.rj j i).2.1 = 2)) _ _ s))) = _
                               rw [hrj, hdvb]
                             rw [e9, q_o, q_w]
                             first
                               | exact ⟨rfl, hm3, hs1.tr (hs2.tr hs3), hc3.trans (hc2.trans hc1)⟩
                               | exact ⟨rfl, hm2, hs1.tr hs2, hc2.trans hc1⟩)
                · exact absurd c_47 (by decide)
                  -- end
        · cases c_1
          -- end

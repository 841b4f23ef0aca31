/-! THE CLASS TrialBook: pairs, signs, the best -/
set_option maxHeartbeats 4000000 in
set_option maxRecDepth 100000 in
theorem c4_countPairs (l : Launch) (g : GG) (b : Nat → Nat) (Z : Nat → Prop) (τ : TB) (hT : TOK τ) (i : Nat) (u v : Int32) (tk : Nat) (wh : Int32) (hi : i < 4) (htk : tk ≤ 16) : Met l yX4_countPairs (.code yX4_countPairs cX4_countPairs 11 (some .int) :: wsL_law) ({ frames := 3, cells := 0, slots := 0, locals := 67 } : Room) (mP g [.ref (b 0), .int (nI (i)), .int (u), .int (v), .int (nI (tk)), .int (wh)] (Bk g b Z τ)) (vp_Si (fun z => z = nI (pcN τ i u v tk wh))) 0 0 ((fun _ => False)) := by
  refine mMet (by decide) (Nat.le_of_ble_eq_true rfl) ?_
  intro p e s m below meth c C hr hlk hnm hP ls hl
  have hx := C.1.1
  have hb := C.1.2.1
  have hl : lv_has ls 11 [(0, .ref (b 0)), (1, .int (nI (i))), (2, .int (u)), (3, .int (v)), (4, .int (nI (tk))), (5, .int (wh))] := hl
  have hBk := hP
  obtain ⟨cad, rad, ⟨nf, fc, fb, d, fr, f1, f2, ff, hB, hP⟩, hF⟩ := hP
  have hW : WorldAt g (tDat τ) (tClk τ) (b 3) s.heap := ⟨b 4, d, hB.2.2.1, hP.sub [3, 4] rfl⟩
  have h40 := hT.2.2.1
  refine lv_iconst (v := nI 0) hx hb dX4_countPairs_0 (by decide) ?_
  refine lv_istore (lv' := [(6, .int (nI (0))), (0, .ref (b 0)), (1, .int (nI (i))), (2, .int (u)), (3, .int (v)), (4, .int (nI (tk))), (5, .int (wh))]) hx hb dX4_countPairs_1 hl (by decide) rfl (fun ls hl => ?_)
  refine lv_iconst (v := nI 0) hx hb dX4_countPairs_3 (by decide) ?_
  refine lv_istore (lv' := [(7, .int (nI (0))), (6, .int (nI (0))), (0, .ref (b 0)), (1, .int (nI (i))), (2, .int (u)), (3, .int (v)), (4, .int (nI (tk))), (5, .int (wh))]) hx hb dX4_countPairs_4 hl (by decide) rfl (fun ls hl => ?_)
  have lp : ∀ (n_lp : Nat) (pa n1 : Nat) (ls : Array Slot), (pa ≤ tN τ) → (tN τ + 1 ≤ pa + n_lp) → (n1 = cnt2 (pcB τ i u v tk wh) (tN τ) pa 0) → lv_has ls 11 [(0, .ref (b 0)), (1, .int (nI (i))), (2, .int (u)), (3, .int (v)), (4, .int (nI (tk))), (5, .int (wh)), (6, .int (nI (n1))), (7, .int (nI (pa)))] → W p l e ({ frames := 3, cells := 0, slots := 0, locals := 67 } : Room) s m ([.ref (b 0), .int (nI (i)), .int (u), .int (v), .int (nI (tk)), .int (wh)] : List Value).toArray below meth c s.heap [] 0 0 (MQ below (vp_Si (fun z => z = nI (pcN τ i u v tk wh))) (([.ref (b 0), .int (nI (i)), .int (u), .int (v), .int (nI (tk)), .int (wh)] : List Value).toArray) s 0 0 ((fun _ => False))) (F0 m 6 ls []) := by
    intro n_lp
    induction n_lp with
    | zero =>
      intro pa n1 ls hpN hn hc1
      exact absurd hn (by omega)
    | succ n_lp ih_lp =>
      intro pa n1 ls hpN hn hc1 hl
      refine lv_iload hx hb dX4_countPairs_6 (lv_at hl 7 rfl) ?_
      refine lv_aload_n hx hb dX4_countPairs_8 rfl (lv_at hl 0 rfl) ?_
      refine q_get C f_X4_144 (hP) 0 rfl rfl dX4_countPairs_9 ?_
      refine n_icmp_ge (tgt := 114) C (by omega) (by omega) dX4_countPairs_12 (by decide) (fun c12 => ?_) (fun c12 => ?_)
      · skip
        refine lv_iload hx hb dX4_countPairs_114 (lv_at hl 6 rfl) ?_
        exact r_i C hr hlk (by rw [hc1, cnt2_all, show pa = tN τ by omega]; rfl) dX4_countPairs_116
      · skip
        refine lv_aload_n hx hb dX4_countPairs_15 rfl (lv_at hl 0 rfl) ?_
        refine lv_iload hx hb dX4_countPairs_16 (lv_at hl 7 rfl) ?_
        refine k_q (c_V (As := [.int (nI (pa))]) (rest := []) C v_X4_69 (c4_runAt l g b τ hT nf fc fb d fr f1 f2 ff (nI (pa))) ⟨Nat.le_of_ble_eq_true rfl, Nat.le_of_ble_eq_true rfl⟩ (q_recv C hP 0 rfl rfl) (hP) hl.1 rfl rfl (Nat.le_of_ble_eq_true rfl) dX4_countPairs_18 ⟨Nat.le_of_ble_eq_true rfl, Nat.le_of_ble_eq_true rfl⟩) (fun r18 q18 => ?_)
        obtain rfl : r18 = some (rad pa) := q18.trans (rn_in (c12) h40 (hB.2.2.2.1 _ (c12)))
        refine W.eq (g2 := F0 m 21 ls [.ref (rad pa)]) rfl ?_
        refine lv_astore (lv' := [(8, .ref (rad pa)), (0, .ref (b 0)), (1, .int (nI (i))), (2, .int (u)), (3, .int (v)), (4, .int (nI (tk))), (5, .int (wh)), (6, .int (nI (n1))), (7, .int (nI (pa)))]) hx hb dX4_countPairs_21 hl (by decide) rfl (fun ls hl => ?_)
        refine lv_aload hx hb dX4_countPairs_23 (lv_at hl 0 rfl) ?_
        refine lv_iload_n hx hb dX4_countPairs_25 rfl (lv_at hl 2 rfl) ?_
        refine lv_iload_n hx hb dX4_countPairs_26 rfl (lv_at hl 3 rfl) ?_
        refine lv_iload hx hb dX4_countPairs_27 (lv_at hl 5 rfl) ?_
        refine k_i (c_S (As := [.ref (rad pa), .int (nI (i)), .int (u), .int (nI (tk))]) (rest := []) C v_X4_180 (c4_standsFor l g (rad pa) (tRun τ pa) (cntB τ pa) (hT.2.2.2.1 pa c12) i (u) tk (by omega)) ⟨Nat.le_of_ble_eq_true rfl, Nat.le_of_ble_eq_true rfl⟩ ((hF.2 pa c12).run) hl.1 rfl rfl (Nat.le_of_ble_eq_true rfl) dX4_countPairs_29 ⟨Nat.le_of_ble_eq_true rfl, Nat.le_of_ble_eq_true rfl⟩) (fun r29 q29 => ?_)
        subst q29
        refine b_ifne (tgt := 38) C dX4_countPairs_32 (by decide) (fun c32 => ?_) (fun c32 => ?_)
        · skip
          refine lv_iconst (v := nI 0) hx hb dX4_countPairs_38 (by decide) ?_
          refine lv_istore (lv' := [(9, .int (nI (0))), (8, .ref (rad pa)), (0, .ref (b 0)), (1, .int (nI (i))), (2, .int (u)), (3, .int (v)), (4, .int (nI (tk))), (5, .int (wh)), (6, .int (nI (n1))), (7, .int (nI (pa)))]) hx hb dX4_countPairs_39 hl (by decide) rfl (fun ls hl => ?_)
          have lq : ∀ (n_lq : Nat) (q n2 : Nat) (ls : Array Slot), (q ≤ tN τ) → (tN τ + 1 ≤ q + n_lq) → (n2 = cnt2 (pcB τ i u v tk wh) (tN τ) pa q) → lv_has ls 11 [(0, .ref (b 0)), (1, .int (nI (i))), (2, .int (u)), (3, .int (v)), (4, .int (nI (tk))), (5, .int (wh)), (6, .int (nI (n2))), (7, .int (nI (pa))), (8, .ref (rad pa)), (9, .int (nI (q)))] → W p l e ({ frames := 3, cells := 0, slots := 0, locals := 67 } : Room) s m ([.ref (b 0), .int (nI (i)), .int (u), .int (v), .int (nI (tk)), .int (wh)] : List Value).toArray below meth c s.heap [] 0 0 (MQ below (vp_Si (fun z => z = nI (pcN τ i u v tk wh))) (([.ref (b 0), .int (nI (i)), .int (u), .int (v), .int (nI (tk)), .int (wh)] : List Value).toArray) s 0 0 ((fun _ => False))) (F0 m 41 ls []) := by
            intro n_lq
            induction n_lq with
            | zero =>
              intro q n2 ls hqN hnq hc2
              exact absurd hnq (by omega)
            | succ n_lq ih_lq =>
              intro q n2 ls hqN hnq hc2 hl
              refine lv_iload hx hb dX4_countPairs_41 (lv_at hl 9 rfl) ?_
              refine lv_aload_n hx hb dX4_countPairs_43 rfl (lv_at hl 0 rfl) ?_
              refine q_get C f_X4_144 (hP) 0 rfl rfl dX4_countPairs_44 ?_
              refine n_icmp_ge (tgt := 108) C (by omega) (by omega) dX4_countPairs_47 (by decide) (fun c47 => ?_) (fun c47 => ?_)
              · skip
                refine n_iinc (d := 1) (lv' := [(7, .int (nI (pa + 1))), (0, .ref (b 0)), (1, .int (nI (i))), (2, .int (u)), (3, .int (v)), (4, .int (nI (tk))), (5, .int (wh)), (6, .int (nI (n2))), (8, .ref (rad pa)), (9, .int (nI (q)))]) C dX4_countPairs_108 (by decide) hl (k := 7) rfl (by decide) rfl (fun ls hl => ?_)
                refine lv_goto (tgt := 6) hx hb dX4_countPairs_111 (by decide) ?_
                exact ih_lp (pa + 1) (n2) ls (by omega) (by omega) (by rw [cnt2_row, hc2, show q = tN τ by omega]) (lv_sub hl [1, 2, 3, 4, 5, 6, 7, 0] rfl)
              · skip
                refine lv_aload_n hx hb dX4_countPairs_50 rfl (lv_at hl 0 rfl) ?_
                refine lv_iload hx hb dX4_countPairs_51 (lv_at hl 9 rfl) ?_
                refine k_q (c_V (As := [.int (nI (q))]) (rest := []) C v_X4_69 (c4_runAt l g b τ hT nf fc fb d fr f1 f2 ff (nI (q))) ⟨Nat.le_of_ble_eq_true rfl, Nat.le_of_ble_eq_true rfl⟩ (q_recv C hP 0 rfl rfl) (hP) hl.1 rfl rfl (Nat.le_of_ble_eq_true rfl) dX4_countPairs_53 ⟨Nat.le_of_ble_eq_true rfl, Nat.le_of_ble_eq_true rfl⟩) (fun r53 q53 => ?_)
                obtain rfl : r53 = some (rad q) := q53.trans (rn_in (c47) h40 (hB.2.2.2.1 _ (c47)))
                refine W.eq (g2 := F0 m 56 ls [.ref (rad q)]) rfl ?_
                refine lv_astore (lv' := [(10, .ref (rad q)), (0, .ref (b 0)), (1, .int (nI (i))), (2, .int (u)), (3, .int (v)), (4, .int (nI (tk))), (5, .int (wh)), (6, .int (nI (n2))), (7, .int (nI (pa))), (8, .ref (rad pa)), (9, .int (nI (q)))]) hx hb dX4_countPairs_56 hl (by decide) rfl (fun ls hl => ?_)
                refine lv_aload hx hb dX4_countPairs_58 (lv_at hl 0 rfl) ?_
                refine lv_iload_n hx hb dX4_countPairs_60 rfl (lv_at hl 2 rfl) ?_
                refine lv_iload_n hx hb dX4_countPairs_61 rfl (lv_at hl 4 rfl) ?_
                refine lv_iload hx hb dX4_countPairs_62 (lv_at hl 5 rfl) ?_
                refine k_i (c_S (As := [.ref (rad q), .int (nI (i)), .int (v), .int (nI (tk))]) (rest := []) C v_X4_180 (c4_standsFor l g (rad q) (tRun τ q) (cntB τ q) (hT.2.2.2.1 q c47) i (v) tk (by omega)) ⟨Nat.le_of_ble_eq_true rfl, Nat.le_of_ble_eq_true rfl⟩ ((hF.2 q c47).run) hl.1 rfl rfl (Nat.le_of_ble_eq_true rfl) dX4_countPairs_64 ⟨Nat.le_of_ble_eq_true rfl, Nat.le_of_ble_eq_true rfl⟩) (fun r64 q64 => ?_)
                subst q64
                refine b_ifeq (tgt := 102) C dX4_countPairs_67 (by decide) (fun c67 => ?_) (fun c67 => ?_)
                · skip
                  refine n_iinc (d := 1) (lv' := [(9, .int (nI (q + 1))), (10, .ref (rad q)), (0, .ref (b 0)), (1, .int (nI (i))), (2, .int (u)), (3, .int (v)), (4, .int (nI (tk))), (5, .int (wh)), (6, .int (nI (n2))), (7, .int (nI (pa))), (8, .ref (rad pa))]) C dX4_countPairs_102 (by decide) hl (k := 10) rfl (by decide) rfl (fun ls hl => ?_)
                  refine lv_goto (tgt := 41) hx hb dX4_countPairs_105 (by decide) ?_
                  exact ih_lq (q + 1) (n2) ls (by omega) (by omega) (by rw [hc2, cnt2_no (by simp [pcB, c32, c67])]) (lv_sub hl [2, 3, 4, 5, 6, 7, 8, 9, 10, 0] rfl)
                · skip
                  refine lv_aload hx hb dX4_countPairs_70 (lv_at hl 9 rfl) ?_
                  refine lv_aload hx hb dX4_countPairs_72 (lv_at hl 0 rfl) ?_
                  refine lv_iload_n hx hb dX4_countPairs_74 rfl (lv_at hl 2 rfl) ?_
                  refine k_i (c_V (As := [.ref (rad q), .int (nI (i))]) (rest := []) C v_X4_184 (c2_pairsWith l g (rad pa) (rad q) (tRun τ pa) (tRun τ q) (cntB τ pa) (cntB τ q) (hT.2.2.2.1 pa c12) (hT.2.2.2.1 q c47) i) ⟨Nat.le_of_ble_eq_true rfl, Nat.le_of_ble_eq_true rfl⟩ (run_recv C (hF.2 pa c12).run) (⟨(hF.2 pa c12).run, (hF.2 q c47).run⟩) hl.1 rfl rfl (Nat.le_of_ble_eq_true rfl) dX4_countPairs_75 ⟨Nat.le_of_ble_eq_true rfl, Nat.le_of_ble_eq_true rfl⟩) (fun r75 q75 => ?_)
                  subst q75
                  refine b_ifeq (tgt := 102) C dX4_countPairs_78 (by decide) (fun c78 => ?_) (fun c78 => ?_)
                  · skip
                    refine n_iinc (d := 1) (lv' := [(9, .int (nI (q + 1))), (10, .ref (rad q)), (0, .ref (b 0)), (1, .int (nI (i))), (2, .int (u)), (3, .int (v)), (4, .int (nI (tk))), (5, .int (wh)), (6, .int (nI (n2))), (7, .int (nI (pa))), (8, .ref (rad pa))]) C dX4_countPairs_102 (by decide) hl (k := 10) rfl (by decide) rfl (fun ls hl => ?_)
                    refine lv_goto (tgt := 41) hx hb dX4_countPairs_105 (by decide) ?_
                    exact ih_lq (q + 1) (n2) ls (by omega) (by omega) (by rw [hc2, cnt2_no (by simp [pcB, c32, c67, c78])]) (lv_sub hl [2, 3, 4, 5, 6, 7, 8, 9, 10, 0] rfl)
                  · skip
                    refine lv_aload hx hb dX4_countPairs_81 (lv_at hl 9 rfl) ?_
                    refine k_i (c_V (As := []) (rest := []) C v_X4_230 (c2_lastRow l g (rad pa) (tRun τ pa) (cntB τ pa) (Nat.le_trans (hT.2.2.2.1 pa c12).2.2.2.2.2.2.2.1 (hT.2.2.2.1 pa c12).2.2.2.2.2.2.1)) ⟨Nat.le_of_ble_eq_true rfl, Nat.le_of_ble_eq_true rfl⟩ (run_recv C (hF.2 pa c12).run) ((hF.2 pa c12).run) hl.1 rfl rfl (Nat.le_of_ble_eq_true rfl) dX4_countPairs_83 ⟨Nat.le_of_ble_eq_true rfl, Nat.le_of_ble_eq_true rfl⟩) (fun r83 q83 => ?_)
                    subst q83
                    refine lv_aload hx hb dX4_countPairs_86 (lv_at hl 0 rfl) ?_
                    refine k_i (c_V (As := []) (rest := [.int (lastR (rRow (tRun τ pa)))]) C v_X4_230 (c2_lastRow l g (rad q) (tRun τ q) (cntB τ q) (Nat.le_trans (hT.2.2.2.1 q c47).2.2.2.2.2.2.2.1 (hT.2.2.2.1 q c47).2.2.2.2.2.2.1)) ⟨Nat.le_of_ble_eq_true rfl, Nat.le_of_ble_eq_true rfl⟩ (run_recv C (hF.2 q c47).run) ((hF.2 q c47).run) hl.1 rfl rfl (Nat.le_of_ble_eq_true rfl) dX4_countPairs_88 ⟨Nat.le_of_ble_eq_true rfl, Nat.le_of_ble_eq_true rfl⟩) (fun r88 q88 => ?_)
                    subst q88
                    refine lv_iload hx hb dX4_countPairs_91 (lv_at hl 6 rfl) ?_
                    refine k_i (c_S (As := [.int (lastR (rRow (tRun τ pa))), .int (lastR (rRow (tRun τ q))), .int (wh)]) (rest := []) C v_X4_255 (c4_endsAsAsked l g (lastR (rRow (tRun τ pa))) (lastR (rRow (tRun τ q))) (wh)) ⟨Nat.le_of_ble_eq_true rfl, Nat.le_of_ble_eq_true rfl⟩ (trivial) hl.1 rfl rfl (Nat.le_of_ble_eq_true rfl) dX4_countPairs_93 ⟨Nat.le_of_ble_eq_true rfl, Nat.le_of_ble_eq_true rfl⟩) (fun r93 q93 => ?_)
                    subst q93
                    refine b_ifeq (tgt := 102) C dX4_countPairs_96 (by decide) (fun c96 => ?_) (fun c96 => ?_)
                    · skip
                      refine n_iinc (d := 1) (lv' := [(9, .int (nI (q + 1))), (10, .ref (rad q)), (0, .ref (b 0)), (1, .int (nI (i))), (2, .int (u)), (3, .int (v)), (4, .int (nI (tk))), (5, .int (wh)), (6, .int (nI (n2))), (7, .int (nI (pa))), (8, .ref (rad pa))]) C dX4_countPairs_102 (by decide) hl (k := 10) rfl (by decide) rfl (fun ls hl => ?_)
                      refine lv_goto (tgt := 41) hx hb dX4_countPairs_105 (by decide) ?_
                      exact ih_lq (q + 1) (n2) ls (by omega) (by omega) (by rw [hc2, cnt2_no (by simp [pcB, c32, c67, c78, c96])]) (lv_sub hl [2, 3, 4, 5, 6, 7, 8, 9, 10, 0] rfl)
                    · skip
                      refine n_iinc (d := 1) (lv' := [(6, .int (nI (n2 + 1))), (10, .ref (rad q)), (0, .ref (b 0)), (1, .int (nI (i))), (2, .int (u)), (3, .int (v)), (4, .int (nI (tk))), (5, .int (wh)), (7, .int (nI (pa))), (8, .ref (rad pa)), (9, .int (nI (q)))]) C dX4_countPairs_99 (by decide) hl (k := 7) rfl (by decide) rfl (fun ls hl => ?_)
                      refine n_iinc (d := 1) (lv' := [(9, .int (nI (q + 1))), (6, .int (nI (n2 + 1))), (10, .ref (rad q)), (0, .ref (b 0)), (1, .int (nI (i))), (2, .int (u)), (3, .int (v)), (4, .int (nI (tk))), (5, .int (wh)), (7, .int (nI (pa))), (8, .ref (rad pa))]) C dX4_countPairs_102 (by decide) hl (k := 10) rfl (by decide) rfl (fun ls hl => ?_)
                      refine lv_goto (tgt := 41) hx hb dX4_countPairs_105 (by decide) ?_
                      exact ih_lq (q + 1) (n2 + 1) ls (by omega) (by omega) (by rw [hc2, cnt2_yes (by simp [pcB, c32, c67, c78, c96])]) (lv_sub hl [3, 4, 5, 6, 7, 8, 1, 9, 10, 0] rfl)
          exact lq (tN τ + 1) (0) (n1) ls (by omega) (by omega) (hc1) (lv_sub hl [2, 3, 4, 5, 6, 7, 8, 9, 1, 0] rfl)
        · skip
          refine lv_goto (tgt := 108) hx hb dX4_countPairs_35 (by decide) ?_
          refine n_iinc (d := 1) (lv' := [(7, .int (nI (pa + 1))), (8, .ref (rad pa)), (0, .ref (b 0)), (1, .int (nI (i))), (2, .int (u)), (3, .int (v)), (4, .int (nI (tk))), (5, .int (wh)), (6, .int (nI (n1)))]) C dX4_countPairs_108 (by decide) hl (k := 8) rfl (by decide) rfl (fun ls hl => ?_)
          refine lv_goto (tgt := 6) hx hb dX4_countPairs_111 (by decide) ?_
          exact ih_lp (pa + 1) (n1) ls (by omega) (by omega) (by rw [cnt2_skip (fun q => by rw [pcB, c32, Bool.false_and])]; exact hc1) (lv_sub hl [2, 3, 4, 5, 6, 7, 8, 0] rfl)
  exact lp (tN τ + 1) (0) (0) ls (by omega) (by omega) (rfl) (lv_sub hl [2, 3, 4, 5, 6, 7, 1, 0] rfl)
theorem pairs_e {τ : TB} {i tk : Nat} {u v wh : Int32} (hi : i < 4) (hT : TOK τ) (h : inR wh 0 2 = true) : nI (pcN τ i u v tk wh) = if (true && true) = true then (if wh = 0 then nI (pairsN τ i u v tk) else if wh = 1 then nI (winsN τ i u v tk) else nI (losN τ i u v tk)) else -1 := by
  rw [if_pos (show (true && true) = true from rfl)]
  obtain ⟨j, hj, rfl⟩ := inR_nI (hi := 2) h
  rcases (show j = 0 ∨ j = 1 ∨ j = 2 by omega) with rfl | rfl | rfl
  · rw [if_pos (by decide), ← pcN_0 hi]; rfl
  · rw [if_neg (by decide), if_pos (by decide), ← pcN_1 hi hT]; rfl
  · rw [if_neg (by decide), if_neg (by decide), ← pcN_2 hi hT]; rfl
set_option maxHeartbeats 4000000 in
set_option maxRecDepth 100000 in
theorem c4_pairs (l : Launch) (g : GG) (b : Nat → Nat) (Z : Nat → Prop) (τ : TB) (hT : TOK τ) (i u v t wh : Int32) : Met l yX4_pairs (.code yX4_pairs cX4_pairs 6 (some .int) :: wsL_law) ({ frames := 4, cells := 0, slots := 0, locals := 97 } : Room) (mP g [.ref (b 0), .int (i), .int (u), .int (v), .int (t), .int (wh)] (Bk g b Z τ)) (vp_Si (fun z => z = pairsT τ i u v t wh)) 0 0 ((fun _ => False)) := by
  refine mMet (by decide) (Nat.le_of_ble_eq_true rfl) ?_
  intro p e s m below meth c C hr hlk hnm hP ls hl
  have hx := C.1.1
  have hb := C.1.2.1
  have hl : lv_has ls 6 [(0, .ref (b 0)), (1, .int (i)), (2, .int (u)), (3, .int (v)), (4, .int (t)), (5, .int (wh))] := hl
  have hBk := hP
  obtain ⟨cad, rad, ⟨nf, fc, fb, d, fr, f1, f2, ff, hB, hP⟩, hF⟩ := hP
  have hW : WorldAt g (tDat τ) (tClk τ) (b 3) s.heap := ⟨b 4, d, hB.2.2.1, hP.sub [3, 4] rfl⟩
  have h40 := hT.2.2.1
  refine lv_iload_n hx hb dX4_pairs_0 rfl (lv_at hl 1 rfl) ?_
  refine lv_iload_n hx hb dX4_pairs_1 rfl (lv_at hl 2 rfl) ?_
  refine lv_iload_n hx hb dX4_pairs_2 rfl (lv_at hl 3 rfl) ?_
  refine lv_iload hx hb dX4_pairs_3 (lv_at hl 4 rfl) ?_
  refine k_i (c_S (As := [.int (i), .int (u), .int (v), .int (t)]) (rest := []) C v_X4_172 (c4_canCompare l g (i) (u) (v) (t)) ⟨Nat.le_of_ble_eq_true rfl, Nat.le_of_ble_eq_true rfl⟩ (trivial) hl.1 rfl rfl (Nat.le_of_ble_eq_true rfl) dX4_pairs_5 ⟨Nat.le_of_ble_eq_true rfl, Nat.le_of_ble_eq_true rfl⟩) (fun r5 q5 => ?_)
  subst q5
  refine b_ifeq (tgt := 22) C dX4_pairs_8 (by decide) (fun c8 => ?_) (fun c8 => ?_)
  · skip
    refine lv_iconst (v := (-1)) hx hb dX4_pairs_22 (by decide) ?_
    exact r_i C hr hlk (by rw [pairsT, c8]; rfl) dX4_pairs_23
  · skip
    refine lv_iload hx hb dX4_pairs_11 (lv_at hl 5 rfl) ?_
    refine lv_if_lt (tgt := 22) hx hb dX4_pairs_13 (by decide) (fun c13 => ?_) (fun c13 => ?_)
    · skip
      refine lv_iconst (v := (-1)) hx hb dX4_pairs_22 (by decide) ?_
      exact r_i C hr hlk (by rw [pairsT, show inR wh 0 2 = false from inF (by simp only [fa_lt, fa_le, fa_eq, li_0, li_1, li_2, li_3, li_4, li_5, li_6, li_7, li_8, li_12, li_15, li_16, li_20, li_30, li_40, li_100, li_1000, li_65535, li_65536, li_1000000, li_m1] at c13; omega), Bool.and_false]; rfl) dX4_pairs_23
    · skip
      refine lv_iload hx hb dX4_pairs_16 (lv_at hl 5 rfl) ?_
      refine lv_iconst (v := 2) hx hb dX4_pairs_18 (by decide) ?_
      refine lv_icmp_le (tgt := 24) hx hb dX4_pairs_19 (by decide) (fun c19 => ?_) (fun c19 => ?_)
      · skip
        obtain ⟨⟨⟨⟨gi, gu⟩, gv⟩, guv⟩, gt⟩ : (((inR i 0 3 = true ∧ inR u 0 5 = true) ∧ inR v 0 5 = true) ∧ ¬ u = v) ∧ inR t 1 16 = true := by simpa only [canPairB, Bool.and_eq_true, decide_eq_true_eq] using c8
        obtain ⟨i1, hi1, rfl⟩ := inR_nI (hi := 3) gi
        obtain ⟨t1, ht0, ht1, rfl⟩ := inR1_nI (hi := 16) gt
        have ei : (nI i1).toNatClampNeg = i1 := nI_clamp (by omega)
        have et : (nI t1).toNatClampNeg = t1 := nI_clamp (by omega)
        have hwh : inR wh 0 2 = true := inR_iff.mpr (by simp only [fa_lt, fa_le, li_0, li_2] at c13 c19; omega)
        refine lv_aload_n hx hb dX4_pairs_24 rfl (lv_at hl 0 rfl) ?_
        refine lv_iload_n hx hb dX4_pairs_25 rfl (lv_at hl 1 rfl) ?_
        refine lv_iload_n hx hb dX4_pairs_26 rfl (lv_at hl 2 rfl) ?_
        refine lv_iload_n hx hb dX4_pairs_27 rfl (lv_at hl 3 rfl) ?_
        refine lv_iload hx hb dX4_pairs_28 (lv_at hl 4 rfl) ?_
        refine lv_iload hx hb dX4_pairs_30 (lv_at hl 5 rfl) ?_
        refine k_i (c_V (As := [.int (nI (i1)), .int (u), .int (v), .int (nI (t1)), .int (wh)]) (rest := []) C v_X4_176 (c4_countPairs l g b Z τ hT i1 (u) (v) t1 (wh) (by omega) (by omega)) ⟨Nat.le_of_ble_eq_true rfl, Nat.le_of_ble_eq_true rfl⟩ (q_recv C hP 0 rfl rfl) (hBk) hl.1 rfl rfl (Nat.le_of_ble_eq_true rfl) dX4_pairs_32 ⟨Nat.le_of_ble_eq_true rfl, Nat.le_of_ble_eq_true rfl⟩) (fun r32 q32 => ?_)
        subst q32
        exact r_i C hr hlk (by rw [pairsT, c8, hwh, ei, et]; exact pairs_e (by omega) hT hwh) dX4_pairs_35
      · skip
        refine lv_iconst (v := (-1)) hx hb dX4_pairs_22 (by decide) ?_
        exact r_i C hr hlk (by rw [pairsT, show inR wh 0 2 = false from inF (by simp only [fa_lt, fa_le, fa_eq, li_0, li_1, li_2, li_3, li_4, li_5, li_6, li_7, li_8, li_12, li_15, li_16, li_20, li_30, li_40, li_100, li_1000, li_65535, li_65536, li_1000000, li_m1] at c13 c19; omega), Bool.and_false]; rfl) dX4_pairs_23
set_option maxHeartbeats 4000000 in
set_option maxRecDepth 100000 in
theorem c4_pair (l : Launch) (g : GG) (b : Nat → Nat) (Z : Nat → Prop) (τ : TB) (hT : TOK τ) (i u v t k wh : Int32) : Met l yX4_pair (.code yX4_pair cX4_pair 12 (some .int) :: wsL_law) ({ frames := 3, cells := 0, slots := 0, locals := 67 } : Room) (mP g [.ref (b 0), .int (i), .int (u), .int (v), .int (t), .int (k), .int (wh)] (Bk g b Z τ)) (vp_Si (fun z => z = pairT τ i u v t k wh)) 0 0 ((fun _ => False)) := by
  refine mMet (by decide) (Nat.le_of_ble_eq_true rfl) ?_
  intro p e s m below meth c C hr hlk hnm hP ls hl
  have hx := C.1.1
  have hb := C.1.2.1
  have hl : lv_has ls 12 [(0, .ref (b 0)), (1, .int (i)), (2, .int (u)), (3, .int (v)), (4, .int (t)), (5, .int (k)), (6, .int (wh))] := hl
  have hBk := hP
  obtain ⟨cad, rad, ⟨nf, fc, fb, d, fr, f1, f2, ff, hB, hP⟩, hF⟩ := hP
  have hW : WorldAt g (tDat τ) (tClk τ) (b 3) s.heap := ⟨b 4, d, hB.2.2.1, hP.sub [3, 4] rfl⟩
  have h40 := hT.2.2.1
  refine lv_iload_n hx hb dX4_pair_0 rfl (lv_at hl 1 rfl) ?_
  refine lv_iload_n hx hb dX4_pair_1 rfl (lv_at hl 2 rfl) ?_
  refine lv_iload_n hx hb dX4_pair_2 rfl (lv_at hl 3 rfl) ?_
  refine lv_iload hx hb dX4_pair_3 (lv_at hl 4 rfl) ?_
  refine k_i (c_S (As := [.int (i), .int (u), .int (v), .int (t)]) (rest := []) C v_X4_172 (c4_canCompare l g (i) (u) (v) (t)) ⟨Nat.le_of_ble_eq_true rfl, Nat.le_of_ble_eq_true rfl⟩ (trivial) hl.1 rfl rfl (Nat.le_of_ble_eq_true rfl) dX4_pair_5 ⟨Nat.le_of_ble_eq_true rfl, Nat.le_of_ble_eq_true rfl⟩) (fun r5 q5 => ?_)
  subst q5
  refine b_ifeq (tgt := 27) C dX4_pair_8 (by decide) (fun c8 => ?_) (fun c8 => ?_)
  · skip
    refine lv_iconst (v := (-1)) hx hb dX4_pair_27 (by decide) ?_
    exact r_i C hr hlk (by rw [pairT, c8]; rfl) dX4_pair_28
  · skip
    refine lv_iload hx hb dX4_pair_11 (lv_at hl 5 rfl) ?_
    refine lv_if_lt (tgt := 27) hx hb dX4_pair_13 (by decide) (fun c13 => ?_) (fun c13 => ?_)
    · skip
      refine lv_iconst (v := (-1)) hx hb dX4_pair_27 (by decide) ?_
      exact r_i C hr hlk (by rw [pairT, decide_eq_false (Classical.not_not.mpr c13), Bool.and_false]; rfl) dX4_pair_28
    · skip
      refine lv_iload hx hb dX4_pair_16 (lv_at hl 6 rfl) ?_
      refine lv_if_lt (tgt := 27) hx hb dX4_pair_18 (by decide) (fun c18 => ?_) (fun c18 => ?_)
      · skip
        refine lv_iconst (v := (-1)) hx hb dX4_pair_27 (by decide) ?_
        exact r_i C hr hlk (by rw [pairT, show inR wh 0 1 = false from inF (by simp only [fa_lt, fa_le, fa_eq, li_0, li_1, li_2, li_3, li_4, li_5, li_6, li_7, li_8, li_12, li_15, li_16, li_20, li_30, li_40, li_100, li_1000, li_65535, li_65536, li_1000000, li_m1] at c18; omega), Bool.and_false]; rfl) dX4_pair_28
      · skip
        refine lv_iload hx hb dX4_pair_21 (lv_at hl 6 rfl) ?_
        refine lv_iconst (v := 1) hx hb dX4_pair_23 (by decide) ?_
        refine lv_icmp_le (tgt := 29) hx hb dX4_pair_24 (by decide) (fun c24 => ?_) (fun c24 => ?_)
        · skip
          obtain ⟨⟨⟨⟨gi, gu⟩, gv⟩, guv⟩, gt⟩ : (((inR i 0 3 = true ∧ inR u 0 5 = true) ∧ inR v 0 5 = true) ∧ ¬ u = v) ∧ inR t 1 16 = true := by simpa only [canPairB, Bool.and_eq_true, decide_eq_true_eq] using c8
          obtain ⟨i1, hi1, rfl⟩ := inR_nI (hi := 3) gi
          obtain ⟨t1, ht0, ht1, rfl⟩ := inR1_nI (hi := 16) gt
          have ei : (nI i1).toNatClampNeg = i1 := nI_clamp (by omega)
          have et : (nI t1).toNatClampNeg = t1 := nI_clamp (by omega)
          obtain ⟨k1, hk1, rfl⟩ := pos_nI c13
          have hwh : inR wh 0 1 = true := inR_iff.mpr (by simp only [fa_lt, fa_le, li_0, li_1] at c18 c24; omega)
          obtain ⟨Y, hY⟩ : ∃ Y : Option (Nat × Nat), Y = kthAll (pkB τ i1 u v t1) (tN τ) (tN τ) 0 k1 := ⟨_, rfl⟩
          have eT : pairT τ (nI i1) u v (nI t1) (nI k1) wh = pickI wh (Y.map (fun x => (nI x.1, nI x.2))) := by
            rw [pairT, c8, hwh, ei, et, nI_clamp hk1, decide_eq_true c13, show (fun p q => pairB τ i1 u v t1 p q) = pkB τ i1 u v t1 from funext fun p => funext fun q => (pk_e (by omega)).symm, ← hY]; rfl
          refine lv_iload hx hb dX4_pair_29 (lv_at hl 5 rfl) ?_
          refine lv_istore (lv' := [(7, .int (nI (k1))), (0, .ref (b 0)), (1, .int (nI (i1))), (2, .int (u)), (3, .int (v)), (4, .int (nI (t1))), (5, .int (nI (k1))), (6, .int (wh))]) hx hb dX4_pair_31 hl (by decide) rfl (fun ls hl => ?_)
          refine lv_iconst (v := nI 0) hx hb dX4_pair_33 (by decide) ?_
          refine lv_istore (lv' := [(8, .int (nI (0))), (7, .int (nI (k1))), (0, .ref (b 0)), (1, .int (nI (i1))), (2, .int (u)), (3, .int (v)), (4, .int (nI (t1))), (5, .int (nI (k1))), (6, .int (wh))]) hx hb dX4_pair_34 hl (by decide) rfl (fun ls hl => ?_)
          have lp : ∀ (n_lp : Nat) (pa k2 : Nat) (ls : Array Slot), (pa ≤ tN τ) → (k2 < 2 ^ 31) → (tN τ + 1 ≤ pa + n_lp) → (Y = kthAll (pkB τ i1 u v t1) (tN τ) (tN τ - pa) pa k2) → lv_has ls 12 [(0, .ref (b 0)), (1, .int (nI (i1))), (2, .int (u)), (3, .int (v)), (4, .int (nI (t1))), (5, .int (nI (k1))), (6, .int (wh)), (7, .int (nI (k2))), (8, .int (nI (pa)))] → W p l e ({ frames := 3, cells := 0, slots := 0, locals := 67 } : Room) s m ([.ref (b 0), .int (nI (i1)), .int (u), .int (v), .int (nI (t1)), .int (nI (k1)), .int (wh)] : List Value).toArray below meth c s.heap [] 0 0 (MQ below (vp_Si (fun z => z = pairT τ (nI i1) u v (nI t1) (nI k1) wh)) (([.ref (b 0), .int (nI (i1)), .int (u), .int (v), .int (nI (t1)), .int (nI (k1)), .int (wh)] : List Value).toArray) s 0 0 ((fun _ => False))) (F0 m 36 ls []) := by
            intro n_lp
            induction n_lp with
            | zero =>
              intro pa k2 ls hpN hk2 hn hz
              exact absurd hn (by omega)
            | succ n_lp ih_lp =>
              intro pa k2 ls hpN hk2 hn hz hl
              refine lv_iload hx hb dX4_pair_36 (lv_at hl 8 rfl) ?_
              refine lv_aload_n hx hb dX4_pair_38 rfl (lv_at hl 0 rfl) ?_
              refine q_get C f_X4_144 (hP) 0 rfl rfl dX4_pair_39 ?_
              refine n_icmp_ge (tgt := 147) C (by omega) (by omega) dX4_pair_42 (by decide) (fun c42 => ?_) (fun c42 => ?_)
              · skip
                refine lv_iconst (v := (-1)) hx hb dX4_pair_147 (by decide) ?_
                exact r_i C hr hlk (by rw [eT, hz, kth_aend c42]; rfl) dX4_pair_148
              · skip
                refine lv_aload_n hx hb dX4_pair_45 rfl (lv_at hl 0 rfl) ?_
                refine lv_iload hx hb dX4_pair_46 (lv_at hl 8 rfl) ?_
                refine k_q (c_V (As := [.int (nI (pa))]) (rest := []) C v_X4_69 (c4_runAt l g b τ hT nf fc fb d fr f1 f2 ff (nI (pa))) ⟨Nat.le_of_ble_eq_true rfl, Nat.le_of_ble_eq_true rfl⟩ (q_recv C hP 0 rfl rfl) (hP) hl.1 rfl rfl (Nat.le_of_ble_eq_true rfl) dX4_pair_48 ⟨Nat.le_of_ble_eq_true rfl, Nat.le_of_ble_eq_true rfl⟩) (fun r48 q48 => ?_)
                obtain rfl : r48 = some (rad pa) := q48.trans (rn_in (c42) h40 (hB.2.2.2.1 _ (c42)))
                refine W.eq (g2 := F0 m 51 ls [.ref (rad pa)]) rfl ?_
                refine lv_astore (lv' := [(9, .ref (rad pa)), (0, .ref (b 0)), (1, .int (nI (i1))), (2, .int (u)), (3, .int (v)), (4, .int (nI (t1))), (5, .int (nI (k1))), (6, .int (wh)), (7, .int (nI (k2))), (8, .int (nI (pa)))]) hx hb dX4_pair_51 hl (by decide) rfl (fun ls hl => ?_)
                refine lv_aload hx hb dX4_pair_53 (lv_at hl 0 rfl) ?_
                refine lv_iload_n hx hb dX4_pair_55 rfl (lv_at hl 2 rfl) ?_
                refine lv_iload_n hx hb dX4_pair_56 rfl (lv_at hl 3 rfl) ?_
                refine lv_iload hx hb dX4_pair_57 (lv_at hl 5 rfl) ?_
                refine k_i (c_S (As := [.ref (rad pa), .int (nI (i1)), .int (u), .int (nI (t1))]) (rest := []) C v_X4_180 (c4_standsFor l g (rad pa) (tRun τ pa) (cntB τ pa) (hT.2.2.2.1 pa c42) i1 (u) t1 (by omega)) ⟨Nat.le_of_ble_eq_true rfl, Nat.le_of_ble_eq_true rfl⟩ ((hF.2 pa c42).run) hl.1 rfl rfl (Nat.le_of_ble_eq_true rfl) dX4_pair_59 ⟨Nat.le_of_ble_eq_true rfl, Nat.le_of_ble_eq_true rfl⟩) (fun r59 q59 => ?_)
                subst q59
                refine b_ifne (tgt := 68) C dX4_pair_62 (by decide) (fun c62 => ?_) (fun c62 => ?_)
                · skip
                  refine lv_iconst (v := nI 0) hx hb dX4_pair_68 (by decide) ?_
                  refine lv_istore (lv' := [(10, .int (nI (0))), (9, .ref (rad pa)), (0, .ref (b 0)), (1, .int (nI (i1))), (2, .int (u)), (3, .int (v)), (4, .int (nI (t1))), (5, .int (nI (k1))), (6, .int (wh)), (7, .int (nI (k2))), (8, .int (nI (pa)))]) hx hb dX4_pair_69 hl (by decide) rfl (fun ls hl => ?_)
                  have lq : ∀ (n_lq : Nat) (q k3 : Nat) (ls : Array Slot), (q ≤ tN τ) → (k3 < 2 ^ 31) → (tN τ + 1 ≤ q + n_lq) → (Y = kthIn (pkB τ i1 u v t1) (tN τ) (tN τ) pa (kthRow (pkB τ i1 u v t1 pa) (tN τ - q) q k3)) → lv_has ls 12 [(0, .ref (b 0)), (1, .int (nI (i1))), (2, .int (u)), (3, .int (v)), (4, .int (nI (t1))), (5, .int (nI (k1))), (6, .int (wh)), (7, .int (nI (k3))), (8, .int (nI (pa))), (9, .ref (rad pa)), (10, .int (nI (q)))] → W p l e ({ frames := 3, cells := 0, slots := 0, locals := 67 } : Room) s m ([.ref (b 0), .int (nI (i1)), .int (u), .int (v), .int (nI (t1)), .int (nI (k1)), .int (wh)] : List Value).toArray below meth c s.heap [] 0 0 (MQ below (vp_Si (fun z => z = pairT τ (nI i1) u v (nI t1) (nI k1) wh)) (([.ref (b 0), .int (nI (i1)), .int (u), .int (v), .int (nI (t1)), .int (nI (k1)), .int (wh)] : List Value).toArray) s 0 0 ((fun _ => False))) (F0 m 71 ls []) := by
                    intro n_lq
                    induction n_lq with
                    | zero =>
                      intro q k3 ls hqN hk3 hnq hq2
                      exact absurd hnq (by omega)
                    | succ n_lq ih_lq =>
                      intro q k3 ls hqN hk3 hnq hq2 hl
                      refine lv_iload hx hb dX4_pair_71 (lv_at hl 10 rfl) ?_
                      refine lv_aload_n hx hb dX4_pair_73 rfl (lv_at hl 0 rfl) ?_
                      refine q_get C f_X4_144 (hP) 0 rfl rfl dX4_pair_74 ?_
                      refine n_icmp_ge (tgt := 141) C (by omega) (by omega) dX4_pair_77 (by decide) (fun c77 => ?_) (fun c77 => ?_)
                      · skip
                        refine n_iinc (d := 1) (lv' := [(8, .int (nI (pa + 1))), (0, .ref (b 0)), (1, .int (nI (i1))), (2, .int (u)), (3, .int (v)), (4, .int (nI (t1))), (5, .int (nI (k1))), (6, .int (wh)), (7, .int (nI (k3))), (9, .ref (rad pa)), (10, .int (nI (q)))]) C dX4_pair_141 (by decide) hl (k := 8) rfl (by decide) rfl (fun ls hl => ?_)
                        refine lv_goto (tgt := 36) hx hb dX4_pair_144 (by decide) ?_
                        exact ih_lp (pa + 1) (k3) ls (by omega) (hk3) (by omega) (by rw [hq2]; exact kth_end (by omega)) (lv_sub hl [1, 2, 3, 4, 5, 6, 7, 8, 0] rfl)
                      · skip
                        refine lv_aload_n hx hb dX4_pair_80 rfl (lv_at hl 0 rfl) ?_
                        refine lv_iload hx hb dX4_pair_81 (lv_at hl 10 rfl) ?_
                        refine k_q (c_V (As := [.int (nI (q))]) (rest := []) C v_X4_69 (c4_runAt l g b τ hT nf fc fb d fr f1 f2 ff (nI (q))) ⟨Nat.le_of_ble_eq_true rfl, Nat.le_of_ble_eq_true rfl⟩ (q_recv C hP 0 rfl rfl) (hP) hl.1 rfl rfl (Nat.le_of_ble_eq_true rfl) dX4_pair_83 ⟨Nat.le_of_ble_eq_true rfl, Nat.le_of_ble_eq_true rfl⟩) (fun r83 q83 => ?_)
                        obtain rfl : r83 = some (rad q) := q83.trans (rn_in (c77) h40 (hB.2.2.2.1 _ (c77)))
                        refine W.eq (g2 := F0 m 86 ls [.ref (rad q)]) rfl ?_
                        refine lv_astore (lv' := [(11, .ref (rad q)), (0, .ref (b 0)), (1, .int (nI (i1))), (2, .int (u)), (3, .int (v)), (4, .int (nI (t1))), (5, .int (nI (k1))), (6, .int (wh)), (7, .int (nI (k3))), (8, .int (nI (pa))), (9, .ref (rad pa)), (10, .int (nI (q)))]) hx hb dX4_pair_86 hl (by decide) rfl (fun ls hl => ?_)
                        refine lv_aload hx hb dX4_pair_88 (lv_at hl 0 rfl) ?_
                        refine lv_iload_n hx hb dX4_pair_90 rfl (lv_at hl 2 rfl) ?_
                        refine lv_iload_n hx hb dX4_pair_91 rfl (lv_at hl 4 rfl) ?_
                        refine lv_iload hx hb dX4_pair_92 (lv_at hl 5 rfl) ?_
                        refine k_i (c_S (As := [.ref (rad q), .int (nI (i1)), .int (v), .int (nI (t1))]) (rest := []) C v_X4_180 (c4_standsFor l g (rad q) (tRun τ q) (cntB τ q) (hT.2.2.2.1 q c77) i1 (v) t1 (by omega)) ⟨Nat.le_of_ble_eq_true rfl, Nat.le_of_ble_eq_true rfl⟩ ((hF.2 q c77).run) hl.1 rfl rfl (Nat.le_of_ble_eq_true rfl) dX4_pair_94 ⟨Nat.le_of_ble_eq_true rfl, Nat.le_of_ble_eq_true rfl⟩) (fun r94 q94 => ?_)
                        subst q94
                        refine b_ifeq (tgt := 135) C dX4_pair_97 (by decide) (fun c97 => ?_) (fun c97 => ?_)
                        · skip
                          refine n_iinc (d := 1) (lv' := [(10, .int (nI (q + 1))), (11, .ref (rad q)), (0, .ref (b 0)), (1, .int (nI (i1))), (2, .int (u)), (3, .int (v)), (4, .int (nI (t1))), (5, .int (nI (k1))), (6, .int (wh)), (7, .int (nI (k3))), (8, .int (nI (pa))), (9, .ref (rad pa))]) C dX4_pair_135 (by decide) hl (k := 11) rfl (by decide) rfl (fun ls hl => ?_)
                          refine lv_goto (tgt := 71) hx hb dX4_pair_138 (by decide) ?_
                          exact ih_lq (q + 1) (k3) ls (by omega) (hk3) (by omega) (by rw [hq2, kth_no c77 (by simp [pkB, c62, c97])]) (lv_sub hl [2, 3, 4, 5, 6, 7, 8, 9, 10, 11, 0] rfl)
                        · skip
                          refine lv_aload hx hb dX4_pair_100 (lv_at hl 10 rfl) ?_
                          refine lv_aload hx hb dX4_pair_102 (lv_at hl 0 rfl) ?_
                          refine lv_iload_n hx hb dX4_pair_104 rfl (lv_at hl 2 rfl) ?_
                          refine k_i (c_V (As := [.ref (rad q), .int (nI (i1))]) (rest := []) C v_X4_184 (c2_pairsWith l g (rad pa) (rad q) (tRun τ pa) (tRun τ q) (cntB τ pa) (cntB τ q) (hT.2.2.2.1 pa c42) (hT.2.2.2.1 q c77) i1) ⟨Nat.le_of_ble_eq_true rfl, Nat.le_of_ble_eq_true rfl⟩ (run_recv C (hF.2 pa c42).run) (⟨(hF.2 pa c42).run, (hF.2 q c77).run⟩) hl.1 rfl rfl (Nat.le_of_ble_eq_true rfl) dX4_pair_105 ⟨Nat.le_of_ble_eq_true rfl, Nat.le_of_ble_eq_true rfl⟩) (fun r105 q105 => ?_)
                          subst q105
                          refine b_ifne (tgt := 114) C dX4_pair_108 (by decide) (fun c108 => ?_) (fun c108 => ?_)
                          · skip
                            refine lv_iload hx hb dX4_pair_114 (lv_at hl 8 rfl) ?_
                            refine n_ifne (tgt := 132) C (by omega) dX4_pair_116 (by decide) (fun c116 => ?_) (fun c116 => ?_)
                            · skip
                              refine lv_iinc (v := nI (k3 - 1)) (lv' := [(7, .int (nI (k3 - 1))), (11, .ref (rad q)), (0, .ref (b 0)), (1, .int (nI (i1))), (2, .int (u)), (3, .int (v)), (4, .int (nI (t1))), (5, .int (nI (k1))), (6, .int (wh)), (8, .int (nI (pa))), (9, .ref (rad pa)), (10, .int (nI (q)))]) hx hb dX4_pair_132 hl (k := 8) rfl (nI_dec c116) (by decide) rfl (fun ls hl => ?_)
                              refine n_iinc (d := 1) (lv' := [(10, .int (nI (q + 1))), (7, .int (nI (k3 - 1))), (11, .ref (rad q)), (0, .ref (b 0)), (1, .int (nI (i1))), (2, .int (u)), (3, .int (v)), (4, .int (nI (t1))), (5, .int (nI (k1))), (6, .int (wh)), (8, .int (nI (pa))), (9, .ref (rad pa))]) C dX4_pair_135 (by decide) hl (k := 11) rfl (by decide) rfl (fun ls hl => ?_)
                              refine lv_goto (tgt := 71) hx hb dX4_pair_138 (by decide) ?_
                              exact ih_lq (q + 1) (k3 - 1) ls (by omega) (by omega) (by omega) (by rw [hq2, kth_skip c77 (by simp [pkB, c62, c97, c108]) c116]) (lv_sub hl [3, 4, 5, 6, 7, 8, 9, 1, 10, 11, 0] rfl)
                            · skip
                              refine lv_iload hx hb dX4_pair_119 (lv_at hl 7 rfl) ?_
                              refine lv_if_ne (tgt := 129) hx hb dX4_pair_121 (by decide) (fun c121 => ?_) (fun c121 => ?_)
                              · skip
                                refine lv_iload hx hb dX4_pair_129 (lv_at hl 11 rfl) ?_
                                exact r_i C hr hlk (by rw [c116, kth_hit c77 (by simp [pkB, c62, c97, c108])] at hq2; rw [eT, hq2]; exact (if_neg c121).symm) dX4_pair_131
                              · skip
                                refine lv_iload hx hb dX4_pair_124 (lv_at hl 9 rfl) ?_
                                refine lv_goto (tgt := 131) hx hb dX4_pair_126 (by decide) ?_
                                exact r_i C hr hlk (by rw [c116, kth_hit c77 (by simp [pkB, c62, c97, c108])] at hq2; rw [eT, hq2]; exact (if_pos c121).symm) dX4_pair_131
                          · skip
                            refine lv_goto (tgt := 135) hx hb dX4_pair_111 (by decide) ?_
                            refine n_iinc (d := 1) (lv' := [(10, .int (nI (q + 1))), (11, .ref (rad q)), (0, .ref (b 0)), (1, .int (nI (i1))), (2, .int (u)), (3, .int (v)), (4, .int (nI (t1))), (5, .int (nI (k1))), (6, .int (wh)), (7, .int (nI (k3))), (8, .int (nI (pa))), (9, .ref (rad pa))]) C dX4_pair_135 (by decide) hl (k := 11) rfl (by decide) rfl (fun ls hl => ?_)
                            refine lv_goto (tgt := 71) hx hb dX4_pair_138 (by decide) ?_
                            exact ih_lq (q + 1) (k3) ls (by omega) (hk3) (by omega) (by rw [hq2, kth_no c77 (by simp [pkB, c62, c97, c108])]) (lv_sub hl [2, 3, 4, 5, 6, 7, 8, 9, 10, 11, 0] rfl)
                  exact lq (tN τ + 1) (0) (k2) ls (by omega) (hk2) (by omega) (by rw [hz]; exact kth_in c42) (lv_sub hl [2, 3, 4, 5, 6, 7, 8, 9, 10, 1, 0] rfl)
                · skip
                  refine lv_goto (tgt := 141) hx hb dX4_pair_65 (by decide) ?_
                  refine n_iinc (d := 1) (lv' := [(8, .int (nI (pa + 1))), (9, .ref (rad pa)), (0, .ref (b 0)), (1, .int (nI (i1))), (2, .int (u)), (3, .int (v)), (4, .int (nI (t1))), (5, .int (nI (k1))), (6, .int (wh)), (7, .int (nI (k2)))]) C dX4_pair_141 (by decide) hl (k := 9) rfl (by decide) rfl (fun ls hl => ?_)
                  refine lv_goto (tgt := 36) hx hb dX4_pair_144 (by decide) ?_
                  exact ih_lp (pa + 1) (k2) ls (by omega) (hk2) (by omega) (by rw [hz]; exact kth_rskip c42 (fun q => by rw [pkB, c62, Bool.false_and])) (lv_sub hl [2, 3, 4, 5, 6, 7, 8, 9, 0] rfl)
          exact lp (tN τ + 1) (0) (k1) ls (by omega) (hk1) (by omega) (hY) (lv_sub hl [2, 3, 4, 5, 6, 7, 8, 1, 0] rfl)
        · skip
          refine lv_iconst (v := (-1)) hx hb dX4_pair_27 (by decide) ?_
          exact r_i C hr hlk (by rw [pairT, show inR wh 0 1 = false from inF (by simp only [fa_lt, fa_le, fa_eq, li_0, li_1, li_2, li_3, li_4, li_5, li_6, li_7, li_8, li_12, li_15, li_16, li_20, li_30, li_40, li_100, li_1000, li_65535, li_65536, li_1000000, li_m1] at c18 c24; omega), Bool.and_false]; rfl) dX4_pair_28
set_option maxHeartbeats 4000000 in
set_option maxRecDepth 100000 in
theorem c4_judge (l : Launch) (g : GG) (b : Nat → Nat) (Z : Nat → Prop) (τ : TB) (hT : TOK τ) (i : Nat) (u v : Int32) (tk : Nat) (y : Int64) (hi : i < 4) (htk : tk ≤ 16) : Met l yX4_judge (.code yX4_judge cX4_judge 9 (some .int) :: wsL_law) ({ frames := 4, cells := 0, slots := 0, locals := 97 } : Room) (mP g [.ref (b 0), .int (nI (i)), .int (u), .int (v), .int (nI (tk)), .long (y)] (Bk g b Z τ)) (vp_Si (fun z => z = sureI τ i u v tk y)) 0 0 ((fun _ => False)) := by
  refine mMet (by decide) (Nat.le_of_ble_eq_true rfl) ?_
  intro p e s m below meth c C hr hlk hnm hP ls hl
  have hx := C.1.1
  have hb := C.1.2.1
  have hl : lv_has ls 9 [(0, .ref (b 0)), (1, .int (nI (i))), (2, .int (u)), (3, .int (v)), (4, .int (nI (tk))), (5, .long (y))] := hl
  have hBk := hP
  obtain ⟨cad, rad, ⟨nf, fc, fb, d, fr, f1, f2, ff, hB, hP⟩, hF⟩ := hP
  have hW : WorldAt g (tDat τ) (tClk τ) (b 3) s.heap := ⟨b 4, d, hB.2.2.1, hP.sub [3, 4] rfl⟩
  have hw1 : winsN τ i u v tk ≤ 1600 := by rw [← pcN_1 hi hT]; exact pcN_le hT
  have hw2 : losN τ i u v tk ≤ 1600 := by rw [← pcN_2 hi hT]; exact pcN_le hT
  have h40 := hT.2.2.1
  refine lv_aload_n hx hb dX4_judge_0 rfl (lv_at hl 0 rfl) ?_
  refine lv_iload_n hx hb dX4_judge_1 rfl (lv_at hl 1 rfl) ?_
  refine lv_iload_n hx hb dX4_judge_2 rfl (lv_at hl 2 rfl) ?_
  refine lv_iload_n hx hb dX4_judge_3 rfl (lv_at hl 3 rfl) ?_
  refine lv_iload hx hb dX4_judge_4 (lv_at hl 4 rfl) ?_
  refine lv_iconst (v := 1) hx hb dX4_judge_6 (by decide) ?_
  refine k_i (c_V (As := [.int (nI (i)), .int (u), .int (v), .int (nI (tk)), .int (1)]) (rest := []) C v_X4_176 (c4_countPairs l g b Z τ hT i (u) (v) tk (1 : Int32) (by omega) (by omega)) ⟨Nat.le_of_ble_eq_true rfl, Nat.le_of_ble_eq_true rfl⟩ (q_recv C hP 0 rfl rfl) (hBk) hl.1 rfl rfl (Nat.le_of_ble_eq_true rfl) dX4_judge_7 ⟨Nat.le_of_ble_eq_true rfl, Nat.le_of_ble_eq_true rfl⟩) (fun r7 q7 => ?_)
  subst q7
  refine w_topi (y := (nI (winsN τ i u v tk))) (by rw [pcN_1 hi hT]) ?_
  refine lv_istore (lv' := [(7, .int (nI (winsN τ i u v tk))), (0, .ref (b 0)), (1, .int (nI (i))), (2, .int (u)), (3, .int (v)), (4, .int (nI (tk))), (5, .long (y))]) hx hb dX4_judge_10 hl (by decide) rfl (fun ls hl => ?_)
  refine lv_iload hx hb dX4_judge_12 (lv_at hl 0 rfl) ?_
  refine lv_aload_n hx hb dX4_judge_14 rfl (lv_at hl 1 rfl) ?_
  refine lv_iload_n hx hb dX4_judge_15 rfl (lv_at hl 2 rfl) ?_
  refine lv_iload_n hx hb dX4_judge_16 rfl (lv_at hl 3 rfl) ?_
  refine lv_iload_n hx hb dX4_judge_17 rfl (lv_at hl 4 rfl) ?_
  refine lv_iload hx hb dX4_judge_18 (lv_at hl 5 rfl) ?_
  refine lv_iconst (v := 2) hx hb dX4_judge_20 (by decide) ?_
  refine k_i (c_V (As := [.int (nI (i)), .int (u), .int (v), .int (nI (tk)), .int (2)]) (rest := [.int (nI (winsN τ i u v tk))]) C v_X4_176 (c4_countPairs l g b Z τ hT i (u) (v) tk (2 : Int32) (by omega) (by omega)) ⟨Nat.le_of_ble_eq_true rfl, Nat.le_of_ble_eq_true rfl⟩ (q_recv C hP 0 rfl rfl) (hBk) hl.1 rfl rfl (Nat.le_of_ble_eq_true rfl) dX4_judge_21 ⟨Nat.le_of_ble_eq_true rfl, Nat.le_of_ble_eq_true rfl⟩) (fun r21 q21 => ?_)
  subst q21
  refine w_topi (y := (nI (losN τ i u v tk))) (by rw [pcN_2 hi hT]) ?_
  refine n_iadd C dX4_judge_24 ?_
  refine lv_istore (lv' := [(8, .int (nI ((winsN τ i u v tk) + (losN τ i u v tk)))), (7, .int (nI (winsN τ i u v tk))), (0, .ref (b 0)), (1, .int (nI (i))), (2, .int (u)), (3, .int (v)), (4, .int (nI (tk))), (5, .long (y))]) hx hb dX4_judge_25 hl (by decide) rfl (fun ls hl => ?_)
  refine lv_iload hx hb dX4_judge_27 (lv_at hl 0 rfl) ?_
  refine lv_bipush (v := nI 30) hx hb dX4_judge_29 (by decide) ?_
  refine n_icmp_le (tgt := 36) C (by omega) (by omega) dX4_judge_31 (by decide) (fun c31 => ?_) (fun c31 => ?_)
  · skip
    refine lv_lload hx hb dX4_judge_36 (lv_at hl 7 rfl) ?_
    refine lv_iload hx hb dX4_judge_38 (lv_at hl 0 rfl) ?_
    refine lv_iload hx hb dX4_judge_40 (lv_at hl 1 rfl) ?_
    refine k_l (c_S (As := [.int (nI ((winsN τ i u v tk) + (losN τ i u v tk))), .int (nI (winsN τ i u v tk))]) (rest := [.long (y)]) C v_X4_259 (c4_waysToWin l g ((winsN τ i u v tk) + (losN τ i u v tk)) (winsN τ i u v tk) (by omega) (by omega)) ⟨Nat.le_of_ble_eq_true rfl, Nat.le_of_ble_eq_true rfl⟩ (trivial) hl.1 rfl rfl (Nat.le_of_ble_eq_true rfl) dX4_judge_42 ⟨Nat.le_of_ble_eq_true rfl, Nat.le_of_ble_eq_true rfl⟩) (fun r42 q42 => ?_)
    subst q42
    refine lv_lmul hx hb dX4_judge_45 ?_
    refine lv_lconst (v := 1) hx hb dX4_judge_46 (by decide) ?_
    refine lv_iload hx hb dX4_judge_47 (lv_at hl 0 rfl) ?_
    refine lv_lshl (v := (1) <<< ((nI ((winsN τ i u v tk) + (losN τ i u v tk))).toInt64 &&& 63)) hx hb dX4_judge_49 rfl ?_
    refine W.lcmp hx hb dX4_judge_50 ?_
    refine lv_if_gt (tgt := 58) hx hb dX4_judge_51 (by decide) (fun c51 => ?_) (fun c51 => ?_)
    · skip
      refine lv_iconst (v := bI false) hx hb dX4_judge_58 (by decide) ?_
      refine k_i (c_S (As := [.int (bI (false))]) (rest := []) C v_X4_119 (c4_asNumber l g (false)) ⟨Nat.le_of_ble_eq_true rfl, Nat.le_of_ble_eq_true rfl⟩ (trivial) hl.1 rfl rfl (Nat.le_of_ble_eq_true rfl) dX4_judge_59 ⟨Nat.le_of_ble_eq_true rfl, Nat.le_of_ble_eq_true rfl⟩) (fun r59 q59 => ?_)
      subst q59
      exact r_i C hr hlk (by rw [sureI, if_neg (by omega), show sureJ y (winsN τ i u v tk + losN τ i u v tk) (winsN τ i u v tk) = false from decide_eq_false (Classical.not_not.mpr c51)]) dX4_judge_62
    · skip
      refine lv_iconst (v := bI true) hx hb dX4_judge_54 (by decide) ?_
      refine lv_goto (tgt := 59) hx hb dX4_judge_55 (by decide) ?_
      refine k_i (c_S (As := [.int (bI (true))]) (rest := []) C v_X4_119 (c4_asNumber l g (true)) ⟨Nat.le_of_ble_eq_true rfl, Nat.le_of_ble_eq_true rfl⟩ (trivial) hl.1 rfl rfl (Nat.le_of_ble_eq_true rfl) dX4_judge_59 ⟨Nat.le_of_ble_eq_true rfl, Nat.le_of_ble_eq_true rfl⟩) (fun r59 q59 => ?_)
      subst q59
      exact r_i C hr hlk (by rw [sureI, if_neg (by omega), show sureJ y (winsN τ i u v tk + losN τ i u v tk) (winsN τ i u v tk) = true from decide_eq_true c51]) dX4_judge_62
  · skip
    refine lv_iconst (v := (-1)) hx hb dX4_judge_34 (by decide) ?_
    exact r_i C hr hlk (by rw [sureI, if_pos (by omega)]) dX4_judge_35
set_option maxHeartbeats 4000000 in
set_option maxRecDepth 100000 in
theorem c4_sure (l : Launch) (g : GG) (b : Nat → Nat) (Z : Nat → Prop) (τ : TB) (hT : TOK τ) (i u v t mm r : Int32) : Met l yX4_sure (.code yX4_sure cX4_sure 7 (some .int) :: wsL_law) ({ frames := 5, cells := 0, slots := 0, locals := 125 } : Room) (mP g [.ref (b 0), .int (i), .int (u), .int (v), .int (t), .int (mm), .int (r)] (Bk g b Z τ)) (vp_Si (fun z => z = sureT τ i u v t mm r)) 0 0 ((fun _ => False)) := by
  refine mMet (by decide) (Nat.le_of_ble_eq_true rfl) ?_
  intro p e s m below meth c C hr hlk hnm hP ls hl
  have hx := C.1.1
  have hb := C.1.2.1
  have hl : lv_has ls 7 [(0, .ref (b 0)), (1, .int (i)), (2, .int (u)), (3, .int (v)), (4, .int (t)), (5, .int (mm)), (6, .int (r))] := hl
  have hBk := hP
  obtain ⟨cad, rad, ⟨nf, fc, fb, d, fr, f1, f2, ff, hB, hP⟩, hF⟩ := hP
  have hW : WorldAt g (tDat τ) (tClk τ) (b 3) s.heap := ⟨b 4, d, hB.2.2.1, hP.sub [3, 4] rfl⟩
  have h40 := hT.2.2.1
  refine lv_iload_n hx hb dX4_sure_0 rfl (lv_at hl 1 rfl) ?_
  refine lv_iload_n hx hb dX4_sure_1 rfl (lv_at hl 2 rfl) ?_
  refine lv_iload_n hx hb dX4_sure_2 rfl (lv_at hl 3 rfl) ?_
  refine lv_iload hx hb dX4_sure_3 (lv_at hl 4 rfl) ?_
  refine k_i (c_S (As := [.int (i), .int (u), .int (v), .int (t)]) (rest := []) C v_X4_172 (c4_canCompare l g (i) (u) (v) (t)) ⟨Nat.le_of_ble_eq_true rfl, Nat.le_of_ble_eq_true rfl⟩ (trivial) hl.1 rfl rfl (Nat.le_of_ble_eq_true rfl) dX4_sure_5 ⟨Nat.le_of_ble_eq_true rfl, Nat.le_of_ble_eq_true rfl⟩) (fun r5 q5 => ?_)
  subst q5
  refine b_ifeq (tgt := 33) C dX4_sure_8 (by decide) (fun c8 => ?_) (fun c8 => ?_)
  · skip
    refine lv_iconst (v := (-1)) hx hb dX4_sure_33 (by decide) ?_
    exact r_i C hr hlk (by rw [sureT, c8]; rfl) dX4_sure_34
  · skip
    refine lv_iload hx hb dX4_sure_11 (lv_at hl 5 rfl) ?_
    refine lv_iconst (v := 1) hx hb dX4_sure_13 (by decide) ?_
    refine lv_icmp_lt (tgt := 33) hx hb dX4_sure_14 (by decide) (fun c14 => ?_) (fun c14 => ?_)
    · skip
      refine lv_iconst (v := (-1)) hx hb dX4_sure_33 (by decide) ?_
      exact r_i C hr hlk (by rw [sureT, show inR mm 1 1000 = false from inF (by simp only [fa_lt, fa_le, fa_eq, li_0, li_1, li_2, li_3, li_4, li_5, li_6, li_7, li_8, li_12, li_15, li_16, li_20, li_30, li_40, li_100, li_1000, li_65535, li_65536, li_1000000, li_m1] at c14; omega), Bool.and_false]; rfl) dX4_sure_34
    · skip
      refine lv_iload hx hb dX4_sure_17 (lv_at hl 5 rfl) ?_
      refine lv_sipush (v := 1000) hx hb dX4_sure_19 (by decide) ?_
      refine lv_icmp_gt (tgt := 33) hx hb dX4_sure_22 (by decide) (fun c22 => ?_) (fun c22 => ?_)
      · skip
        refine lv_iconst (v := (-1)) hx hb dX4_sure_33 (by decide) ?_
        exact r_i C hr hlk (by rw [sureT, show inR mm 1 1000 = false from inF (by simp only [fa_lt, fa_le, fa_eq, li_0, li_1, li_2, li_3, li_4, li_5, li_6, li_7, li_8, li_12, li_15, li_16, li_20, li_30, li_40, li_100, li_1000, li_65535, li_65536, li_1000000, li_m1] at c14 c22; omega), Bool.and_false]; rfl) dX4_sure_34
      · skip
        refine lv_iload hx hb dX4_sure_25 (lv_at hl 6 rfl) ?_
        refine k_i (c_S (As := [.int (r)]) (rest := []) C v_X4_188 (c4_areOdds l g (r)) ⟨Nat.le_of_ble_eq_true rfl, Nat.le_of_ble_eq_true rfl⟩ (trivial) hl.1 rfl rfl (Nat.le_of_ble_eq_true rfl) dX4_sure_27 ⟨Nat.le_of_ble_eq_true rfl, Nat.le_of_ble_eq_true rfl⟩) (fun r27 q27 => ?_)
        subst q27
        refine b_ifne (tgt := 35) C dX4_sure_30 (by decide) (fun c30 => ?_) (fun c30 => ?_)
        · skip
          obtain ⟨⟨⟨⟨gi, gu⟩, gv⟩, guv⟩, gt⟩ : (((inR i 0 3 = true ∧ inR u 0 5 = true) ∧ inR v 0 5 = true) ∧ ¬ u = v) ∧ inR t 1 16 = true := by simpa only [canPairB, Bool.and_eq_true, decide_eq_true_eq] using c8
          obtain ⟨i1, hi1, rfl⟩ := inR_nI (hi := 3) gi
          obtain ⟨t1, ht0, ht1, rfl⟩ := inR1_nI (hi := 16) gt
          have ei : (nI i1).toNatClampNeg = i1 := nI_clamp (by omega)
          have et : (nI t1).toNatClampNeg = t1 := nI_clamp (by omega)
          have hgm : inR mm 1 1000 = true := inR_iff.mpr (by simp only [fa_lt, fa_le, li_1, li_1000] at c14 c22; omega)
          refine lv_aload_n hx hb dX4_sure_35 rfl (lv_at hl 0 rfl) ?_
          refine lv_iload_n hx hb dX4_sure_36 rfl (lv_at hl 1 rfl) ?_
          refine lv_iload_n hx hb dX4_sure_37 rfl (lv_at hl 2 rfl) ?_
          refine lv_iload_n hx hb dX4_sure_38 rfl (lv_at hl 3 rfl) ?_
          refine lv_iload hx hb dX4_sure_39 (lv_at hl 4 rfl) ?_
          refine lv_iload hx hb dX4_sure_41 (lv_at hl 5 rfl) ?_
          refine lv_i2l (v := (mm).toInt64) hx hb dX4_sure_43 rfl ?_
          refine lv_iload hx hb dX4_sure_44 (lv_at hl 6 rfl) ?_
          refine lv_i2l (v := (r).toInt64) hx hb dX4_sure_46 rfl ?_
          refine lv_lmul hx hb dX4_sure_47 ?_
          refine k_i (c_V (As := [.int (nI (i1)), .int (u), .int (v), .int (nI (t1)), .long (((mm).toInt64) * ((r).toInt64))]) (rest := []) C v_X4_191 (c4_judge l g b Z τ hT i1 (u) (v) t1 (((mm).toInt64) * ((r).toInt64)) (by omega) (by omega)) ⟨Nat.le_of_ble_eq_true rfl, Nat.le_of_ble_eq_true rfl⟩ (q_recv C hP 0 rfl rfl) (hBk) hl.1 rfl rfl (Nat.le_of_ble_eq_true rfl) dX4_sure_48 ⟨Nat.le_of_ble_eq_true rfl, Nat.le_of_ble_eq_true rfl⟩) (fun r48 q48 => ?_)
          subst q48
          exact r_i C hr hlk (by rw [sureT, c8, hgm, c30, ei, et]; rfl) dX4_sure_51
        · skip
          refine lv_iconst (v := (-1)) hx hb dX4_sure_33 (by decide) ?_
          exact r_i C hr hlk (by rw [sureT, c30, Bool.and_false]; rfl) dX4_sure_34
set_option maxHeartbeats 4000000 in
set_option maxRecDepth 100000 in
theorem c4_beatsOthers (l : Launch) (g : GG) (b : Nat → Nat) (Z : Nat → Prop) (τ : TB) (hT : TOK τ) (i v tk : Nat) (y : Int64) (hi : i < 4) (hvb : v ≤ 6) (htk : tk ≤ 16) : Met l yX4_beatsOthers (.code yX4_beatsOthers cX4_beatsOthers 8 (some .boolean) :: wsL_law) ({ frames := 5, cells := 0, slots := 0, locals := 125 } : Room) (mP g [.ref (b 0), .int (nI (i)), .int (nI (v)), .int (nI (tk)), .long (y)] (Bk g b Z τ)) (vp_Si (fun z => z = bI ((List.range (tBnd τ i)).all (fun u => beatB τ i v tk y u)))) 0 0 ((fun _ => False)) := by
  refine mMet (by decide) (Nat.le_of_ble_eq_true rfl) ?_
  intro p e s m below meth c C hr hlk hnm hP ls hl
  have hx := C.1.1
  have hb := C.1.2.1
  have hl : lv_has ls 8 [(0, .ref (b 0)), (1, .int (nI (i))), (2, .int (nI (v))), (3, .int (nI (tk))), (4, .long (y))] := hl
  have hBk := hP
  obtain ⟨cad, rad, ⟨nf, fc, fb, d, fr, f1, f2, ff, hB, hP⟩, hF⟩ := hP
  have hW : WorldAt g (tDat τ) (tClk τ) (b 3) s.heap := ⟨b 4, d, hB.2.2.1, hP.sub [3, 4] rfl⟩
  have hb6 := (hT.2.1 i hi).2
  have h40 := hT.2.2.1
  refine lv_aload_n hx hb dX4_beatsOthers_0 rfl (lv_at hl 0 rfl) ?_
  refine lv_iload_n hx hb dX4_beatsOthers_1 rfl (lv_at hl 1 rfl) ?_
  refine k_i (c_V (As := [.int (nI (i))]) (rest := []) C v_X4_198 (c4_boundOf l g b τ hT nf fc fb d fr f1 f2 ff cad rad hB i (by omega)) ⟨Nat.le_of_ble_eq_true rfl, Nat.le_of_ble_eq_true rfl⟩ (q_recv C hP 0 rfl rfl) (hP) hl.1 rfl rfl (Nat.le_of_ble_eq_true rfl) dX4_beatsOthers_2 ⟨Nat.le_of_ble_eq_true rfl, Nat.le_of_ble_eq_true rfl⟩) (fun r2 q2 => ?_)
  subst q2
  refine lv_istore (lv' := [(6, .int (nI (tBnd τ i))), (0, .ref (b 0)), (1, .int (nI (i))), (2, .int (nI (v))), (3, .int (nI (tk))), (4, .long (y))]) hx hb dX4_beatsOthers_5 hl (by decide) rfl (fun ls hl => ?_)
  refine lv_iconst (v := nI 0) hx hb dX4_beatsOthers_7 (by decide) ?_
  refine lv_istore (lv' := [(7, .int (nI (0))), (6, .int (nI (tBnd τ i))), (0, .ref (b 0)), (1, .int (nI (i))), (2, .int (nI (v))), (3, .int (nI (tk))), (4, .long (y))]) hx hb dX4_beatsOthers_8 hl (by decide) rfl (fun ls hl => ?_)
  have lp : ∀ (n_lp : Nat) (u : Nat) (ls : Array Slot), (u ≤ tBnd τ i) → (tBnd τ i + 1 ≤ u + n_lp) → (∀ j, j < u → (beatB τ i v tk y j) = true) → lv_has ls 8 [(0, .ref (b 0)), (1, .int (nI (i))), (2, .int (nI (v))), (3, .int (nI (tk))), (4, .long (y)), (6, .int (nI (tBnd τ i))), (7, .int (nI (u)))] → W p l e ({ frames := 5, cells := 0, slots := 0, locals := 125 } : Room) s m ([.ref (b 0), .int (nI (i)), .int (nI (v)), .int (nI (tk)), .long (y)] : List Value).toArray below meth c s.heap [] 0 0 (MQ below (vp_Si (fun z => z = bI ((List.range (tBnd τ i)).all (fun u => beatB τ i v tk y u)))) (([.ref (b 0), .int (nI (i)), .int (nI (v)), .int (nI (tk)), .long (y)] : List Value).toArray) s 0 0 ((fun _ => False))) (F0 m 10 ls []) := by
    intro n_lp
    induction n_lp with
    | zero =>
      intro u ls huN hn hg
      exact absurd hn (by omega)
    | succ n_lp ih_lp =>
      intro u ls huN hn hg hl
      refine lv_iload hx hb dX4_beatsOthers_10 (lv_at hl 6 rfl) ?_
      refine lv_iload hx hb dX4_beatsOthers_12 (lv_at hl 5 rfl) ?_
      refine n_icmp_ge (tgt := 46) C (by omega) (by omega) dX4_beatsOthers_14 (by decide) (fun c14 => ?_) (fun c14 => ?_)
      · skip
        refine lv_iconst (v := 1) hx hb dX4_beatsOthers_46 (by decide) ?_
        exact r_z C hr hlk (by first | exact Or.inl rfl | exact Or.inr rfl | exact bI_or _) (bit1 (allR.mpr (fun j hj => hg j (by omega)))) dX4_beatsOthers_47
      · skip
        refine lv_iload hx hb dX4_beatsOthers_17 (lv_at hl 6 rfl) ?_
        refine lv_iload_n hx hb dX4_beatsOthers_19 rfl (lv_at hl 2 rfl) ?_
        refine n_icmp_eq (tgt := 40) C (by omega) (by omega) dX4_beatsOthers_20 (by decide) (fun c20 => ?_) (fun c20 => ?_)
        · skip
          refine n_iinc (d := 1) (lv' := [(7, .int (nI (u + 1))), (0, .ref (b 0)), (1, .int (nI (i))), (2, .int (nI (v))), (3, .int (nI (tk))), (4, .long (y)), (6, .int (nI (tBnd τ i)))]) C dX4_beatsOthers_40 (by decide) hl (k := 6) rfl (by decide) rfl (fun ls hl => ?_)
          refine lv_goto (tgt := 10) hx hb dX4_beatsOthers_43 (by decide) ?_
          exact ih_lp (u + 1) ls (by omega) (by omega) (lt_s1 hg (by rw [beatB, decide_eq_true c20, Bool.true_or])) (lv_sub hl [1, 2, 3, 4, 5, 6, 0] rfl)
        · skip
          refine lv_aload_n hx hb dX4_beatsOthers_23 rfl (lv_at hl 0 rfl) ?_
          refine lv_iload_n hx hb dX4_beatsOthers_24 rfl (lv_at hl 1 rfl) ?_
          refine lv_iload hx hb dX4_beatsOthers_25 (lv_at hl 6 rfl) ?_
          refine lv_iload_n hx hb dX4_beatsOthers_27 rfl (lv_at hl 2 rfl) ?_
          refine lv_iload_n hx hb dX4_beatsOthers_28 rfl (lv_at hl 3 rfl) ?_
          refine lv_lload hx hb dX4_beatsOthers_29 (lv_at hl 4 rfl) ?_
          refine k_i (c_V (As := [.int (nI (i)), .int (nI (u)), .int (nI (v)), .int (nI (tk)), .long (y)]) (rest := []) C v_X4_191 (c4_judge l g b Z τ hT i (nI (u)) (nI (v)) tk (y) (by omega) (by omega)) ⟨Nat.le_of_ble_eq_true rfl, Nat.le_of_ble_eq_true rfl⟩ (q_recv C hP 0 rfl rfl) (hBk) hl.1 rfl rfl (Nat.le_of_ble_eq_true rfl) dX4_beatsOthers_31 ⟨Nat.le_of_ble_eq_true rfl, Nat.le_of_ble_eq_true rfl⟩) (fun r31 q31 => ?_)
          subst q31
          refine lv_iconst (v := 1) hx hb dX4_beatsOthers_34 (by decide) ?_
          refine lv_icmp_eq (tgt := 40) hx hb dX4_beatsOthers_35 (by decide) (fun c35 => ?_) (fun c35 => ?_)
          · skip
            refine n_iinc (d := 1) (lv' := [(7, .int (nI (u + 1))), (0, .ref (b 0)), (1, .int (nI (i))), (2, .int (nI (v))), (3, .int (nI (tk))), (4, .long (y)), (6, .int (nI (tBnd τ i)))]) C dX4_beatsOthers_40 (by decide) hl (k := 6) rfl (by decide) rfl (fun ls hl => ?_)
            refine lv_goto (tgt := 10) hx hb dX4_beatsOthers_43 (by decide) ?_
            exact ih_lp (u + 1) ls (by omega) (by omega) (lt_s1 hg (by rw [beatB, decide_eq_true c35, Bool.or_true])) (lv_sub hl [1, 2, 3, 4, 5, 6, 0] rfl)
          · skip
            refine lv_iconst (v := 0) hx hb dX4_beatsOthers_38 (by decide) ?_
            exact r_z C hr hlk (by first | exact Or.inl rfl | exact Or.inr rfl | exact bI_or _) (bif0 (allRf (i := u) (by omega) (by rw [beatB, decide_eq_false c20, decide_eq_false c35]; rfl))) dX4_beatsOthers_39
  exact lp (tBnd τ i + 1) (0) ls (by omega) (by omega) (fun j hj => absurd hj (by omega)) (lv_sub hl [2, 3, 4, 5, 6, 1, 0] rfl)
set_option maxHeartbeats 4000000 in
set_option maxRecDepth 100000 in
theorem c4_best (l : Launch) (g : GG) (b : Nat → Nat) (Z : Nat → Prop) (τ : TB) (hT : TOK τ) (i t r : Int32) : Met l yX4_best (.code yX4_best cX4_best 8 (some .int) :: wsL_law) ({ frames := 6, cells := 0, slots := 0, locals := 152 } : Room) (mP g [.ref (b 0), .int (i), .int (t), .int (r)] (Bk g b Z τ)) (vp_Si (fun z => z = bestT τ i t r)) 0 0 ((fun _ => False)) := by
  refine mMet (by decide) (Nat.le_of_ble_eq_true rfl) ?_
  intro p e s m below meth c C hr hlk hnm hP ls hl
  have hx := C.1.1
  have hb := C.1.2.1
  have hl : lv_has ls 8 [(0, .ref (b 0)), (1, .int (i)), (2, .int (t)), (3, .int (r))] := hl
  have hBk := hP
  obtain ⟨cad, rad, ⟨nf, fc, fb, d, fr, f1, f2, ff, hB, hP⟩, hF⟩ := hP
  have hW : WorldAt g (tDat τ) (tClk τ) (b 3) s.heap := ⟨b 4, d, hB.2.2.1, hP.sub [3, 4] rfl⟩
  have h40 := hT.2.2.1
  refine lv_iload_n hx hb dX4_best_0 rfl (lv_at hl 1 rfl) ?_
  refine k_i (c_S (As := [.int (i)]) (rest := []) C v_X4_195 (c4_isSetting l g (i)) ⟨Nat.le_of_ble_eq_true rfl, Nat.le_of_ble_eq_true rfl⟩ (trivial) hl.1 rfl rfl (Nat.le_of_ble_eq_true rfl) dX4_best_1 ⟨Nat.le_of_ble_eq_true rfl, Nat.le_of_ble_eq_true rfl⟩) (fun r1 q1 => ?_)
  subst q1
  refine b_ifeq (tgt := 21) C dX4_best_4 (by decide) (fun c4 => ?_) (fun c4 => ?_)
  · skip
    refine lv_iconst (v := (-1)) hx hb dX4_best_21 (by decide) ?_
    exact r_i C hr hlk (by rw [bestT, c4]; rfl) dX4_best_22
  · skip
    refine lv_iload_n hx hb dX4_best_7 rfl (lv_at hl 2 rfl) ?_
    refine k_i (c_S (As := [.int (t)]) (rest := []) C v_X4_59 (c4_areTicks l g (t)) ⟨Nat.le_of_ble_eq_true rfl, Nat.le_of_ble_eq_true rfl⟩ (trivial) hl.1 rfl rfl (Nat.le_of_ble_eq_true rfl) dX4_best_8 ⟨Nat.le_of_ble_eq_true rfl, Nat.le_of_ble_eq_true rfl⟩) (fun r8 q8 => ?_)
    subst q8
    refine b_ifeq (tgt := 21) C dX4_best_11 (by decide) (fun c11 => ?_) (fun c11 => ?_)
    · skip
      refine lv_iconst (v := (-1)) hx hb dX4_best_21 (by decide) ?_
      exact r_i C hr hlk (by rw [bestT, c11, Bool.and_false]; rfl) dX4_best_22
    · skip
      refine lv_iload_n hx hb dX4_best_14 rfl (lv_at hl 3 rfl) ?_
      refine k_i (c_S (As := [.int (r)]) (rest := []) C v_X4_188 (c4_areOdds l g (r)) ⟨Nat.le_of_ble_eq_true rfl, Nat.le_of_ble_eq_true rfl⟩ (trivial) hl.1 rfl rfl (Nat.le_of_ble_eq_true rfl) dX4_best_15 ⟨Nat.le_of_ble_eq_true rfl, Nat.le_of_ble_eq_true rfl⟩) (fun r15 q15 => ?_)
      subst q15
      refine b_ifne (tgt := 23) C dX4_best_18 (by decide) (fun c18 => ?_) (fun c18 => ?_)
      · skip
        obtain ⟨i1, hi1, rfl⟩ := inR_nI (hi := 3) c4
        obtain ⟨t1, ht0, ht1, rfl⟩ := inR1_nI (hi := 16) c11
        have ei : (nI i1).toNatClampNeg = i1 := nI_clamp (by omega)
        have et : (nI t1).toNatClampNeg = t1 := nI_clamp (by omega)
        have hb6 := (hT.2.1 i1 (by omega)).2
        refine lv_aload_n hx hb dX4_best_23 rfl (lv_at hl 0 rfl) ?_
        refine lv_iload_n hx hb dX4_best_24 rfl (lv_at hl 1 rfl) ?_
        refine k_i (c_V (As := [.int (nI (i1))]) (rest := []) C v_X4_198 (c4_boundOf l g b τ hT nf fc fb d fr f1 f2 ff cad rad hB i1 (by omega)) ⟨Nat.le_of_ble_eq_true rfl, Nat.le_of_ble_eq_true rfl⟩ (q_recv C hP 0 rfl rfl) (hP) hl.1 rfl rfl (Nat.le_of_ble_eq_true rfl) dX4_best_25 ⟨Nat.le_of_ble_eq_true rfl, Nat.le_of_ble_eq_true rfl⟩) (fun r25 q25 => ?_)
        subst q25
        refine lv_istore (lv' := [(4, .int (nI (tBnd τ i1))), (0, .ref (b 0)), (1, .int (nI (i1))), (2, .int (nI (t1))), (3, .int (r))]) hx hb dX4_best_28 hl (by decide) rfl (fun ls hl => ?_)
        refine lv_iload hx hb dX4_best_30 (lv_at hl 0 rfl) ?_
        refine lv_iconst (v := nI 2) hx hb dX4_best_32 (by decide) ?_
        refine n_icmp_ge (tgt := 38) C (by omega) (by omega) dX4_best_33 (by decide) (fun c33 => ?_) (fun c33 => ?_)
        · skip
          obtain ⟨Y, hY⟩ : ∃ Y : Int32, Y = fstI (fun v => bestB τ i1 t1 r v) (tBnd τ i1) 0 := ⟨_, rfl⟩
          have eT : bestT τ (nI i1) (nI t1) r = Y := by rw [bestT, c4, c11, c18, ei, decide_eq_true c33, et, hY]; rfl
          refine lv_iload hx hb dX4_best_38 (lv_at hl 0 rfl) ?_
          refine lv_i2l (v := (nI (tBnd τ i1)).toInt64) hx hb dX4_best_40 rfl ?_
          refine lv_iload hx hb dX4_best_41 (lv_at hl 0 rfl) ?_
          refine lv_iconst (v := nI 1) hx hb dX4_best_43 (by decide) ?_
          refine n_isub C (by omega) dX4_best_44 ?_
          refine lv_i2l (v := (nI ((tBnd τ i1) - 1)).toInt64) hx hb dX4_best_45 rfl ?_
          refine lv_lmul hx hb dX4_best_46 ?_
          refine lv_iload_n hx hb dX4_best_47 rfl (lv_at hl 4 rfl) ?_
          refine lv_i2l (v := (r).toInt64) hx hb dX4_best_48 rfl ?_
          refine lv_lmul hx hb dX4_best_49 ?_
          refine w_topl (y := ((nI (tBnd τ i1)).toInt64 * (nI (tBnd τ i1 - 1)).toInt64) * r.toInt64) (rfl) ?_
          refine lv_lstore (lv' := [(5, .long (((nI (tBnd τ i1)).toInt64 * (nI (tBnd τ i1 - 1)).toInt64) * r.toInt64)), (4, .int (nI (tBnd τ i1))), (0, .ref (b 0)), (1, .int (nI (i1))), (2, .int (nI (t1))), (3, .int (r))]) hx hb dX4_best_50 hl (by decide) rfl (fun ls hl => ?_)
          refine lv_iconst (v := nI 0) hx hb dX4_best_52 (by decide) ?_
          refine lv_istore (lv' := [(7, .int (nI (0))), (5, .long (((nI (tBnd τ i1)).toInt64 * (nI (tBnd τ i1 - 1)).toInt64) * r.toInt64)), (4, .int (nI (tBnd τ i1))), (0, .ref (b 0)), (1, .int (nI (i1))), (2, .int (nI (t1))), (3, .int (r))]) hx hb dX4_best_53 hl (by decide) rfl (fun ls hl => ?_)
          have lp : ∀ (n_lp : Nat) (x : Nat) (ls : Array Slot), (x ≤ tBnd τ i1) → (tBnd τ i1 + 1 ≤ x + n_lp) → (Y = fstI (fun v => bestB τ i1 t1 r v) (tBnd τ i1 - x) x) → lv_has ls 8 [(0, .ref (b 0)), (1, .int (nI (i1))), (2, .int (nI (t1))), (3, .int (r)), (4, .int (nI (tBnd τ i1))), (5, .long (((nI (tBnd τ i1)).toInt64 * (nI (tBnd τ i1 - 1)).toInt64) * r.toInt64)), (7, .int (nI (x)))] → W p l e ({ frames := 6, cells := 0, slots := 0, locals := 152 } : Room) s m ([.ref (b 0), .int (nI (i1)), .int (nI (t1)), .int (r)] : List Value).toArray below meth c s.heap [] 0 0 (MQ below (vp_Si (fun z => z = bestT τ (nI i1) (nI t1) r)) (([.ref (b 0), .int (nI (i1)), .int (nI (t1)), .int (r)] : List Value).toArray) s 0 0 ((fun _ => False))) (F0 m 55 ls []) := by
            intro n_lp
            induction n_lp with
            | zero =>
              intro x ls hxN hn hz
              exact absurd hn (by omega)
            | succ n_lp ih_lp =>
              intro x ls hxN hn hz hl
              refine lv_iload hx hb dX4_best_55 (lv_at hl 6 rfl) ?_
              refine lv_iload hx hb dX4_best_57 (lv_at hl 4 rfl) ?_
              refine n_icmp_ge (tgt := 84) C (by omega) (by omega) dX4_best_59 (by decide) (fun c59 => ?_) (fun c59 => ?_)
              · skip
                refine lv_iconst (v := (-1)) hx hb dX4_best_84 (by decide) ?_
                exact r_i C hr hlk (by rw [eT]; exact fst_end hz c59) dX4_best_85
              · skip
                refine lv_aload_n hx hb dX4_best_62 rfl (lv_at hl 0 rfl) ?_
                refine lv_iload_n hx hb dX4_best_63 rfl (lv_at hl 1 rfl) ?_
                refine lv_iload hx hb dX4_best_64 (lv_at hl 6 rfl) ?_
                refine lv_iload_n hx hb dX4_best_66 rfl (lv_at hl 2 rfl) ?_
                refine lv_lload hx hb dX4_best_67 (lv_at hl 5 rfl) ?_
                refine k_i (c_V (As := [.int (nI (i1)), .int (nI (x)), .int (nI (t1)), .long (((nI (tBnd τ i1)).toInt64 * (nI (tBnd τ i1 - 1)).toInt64) * r.toInt64)]) (rest := []) C v_X4_201 (c4_beatsOthers l g b Z τ hT i1 x t1 (((nI (tBnd τ i1)).toInt64 * (nI (tBnd τ i1 - 1)).toInt64) * r.toInt64) (by omega) (by omega) (by omega)) ⟨Nat.le_of_ble_eq_true rfl, Nat.le_of_ble_eq_true rfl⟩ (q_recv C hP 0 rfl rfl) (hBk) hl.1 rfl rfl (Nat.le_of_ble_eq_true rfl) dX4_best_69 ⟨Nat.le_of_ble_eq_true rfl, Nat.le_of_ble_eq_true rfl⟩) (fun r69 q69 => ?_)
                subst q69
                refine b_ifeq (tgt := 78) C dX4_best_72 (by decide) (fun c72 => ?_) (fun c72 => ?_)
                · skip
                  refine n_iinc (d := 1) (lv' := [(7, .int (nI (x + 1))), (0, .ref (b 0)), (1, .int (nI (i1))), (2, .int (nI (t1))), (3, .int (r)), (4, .int (nI (tBnd τ i1))), (5, .long (((nI (tBnd τ i1)).toInt64 * (nI (tBnd τ i1 - 1)).toInt64) * r.toInt64))]) C dX4_best_78 (by decide) hl (k := 6) rfl (by decide) rfl (fun ls hl => ?_)
                  refine lv_goto (tgt := 55) hx hb dX4_best_81 (by decide) ?_
                  exact ih_lp (x + 1) ls (by omega) (by omega) (fst_no hz c59 c72) (lv_sub hl [1, 2, 3, 4, 5, 6, 0] rfl)
                · skip
                  refine lv_iload hx hb dX4_best_75 (lv_at hl 6 rfl) ?_
                  exact r_i C hr hlk (by rw [eT]; exact fst_yes hz c59 c72) dX4_best_77
          exact lp (tBnd τ i1 + 1) (0) ls (by omega) (by omega) (hY) (lv_sub hl [3, 4, 5, 6, 2, 1, 0] rfl)
        · skip
          refine lv_iconst (v := (-1)) hx hb dX4_best_36 (by decide) ?_
          exact r_i C hr hlk (by rw [bestT, c4, c11, c18, ei, decide_eq_false (by omega : ¬ 2 ≤ tBnd τ i1)]; rfl) dX4_best_37
      · skip
        refine lv_iconst (v := (-1)) hx hb dX4_best_21 (by decide) ?_
        exact r_i C hr hlk (by rw [bestT, c18, Bool.and_false]; rfl) dX4_best_22

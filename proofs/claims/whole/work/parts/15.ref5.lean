/-! THE REFERENCE: pairs counted, sure, best, holes -/
theorem sm_le (f : Nat → Nat → Bool) {n : Nat} (h : n ≤ 40) : fb_sm (fun p => fb_ct (f p) n) n ≤ 1600 := by
  have h1 := fb_sm_bound (f := fun p => fb_ct (f p) n) (c := n) (n := n) (fun k _ => fb_ct_le _ _)
  have h2 : n * n ≤ 40 * 40 := Nat.mul_le_mul h h
  omega
theorem pair_may {τ : TB} {i : Nat} {u v : Int32} {tk p q : Nat} (h : pairB τ i u v tk p q = true) : (rBr (tRun τ p) = false ∧ rTk (tRun τ p) = tk) ∧ (rBr (tRun τ q) = false ∧ rTk (tRun τ q) = tk) := by
  simp only [pairB, mayB, Bool.and_eq_true, decide_eq_true_eq, Bool.not_eq_true'] at h
  exact ⟨⟨h.1.1.1.1.1.1.1.1.1.2, h.1.1.1.1.1.1.1.2⟩, ⟨h.1.1.1.1.1.1.2.1.1.2, h.1.1.1.1.1.1.2.2⟩⟩
theorem win_y {τ : TB} {i : Nat} {u v : Int32} {tk p q : Nat} (h : pairB τ i u v tk p q = true) (c : ¬ lastV (tRun τ q) tk ≤ lastV (tRun τ p) tk) : winB τ i u v tk p q = true := by
  simp only [winB, h, Bool.true_and, decide_eq_true_eq]; exact fa_of_nle c
theorem win_n {τ : TB} {i : Nat} {u v : Int32} {tk p q : Nat} (c : lastV (tRun τ q) tk ≤ lastV (tRun τ p) tk) : winB τ i u v tk p q = false := by
  simp only [winB, Bool.and_eq_false_iff, decide_eq_false_iff_not]; exact Or.inr (fun hz => (fa_of_lt hz).2.1 c)
theorem los_y {τ : TB} {i : Nat} {u v : Int32} {tk p q : Nat} (h : pairB τ i u v tk p q = true) (c : ¬ lastV (tRun τ p) tk ≤ lastV (tRun τ q) tk) : losB τ i u v tk p q = true := by
  simp only [losB, h, Bool.true_and, decide_eq_true_eq]; exact fa_of_nle c
theorem los_n {τ : TB} {i : Nat} {u v : Int32} {tk p q : Nat} (c : lastV (tRun τ p) tk ≤ lastV (tRun τ q) tk) : losB τ i u v tk p q = false := by
  simp only [losB, Bool.and_eq_false_iff, decide_eq_false_iff_not]; exact Or.inr (fun hz => (fa_of_lt hz).2.1 c)
theorem nop {τ : TB} {i : Nat} {u v : Int32} {tk p q : Nat} (h : pairB τ i u v tk p q = false) : winB τ i u v tk p q = false ∧ losB τ i u v tk p q = false := by simp [winB, losB, h]
theorem canPair_nI {i u v t : Int32} (h : canPairB i u v t = true) : ∃ a b : Nat, (a < 4 ∧ 1 ≤ b ∧ b ≤ 16) ∧ i = nI a ∧ t = nI b := by
  simp only [canPairB, Bool.and_eq_true] at h
  obtain ⟨a, ha, rfl⟩ := inR_nI (hi := 3) h.1.1.1.1
  obtain ⟨b, hb0, hb1, rfl⟩ := inR1_nI (hi := 16) h.2
  exact ⟨a, b, ⟨by omega, hb0, hb1⟩, rfl, rfl⟩
theorem canHole_nI {k t w : Int32} (h : canHoleB k t w = true) : ∃ a b d : Nat, (a < 4 ∧ 1 ≤ b ∧ b ≤ 16 ∧ 1 ≤ d ∧ d ≤ 8) ∧ k = nI a ∧ t = nI b ∧ w = nI d := by
  simp only [canHoleB, Bool.and_eq_true] at h
  obtain ⟨a, ha, rfl⟩ := inR_nI (hi := 3) h.1.1
  obtain ⟨b, hb0, hb1, rfl⟩ := inR1_nI (hi := 16) h.1.2
  obtain ⟨d, hd0, hd1, rfl⟩ := inR1_nI (hi := 8) h.2
  exact ⟨a, b, d, ⟨by omega, hb0, hb1, hd0, hd1⟩, rfl, rfl, rfl⟩
set_option maxHeartbeats 4000000 in
set_option maxRecDepth 100000 in
theorem c5_findPairs (l : Launch) (g : GG) (h : Nat) (ad : Nat → Nat) (φ : Nat → Int32) (α : Nat → Nat → Int32) (τ : TB) (hR : MdR φ α τ) (hT : TOK τ) (hD : wD (wA g h ad) g h ad) (i tk : Nat) (u v : Int32) (hi : i < 4) (htk0 : 1 ≤ tk) (htk : tk ≤ 16) : Met l yX5_findPairs (.code yX5_findPairs cX5_findPairs 9 none :: wsL_law) ({ frames := 4, cells := 0, slots := 0, locals := 95 } : Room) (mP g [.ref (h), .int (nI (i)), .int (u), .int (v), .int (nI (tk))] (fun H => va_P g.1 vwCl (wM g h ad φ α) H)) (mQ (wA g h ad) (fun z H => z = none ∧ ∃ ψ : Nat → Int32, va_P g.1 vwCl (wM g h ad ψ α) H ∧ ψ 32 = nI (pairsN τ i u v tk) ∧ ψ 33 = nI (winsN τ i u v tk) ∧ ψ 34 = nI (losN τ i u v tk) ∧ ∀ k, k ≠ 32 → k ≠ 33 → k ≠ 34 → ψ k = φ k)) 0 0 (wA g h ad) := by
  refine mMet (by decide) (Nat.le_of_ble_eq_true rfl) ?_
  intro p e s m below meth c C hr hlk hnm hM ls hl
  have hx := C.1.1
  have hb := C.1.2.1
  have hl : lv_has ls 9 [(0, .ref (h)), (1, .int (nI (i))), (2, .int (u)), (3, .int (v)), (4, .int (nI (tk)))] := hl
  have hS : va_S (wA g h ad) s.heap s.heap [] := va_S.rf
  have h40 := hT.2.2.1
  have hrec := q_recv C hM 0 rw_0 rfl
  refine lv_aload_n hx hb dX5_findPairs_0 rfl (lv_at hl 0 rfl) ?_
  refine lv_iconst (v := 0) hx hb dX5_findPairs_1 (by decide) ?_
  refine rp_32 C hM hD hS dX5_findPairs_2 (fun H locs hM hS => ?_)
  refine lv_aload_n hx hb dX5_findPairs_5 rfl (lv_at hl 0 rfl) ?_
  refine lv_iconst (v := 0) hx hb dX5_findPairs_6 (by decide) ?_
  refine rp_33 C hM hD hS dX5_findPairs_7 (fun H locs hM hS => ?_)
  refine lv_aload_n hx hb dX5_findPairs_10 rfl (lv_at hl 0 rfl) ?_
  refine lv_iconst (v := 0) hx hb dX5_findPairs_11 (by decide) ?_
  refine rp_34 C hM hD hS dX5_findPairs_12 (fun H locs hM hS => ?_)
  refine lv_iconst (v := nI 0) hx hb dX5_findPairs_15 (by decide) ?_
  refine lv_istore (lv' := [(5, .int (nI (0))), (0, .ref (h)), (1, .int (nI (i))), (2, .int (u)), (3, .int (v)), (4, .int (nI (tk)))]) hx hb dX5_findPairs_16 hl (by decide) rfl (fun ls hl => ?_)
  have la : ∀ (n_la : Nat) (a : Nat) (ψ : Nat → Int32) (H : Heap) (locs : List Loc) (ls : Array Slot), (a ≤ tN τ) → (tN τ + 1 ≤ a + n_la) → (va_P g.1 vwCl (wM g h ad ψ α) H) → (va_S (wA g h ad) s.heap H locs) → (ψ 32 = nI (cnt2 (fun p q => pairB τ i u v tk p q) (tN τ) a 0)) → (ψ 33 = nI (cnt2 (fun p q => winB τ i u v tk p q) (tN τ) a 0)) → (ψ 34 = nI (cnt2 (fun p q => losB τ i u v tk p q) (tN τ) a 0)) → (∀ k, k ≠ 32 → k ≠ 33 → k ≠ 34 → ψ k = φ k) → lv_has ls 9 [(0, .ref (h)), (1, .int (nI (i))), (2, .int (u)), (3, .int (v)), (4, .int (nI (tk))), (5, .int (nI (a)))] → W p l e ({ frames := 4, cells := 0, slots := 0, locals := 95 } : Room) s m ([.ref (h), .int (nI (i)), .int (u), .int (v), .int (nI (tk))] : List Value).toArray below meth c H locs 0 0 (MQ below (mQ (wA g h ad) (fun z H => z = none ∧ ∃ ψ : Nat → Int32, va_P g.1 vwCl (wM g h ad ψ α) H ∧ ψ 32 = nI (pairsN τ i u v tk) ∧ ψ 33 = nI (winsN τ i u v tk) ∧ ψ 34 = nI (losN τ i u v tk) ∧ ∀ k, k ≠ 32 → k ≠ 33 → k ≠ 34 → ψ k = φ k)) (([.ref (h), .int (nI (i)), .int (u), .int (v), .int (nI (tk))] : List Value).toArray) s 0 0 (wA g h ad)) (F0 m 18 ls []) := by
    intro n_la
    induction n_la with
    | zero =>
      intro a ψ H locs ls ha hnla hM hS e32 e33 e34 hk
      exact absurd hnla (by omega)
    | succ n_la ih_la =>
      intro a ψ H locs ls ha hnla hM hS e32 e33 e34 hk hl
      refine lv_iload hx hb dX5_findPairs_18 (lv_at hl 5 rfl) ?_
      refine lv_aload_n hx hb dX5_findPairs_20 rfl (lv_at hl 0 rfl) ?_
      refine q_get C f_X5_90 hM 0 rw_0 ro_6 dX5_findPairs_21 ?_
      refine w_topi (y := (nI (tN τ))) ((hk 6 (by decide) (by decide) (by decide)).trans hR.n) ?_
      refine n_icmp_ge (tgt := 148) C (by omega) (by omega) dX5_findPairs_24 (by decide) (fun c24 => ?_) (fun c24 => ?_)
      · skip
        exact r_wv C hr hlk hS (⟨rfl, ψ, hM, by rw [e32, show a = tN τ by omega]; rfl, by rw [e33, show a = tN τ by omega]; rfl, by rw [e34, show a = tN τ by omega]; rfl, hk⟩) dX5_findPairs_148
      · skip
        refine lv_iconst (v := nI 0) hx hb dX5_findPairs_27 (by decide) ?_
        refine lv_istore (lv' := [(6, .int (nI (0))), (0, .ref (h)), (1, .int (nI (i))), (2, .int (u)), (3, .int (v)), (4, .int (nI (tk))), (5, .int (nI (a)))]) hx hb dX5_findPairs_28 hl (by decide) rfl (fun ls hl => ?_)
        have lb : ∀ (n_lb : Nat) (b : Nat) (ψ : Nat → Int32) (H : Heap) (locs : List Loc) (ls : Array Slot), (b ≤ tN τ) → (tN τ + 1 ≤ b + n_lb) → (va_P g.1 vwCl (wM g h ad ψ α) H) → (va_S (wA g h ad) s.heap H locs) → (ψ 32 = nI (cnt2 (fun p q => pairB τ i u v tk p q) (tN τ) a b)) → (ψ 33 = nI (cnt2 (fun p q => winB τ i u v tk p q) (tN τ) a b)) → (ψ 34 = nI (cnt2 (fun p q => losB τ i u v tk p q) (tN τ) a b)) → (∀ k, k ≠ 32 → k ≠ 33 → k ≠ 34 → ψ k = φ k) → lv_has ls 9 [(0, .ref (h)), (1, .int (nI (i))), (2, .int (u)), (3, .int (v)), (4, .int (nI (tk))), (5, .int (nI (a))), (6, .int (nI (b)))] → W p l e ({ frames := 4, cells := 0, slots := 0, locals := 95 } : Room) s m ([.ref (h), .int (nI (i)), .int (u), .int (v), .int (nI (tk))] : List Value).toArray below meth c H locs 0 0 (MQ below (mQ (wA g h ad) (fun z H => z = none ∧ ∃ ψ : Nat → Int32, va_P g.1 vwCl (wM g h ad ψ α) H ∧ ψ 32 = nI (pairsN τ i u v tk) ∧ ψ 33 = nI (winsN τ i u v tk) ∧ ψ 34 = nI (losN τ i u v tk) ∧ ∀ k, k ≠ 32 → k ≠ 33 → k ≠ 34 → ψ k = φ k)) (([.ref (h), .int (nI (i)), .int (u), .int (v), .int (nI (tk))] : List Value).toArray) s 0 0 (wA g h ad)) (F0 m 30 ls []) := by
          intro n_lb
          induction n_lb with
          | zero =>
            intro b ψ H locs ls hb0 hnlb hM hS e32 e33 e34 hk
            exact absurd hnlb (by omega)
          | succ n_lb ih_lb =>
            intro b ψ H locs ls hb0 hnlb hM hS e32 e33 e34 hk hl
            refine lv_iload hx hb dX5_findPairs_30 (lv_at hl 6 rfl) ?_
            refine lv_aload_n hx hb dX5_findPairs_32 rfl (lv_at hl 0 rfl) ?_
            refine q_get C f_X5_90 hM 0 rw_0 ro_6 dX5_findPairs_33 ?_
            refine w_topi (y := (nI (tN τ))) ((hk 6 (by decide) (by decide) (by decide)).trans hR.n) ?_
            refine n_icmp_ge (tgt := 142) C (by omega) (by omega) dX5_findPairs_36 (by decide) (fun c36 => ?_) (fun c36 => ?_)
            · skip
              refine n_iinc (d := 1) (lv' := [(5, .int (nI (a + 1))), (0, .ref (h)), (1, .int (nI (i))), (2, .int (u)), (3, .int (v)), (4, .int (nI (tk))), (6, .int (nI (b)))]) C dX5_findPairs_142 (by decide) hl (k := 5) rfl (by decide) rfl (fun ls hl => ?_)
              refine lv_goto (tgt := 18) hx hb dX5_findPairs_145 (by decide) ?_
              exact ih_la (a + 1) (ψ) (H) (locs) ls (by omega) (by omega) (hM) (hS) (by rw [e32, show b = tN τ by omega, cnt2_row]) (by rw [e33, show b = tN τ by omega, cnt2_row]) (by rw [e34, show b = tN τ by omega, cnt2_row]) (hk) (lv_sub hl [1, 2, 3, 4, 5, 0] rfl)
            · skip
              refine lv_aload_n hx hb dX5_findPairs_39 rfl (lv_at hl 0 rfl) ?_
              refine lv_iload hx hb dX5_findPairs_40 (lv_at hl 5 rfl) ?_
              refine lv_iload hx hb dX5_findPairs_42 (lv_at hl 6 rfl) ?_
              refine lv_iload_n hx hb dX5_findPairs_44 rfl (lv_at hl 1 rfl) ?_
              refine lv_iload_n hx hb dX5_findPairs_45 rfl (lv_at hl 2 rfl) ?_
              refine lv_iload_n hx hb dX5_findPairs_46 rfl (lv_at hl 3 rfl) ?_
              refine lv_iload hx hb dX5_findPairs_47 (lv_at hl 4 rfl) ?_
              refine k_i (c_V (As := [.int (nI (a)), .int (nI (b)), .int (nI (i)), .int (u), .int (v), .int (nI (tk))]) (rest := []) C v_X5_180 (c5_isPair l g h ad ψ α τ (hR.phi (hk 5 (by decide) (by decide) (by decide)) (hk 6 (by decide) (by decide) (by decide)) (hk 35 (by decide) (by decide) (by decide))) hT a b i (u) (v) tk (by omega) (by omega) (by omega) (by omega)) ⟨Nat.le_of_ble_eq_true rfl, Nat.le_of_ble_eq_true rfl⟩ (q_recv C hM 0 rw_0 rfl) (hM) hl.1 rfl rfl (Nat.le_of_ble_eq_true rfl) dX5_findPairs_49 ⟨Nat.le_of_ble_eq_true rfl, Nat.le_of_ble_eq_true rfl⟩) (fun r49 q49 => ?_)
              subst q49
              refine b_ifne (tgt := 58) C dX5_findPairs_52 (by decide) (fun c52 => ?_) (fun c52 => ?_)
              · skip
                have R_a := hR.run c24
                have T_a := hT.2.2.2.1 a c24
                have BC_a := T_a.1
                have BL_a := T_a.2.1
                have BT0_a := T_a.2.2.2.2.2.1
                have BT_a := T_a.2.2.2.2.2.2.1
                have BR_a := T_a.2.2.2.2.2.2.2.1
                have BQ_a : ∀ jq, jq < (rStp (tRun τ a)).length → (rStp (tRun τ a)).getD jq 0 < 256 := fun jq hj => T_a.2.2.1 _ (getD_mem hj)
                have R_b := hR.run c36
                have T_b := hT.2.2.2.1 b c36
                have BC_b := T_b.1
                have BL_b := T_b.2.1
                have BT0_b := T_b.2.2.2.2.2.1
                have BT_b := T_b.2.2.2.2.2.2.1
                have BR_b := T_b.2.2.2.2.2.2.2.1
                have BQ_b : ∀ jq, jq < (rStp (tRun τ b)).length → (rStp (tRun τ b)).getD jq 0 < 256 := fun jq hj => T_b.2.2.1 _ (getD_mem hj)
                have pm := pair_may c52
                have la1 : (rRow (tRun τ a)).length = tk := (T_a.2.2.2.2.2.2.2.2.1 pm.1.1).trans pm.1.2
                have lb1 : (rRow (tRun τ b)).length = tk := (T_b.2.2.2.2.2.2.2.2.1 pm.2.1).trans pm.2.2
                refine lv_aload_n hx hb dX5_findPairs_58 rfl (lv_at hl 0 rfl) ?_
                refine lv_aload_n hx hb dX5_findPairs_59 rfl (lv_at hl 0 rfl) ?_
                refine q_get C f_X5_171 hM 0 rw_0 ro_32 dX5_findPairs_60 ?_
                refine w_topi (y := (nI (cnt2 (fun p q => pairB τ i u v tk p q) (tN τ) a b))) (e32) ?_
                have bb := cnt2_le (fun p q => pairB τ i u v tk p q) (n := tN τ) (p := a) (q := b) (by omega) (by omega)
                refine lv_iconst (v := nI 1) hx hb dX5_findPairs_63 (by decide) ?_
                refine n_iadd C dX5_findPairs_64 ?_
                refine rp_32 C hM hD hS dX5_findPairs_65 (fun H locs hM hS => ?_)
                refine lv_aload_n hx hb dX5_findPairs_68 rfl (lv_at hl 0 rfl) ?_
                refine q_get C f_X5_43 hM 0 rw_0 ro_14 dX5_findPairs_69 ?_
                refine lv_bipush (v := nI 16) hx hb dX5_findPairs_72 (by decide) ?_
                refine lv_iload hx hb dX5_findPairs_74 (lv_at hl 5 rfl) ?_
                refine n_imul C dX5_findPairs_76 ?_
                refine lv_iload hx hb dX5_findPairs_77 (lv_at hl 4 rfl) ?_
                refine n_iadd C dX5_findPairs_79 ?_
                refine lv_iconst (v := nI 1) hx hb dX5_findPairs_80 (by decide) ?_
                refine n_isub C (by omega) dX5_findPairs_81 ?_
                refine n_iald C hM 12 rw_14 (by omega) (by decide) dX5_findPairs_82 ?_
                refine w_topi (y := (lastV (tRun τ a) tk)) (by rw [show 16 * a + tk - 1 = 16 * a + (tk - 1) by omega]; exact R_a.row (by omega)) ?_
                refine lv_istore (lv' := [(7, .int (lastV (tRun τ a) tk)), (0, .ref (h)), (1, .int (nI (i))), (2, .int (u)), (3, .int (v)), (4, .int (nI (tk))), (5, .int (nI (a))), (6, .int (nI (b)))]) hx hb dX5_findPairs_83 hl (by decide) rfl (fun ls hl => ?_)
                refine lv_aload_n hx hb dX5_findPairs_85 rfl (lv_at hl 1 rfl) ?_
                refine q_get C f_X5_43 hM 0 rw_0 ro_14 dX5_findPairs_86 ?_
                refine lv_bipush (v := nI 16) hx hb dX5_findPairs_89 (by decide) ?_
                refine lv_iload hx hb dX5_findPairs_91 (lv_at hl 7 rfl) ?_
                refine n_imul C dX5_findPairs_93 ?_
                refine lv_iload hx hb dX5_findPairs_94 (lv_at hl 5 rfl) ?_
                refine n_iadd C dX5_findPairs_96 ?_
                refine lv_iconst (v := nI 1) hx hb dX5_findPairs_97 (by decide) ?_
                refine n_isub C (by omega) dX5_findPairs_98 ?_
                refine n_iald C hM 12 rw_14 (by omega) (by decide) dX5_findPairs_99 ?_
                refine w_topi (y := (lastV (tRun τ b) tk)) (by rw [show 16 * b + tk - 1 = 16 * b + (tk - 1) by omega]; exact R_b.row (by omega)) ?_
                refine lv_istore (lv' := [(8, .int (lastV (tRun τ b) tk)), (7, .int (lastV (tRun τ a) tk)), (0, .ref (h)), (1, .int (nI (i))), (2, .int (u)), (3, .int (v)), (4, .int (nI (tk))), (5, .int (nI (a))), (6, .int (nI (b)))]) hx hb dX5_findPairs_100 hl (by decide) rfl (fun ls hl => ?_)
                refine lv_iload hx hb dX5_findPairs_102 (lv_at hl 0 rfl) ?_
                refine lv_iload hx hb dX5_findPairs_104 (lv_at hl 1 rfl) ?_
                refine lv_icmp_le (tgt := 119) hx hb dX5_findPairs_106 (by decide) (fun c106 => ?_) (fun c106 => ?_)
                · skip
                  refine lv_iload hx hb dX5_findPairs_119 (lv_at hl 0 rfl) ?_
                  refine lv_iload hx hb dX5_findPairs_121 (lv_at hl 1 rfl) ?_
                  refine lv_icmp_ge (tgt := 136) hx hb dX5_findPairs_123 (by decide) (fun c123 => ?_) (fun c123 => ?_)
                  · skip
                    refine n_iinc (d := 1) (lv' := [(6, .int (nI (b + 1))), (8, .int (lastV (tRun τ b) tk)), (7, .int (lastV (tRun τ a) tk)), (0, .ref (h)), (1, .int (nI (i))), (2, .int (u)), (3, .int (v)), (4, .int (nI (tk))), (5, .int (nI (a)))]) C dX5_findPairs_136 (by decide) hl (k := 8) rfl (by decide) rfl (fun ls hl => ?_)
                    refine lv_goto (tgt := 30) hx hb dX5_findPairs_139 (by decide) ?_
                    exact ih_lb (b + 1) ((upd ψ 32 (nI ((cnt2 (fun p q => pairB τ i u v tk p q) (tN τ) a b) + 1)))) (H) (locs) ls (by omega) (by omega) (hM) (hS) (by show nI _ = nI _; rw [cnt2_yes c52]) (by show ψ 33 = _; rw [e33, cnt2_no (win_n c106)]) (by show ψ 34 = _; rw [e34, cnt2_no (los_n c123)]) (fun k k1 k2 k3 => by simp only [upd, k1, k2, k3, if_false]; exact hk k k1 k2 k3) (lv_sub hl [3, 4, 5, 6, 7, 8, 0] rfl)
                  · skip
                    refine lv_aload_n hx hb dX5_findPairs_126 rfl (lv_at hl 2 rfl) ?_
                    refine lv_aload_n hx hb dX5_findPairs_127 rfl (lv_at hl 2 rfl) ?_
                    refine q_get (v := .int (ψ 34)) C f_X5_177 hM 0 rw_0 rfl dX5_findPairs_128 ?_
                    refine w_topi (y := (nI (cnt2 (fun p q => losB τ i u v tk p q) (tN τ) a b))) (e34) ?_
                    refine lv_iconst (v := nI 1) hx hb dX5_findPairs_131 (by decide) ?_
                    refine n_iadd C dX5_findPairs_132 ?_
                    refine rp_34 C hM hD hS dX5_findPairs_133 (fun H locs hM hS => ?_)
                    refine n_iinc (d := 1) (lv' := [(6, .int (nI (b + 1))), (8, .int (lastV (tRun τ b) tk)), (7, .int (lastV (tRun τ a) tk)), (0, .ref (h)), (1, .int (nI (i))), (2, .int (u)), (3, .int (v)), (4, .int (nI (tk))), (5, .int (nI (a)))]) C dX5_findPairs_136 (by decide) hl (k := 8) rfl (by decide) rfl (fun ls hl => ?_)
                    refine lv_goto (tgt := 30) hx hb dX5_findPairs_139 (by decide) ?_
                    exact ih_lb (b + 1) ((upd (upd ψ 32 (nI ((cnt2 (fun p q => pairB τ i u v tk p q) (tN τ) a b) + 1))) 34 (nI ((cnt2 (fun p q => losB τ i u v tk p q) (tN τ) a b) + 1)))) (H) (locs) ls (by omega) (by omega) (hM) (hS) (by show nI _ = nI _; rw [cnt2_yes c52]) (by show ψ 33 = _; rw [e33, cnt2_no (win_n c106)]) (by show nI _ = nI _; rw [cnt2_yes (los_y c52 c123)]) (fun k k1 k2 k3 => by simp only [upd, k1, k2, k3, if_false]; exact hk k k1 k2 k3) (lv_sub hl [3, 4, 5, 6, 7, 8, 0] rfl)
                · skip
                  refine lv_aload_n hx hb dX5_findPairs_109 rfl (lv_at hl 2 rfl) ?_
                  refine lv_aload_n hx hb dX5_findPairs_110 rfl (lv_at hl 2 rfl) ?_
                  refine q_get (v := .int (ψ 33)) C f_X5_174 hM 0 rw_0 rfl dX5_findPairs_111 ?_
                  refine w_topi (y := (nI (cnt2 (fun p q => winB τ i u v tk p q) (tN τ) a b))) (e33) ?_
                  refine lv_iconst (v := nI 1) hx hb dX5_findPairs_114 (by decide) ?_
                  refine n_iadd C dX5_findPairs_115 ?_
                  refine rp_33 C hM hD hS dX5_findPairs_116 (fun H locs hM hS => ?_)
                  refine lv_iload hx hb dX5_findPairs_119 (lv_at hl 0 rfl) ?_
                  refine lv_iload hx hb dX5_findPairs_121 (lv_at hl 1 rfl) ?_
                  refine lv_icmp_ge (tgt := 136) hx hb dX5_findPairs_123 (by decide) (fun c123 => ?_) (fun c123 => ?_)
                  · skip
                    refine n_iinc (d := 1) (lv' := [(6, .int (nI (b + 1))), (8, .int (lastV (tRun τ b) tk)), (7, .int (lastV (tRun τ a) tk)), (0, .ref (h)), (1, .int (nI (i))), (2, .int (u)), (3, .int (v)), (4, .int (nI (tk))), (5, .int (nI (a)))]) C dX5_findPairs_136 (by decide) hl (k := 8) rfl (by decide) rfl (fun ls hl => ?_)
                    refine lv_goto (tgt := 30) hx hb dX5_findPairs_139 (by decide) ?_
                    exact ih_lb (b + 1) ((upd (upd ψ 32 (nI ((cnt2 (fun p q => pairB τ i u v tk p q) (tN τ) a b) + 1))) 33 (nI ((cnt2 (fun p q => winB τ i u v tk p q) (tN τ) a b) + 1)))) (H) (locs) ls (by omega) (by omega) (hM) (hS) (by show nI _ = nI _; rw [cnt2_yes c52]) (by show nI _ = nI _; rw [cnt2_yes (win_y c52 c106)]) (by show ψ 34 = _; rw [e34, cnt2_no (los_n c123)]) (fun k k1 k2 k3 => by simp only [upd, k1, k2, k3, if_false]; exact hk k k1 k2 k3) (lv_sub hl [3, 4, 5, 6, 7, 8, 0] rfl)
                  · skip
                    refine lv_aload_n hx hb dX5_findPairs_126 rfl (lv_at hl 2 rfl) ?_
                    refine lv_aload_n hx hb dX5_findPairs_127 rfl (lv_at hl 2 rfl) ?_
                    refine q_get (v := .int (ψ 34)) C f_X5_177 hM 0 rw_0 rfl dX5_findPairs_128 ?_
                    refine w_topi (y := (nI (cnt2 (fun p q => losB τ i u v tk p q) (tN τ) a b))) (e34) ?_
                    refine lv_iconst (v := nI 1) hx hb dX5_findPairs_131 (by decide) ?_
                    refine n_iadd C dX5_findPairs_132 ?_
                    refine rp_34 C hM hD hS dX5_findPairs_133 (fun H locs hM hS => ?_)
                    refine n_iinc (d := 1) (lv' := [(6, .int (nI (b + 1))), (8, .int (lastV (tRun τ b) tk)), (7, .int (lastV (tRun τ a) tk)), (0, .ref (h)), (1, .int (nI (i))), (2, .int (u)), (3, .int (v)), (4, .int (nI (tk))), (5, .int (nI (a)))]) C dX5_findPairs_136 (by decide) hl (k := 8) rfl (by decide) rfl (fun ls hl => ?_)
                    refine lv_goto (tgt := 30) hx hb dX5_findPairs_139 (by decide) ?_
                    exact ih_lb (b + 1) ((upd (upd (upd ψ 32 (nI ((cnt2 (fun p q => pairB τ i u v tk p q) (tN τ) a b) + 1))) 33 (nI ((cnt2 (fun p q => winB τ i u v tk p q) (tN τ) a b) + 1))) 34 (nI ((cnt2 (fun p q => losB τ i u v tk p q) (tN τ) a b) + 1)))) (H) (locs) ls (by omega) (by omega) (hM) (hS) (by show nI _ = nI _; rw [cnt2_yes c52]) (by show nI _ = nI _; rw [cnt2_yes (win_y c52 c106)]) (by show nI _ = nI _; rw [cnt2_yes (los_y c52 c123)]) (fun k k1 k2 k3 => by simp only [upd, k1, k2, k3, if_false]; exact hk k k1 k2 k3) (lv_sub hl [3, 4, 5, 6, 7, 8, 0] rfl)
              · skip
                refine lv_goto (tgt := 136) hx hb dX5_findPairs_55 (by decide) ?_
                refine n_iinc (d := 1) (lv' := [(6, .int (nI (b + 1))), (0, .ref (h)), (1, .int (nI (i))), (2, .int (u)), (3, .int (v)), (4, .int (nI (tk))), (5, .int (nI (a)))]) C dX5_findPairs_136 (by decide) hl (k := 6) rfl (by decide) rfl (fun ls hl => ?_)
                refine lv_goto (tgt := 30) hx hb dX5_findPairs_139 (by decide) ?_
                exact ih_lb (b + 1) (ψ) (H) (locs) ls (by omega) (by omega) (hM) (hS) (by rw [e32, cnt2_no c52]) (by rw [e33, cnt2_no (nop c52).1]) (by rw [e34, cnt2_no (nop c52).2]) (hk) (lv_sub hl [1, 2, 3, 4, 5, 6, 0] rfl)
        exact lb (tN τ + 1) (0) (ψ) (H) (locs) ls (by omega) (by omega) (hM) (hS) (e32) (e33) (e34) (hk) (lv_sub hl [1, 2, 3, 4, 5, 6, 0] rfl)
  exact la (tN τ + 1) (0) ((upd (upd (upd φ 32 (0)) 33 (0)) 34 (0))) (H) (locs) ls (by omega) (by omega) (hM) (hS) (rfl) (rfl) (rfl) (fun k k1 k2 k3 => by simp only [upd, k1, k2, k3, if_false]) (lv_sub hl [1, 2, 3, 4, 5, 0] rfl)
theorem chs_step {n k : Nat} (hn : n ≤ 30) (hk : k ≤ n) : lN (chs n k) * (nI (n - k)).toInt64 / (nI (k + 1)).toInt64 = lN (chs n (k + 1)) := by
  have h1 := chs_le n (by omega) k (by omega)
  have h2 : chs n k * (n - k) ≤ 155117520 * 30 := Nat.mul_le_mul h1 (by omega)
  rw [nI_l (by omega), nI_l (by omega), lN_mul, pk_lDiv (by omega) (by omega) (by omega)]
  rfl
set_option maxHeartbeats 4000000 in
set_option maxRecDepth 100000 in
theorem c5_overs (l : Launch) (g : GG) (h n w : Nat) (hn : n ≤ 30) (hw : w ≤ n) : Met l yX5_overs (.code yX5_overs cX5_overs 8 (some .long) :: wsL_law) ({ frames := 0, cells := 0, slots := 0, locals := 0 } : Room) (mP g [.ref (h), .int (nI (n)), .int (nI (w))] (fun _ => True)) (vp_Sl (fun z => z = lN (ovN n w (n + 1)))) 0 0 ((fun _ => False)) := by
  refine mMet (by decide) (Nat.le_of_ble_eq_true rfl) ?_
  intro p e s m below meth c C hr hlk hnm hP ls hl
  have hx := C.1.1
  have hb := C.1.2.1
  have hl : lv_has ls 8 [(0, .ref (h)), (1, .int (nI (n))), (2, .int (nI (w)))] := hl
  refine lv_lconst (v := 0) hx hb dX5_overs_0 (by decide) ?_
  refine lv_lstore_n (lv' := [(3, .long (0)), (0, .ref (h)), (1, .int (nI (n))), (2, .int (nI (w)))]) hx hb dX5_overs_1 rfl hl (by decide) rfl (fun ls hl => ?_)
  refine lv_lconst (v := 1) hx hb dX5_overs_2 (by decide) ?_
  refine lv_lstore (lv' := [(5, .long (1)), (3, .long (0)), (0, .ref (h)), (1, .int (nI (n))), (2, .int (nI (w)))]) hx hb dX5_overs_3 hl (by decide) rfl (fun ls hl => ?_)
  refine lv_iconst (v := nI 0) hx hb dX5_overs_5 (by decide) ?_
  refine lv_istore (lv' := [(7, .int (nI (0))), (5, .long (1)), (3, .long (0)), (0, .ref (h)), (1, .int (nI (n))), (2, .int (nI (w)))]) hx hb dX5_overs_6 hl (by decide) rfl (fun ls hl => ?_)
  have lp : ∀ (n_lp : Nat) (k : Nat) (z1 z2 : Int64) (ls : Array Slot), (k ≤ n + 1) → (n + 1 + 1 ≤ k + n_lp) → (z1 = lN (ovN n w k)) → (z2 = lN (chs n k)) → lv_has ls 8 [(0, .ref (h)), (1, .int (nI (n))), (2, .int (nI (w))), (3, .long (z1)), (5, .long (z2)), (7, .int (nI (k)))] → W p l e ({ frames := 0, cells := 0, slots := 0, locals := 0 } : Room) s m ([.ref (h), .int (nI (n)), .int (nI (w))] : List Value).toArray below meth c s.heap [] 0 0 (MQ below (vp_Sl (fun z => z = lN (ovN n w (n + 1)))) (([.ref (h), .int (nI (n)), .int (nI (w))] : List Value).toArray) s 0 0 (fun _ => False)) (F0 m 8 ls []) := by
    intro n_lp
    induction n_lp with
    | zero =>
      intro k z1 z2 ls hk hn2 h1 h2
      exact absurd hn2 (by omega)
    | succ n_lp ih_lp =>
      intro k z1 z2 ls hk hn2 h1 h2 hl
      refine lv_iload hx hb dX5_overs_8 (lv_at hl 5 rfl) ?_
      refine lv_iload_n hx hb dX5_overs_10 rfl (lv_at hl 1 rfl) ?_
      refine n_icmp_gt (tgt := 47) C (by omega) (by omega) dX5_overs_11 (by decide) (fun c11 => ?_) (fun c11 => ?_)
      · skip
        refine lv_lload_n hx hb dX5_overs_47 rfl (lv_at hl 3 rfl) ?_
        exact r_l C hr hlk (by rw [h1, show k = n + 1 by omega]) dX5_overs_48
      · skip
        refine lv_iload hx hb dX5_overs_14 (lv_at hl 5 rfl) ?_
        refine lv_iload_n hx hb dX5_overs_16 rfl (lv_at hl 2 rfl) ?_
        refine n_icmp_lt (tgt := 25) C (by omega) (by omega) dX5_overs_17 (by decide) (fun c17 => ?_) (fun c17 => ?_)
        · skip
          refine lv_lload hx hb dX5_overs_25 (lv_at hl 4 rfl) ?_
          refine lv_iload_n hx hb dX5_overs_27 rfl (lv_at hl 1 rfl) ?_
          refine lv_iload hx hb dX5_overs_28 (lv_at hl 5 rfl) ?_
          refine n_isub C (by omega) dX5_overs_30 ?_
          refine lv_i2l (v := (nI (n - k)).toInt64) hx hb dX5_overs_31 rfl ?_
          refine lv_lmul hx hb dX5_overs_32 ?_
          refine lv_iload hx hb dX5_overs_33 (lv_at hl 5 rfl) ?_
          refine lv_iconst (v := nI 1) hx hb dX5_overs_35 (by decide) ?_
          refine n_iadd C dX5_overs_36 ?_
          refine lv_i2l (v := (nI (k + 1)).toInt64) hx hb dX5_overs_37 rfl ?_
          refine lv_ldiv hx hb dX5_overs_38 (by rw [nI_l (by omega)]; exact fun hz => absurd ((pk_lEQ (a := k + 1) (b := 0) (by omega) (by omega)).mp hz) (by omega)) ?_
          refine lv_lstore (lv' := [(5, .long (((z2) * ((nI (n - k)).toInt64)) / ((nI (k + 1)).toInt64))), (0, .ref (h)), (1, .int (nI (n))), (2, .int (nI (w))), (3, .long (z1)), (7, .int (nI (k)))]) hx hb dX5_overs_39 hl (by decide) rfl (fun ls hl => ?_)
          refine n_iinc (d := 1) (lv' := [(7, .int (nI (k + 1))), (5, .long (((z2) * ((nI (n - k)).toInt64)) / ((nI (k + 1)).toInt64))), (0, .ref (h)), (1, .int (nI (n))), (2, .int (nI (w))), (3, .long (z1))]) C dX5_overs_41 (by decide) hl (k := 5) rfl (by decide) rfl (fun ls hl => ?_)
          refine lv_goto (tgt := 8) hx hb dX5_overs_44 (by decide) ?_
          exact ih_lp (k + 1) (z1) (((z2) * ((nI (n - k)).toInt64)) / ((nI (k + 1)).toInt64)) ls (by omega) (by omega) (by rw [h1, ovN, ovN, fb_sm_succ, if_neg (Nat.not_le.mpr c17)]; rfl) (by rw [h2]; exact chs_step hn c11) (lv_sub hl [2, 3, 4, 5, 1, 0] rfl)
        · skip
          refine lv_lload_n hx hb dX5_overs_20 rfl (lv_at hl 3 rfl) ?_
          refine lv_lload hx hb dX5_overs_21 (lv_at hl 4 rfl) ?_
          refine lv_ladd hx hb dX5_overs_23 ?_
          refine lv_lstore_n (lv' := [(3, .long ((z1) + (z2))), (0, .ref (h)), (1, .int (nI (n))), (2, .int (nI (w))), (5, .long (z2)), (7, .int (nI (k)))]) hx hb dX5_overs_24 rfl hl (by decide) rfl (fun ls hl => ?_)
          refine lv_lload hx hb dX5_overs_25 (lv_at hl 4 rfl) ?_
          refine lv_iload_n hx hb dX5_overs_27 rfl (lv_at hl 2 rfl) ?_
          refine lv_iload hx hb dX5_overs_28 (lv_at hl 5 rfl) ?_
          refine n_isub C (by omega) dX5_overs_30 ?_
          refine lv_i2l (v := (nI (n - k)).toInt64) hx hb dX5_overs_31 rfl ?_
          refine lv_lmul hx hb dX5_overs_32 ?_
          refine lv_iload hx hb dX5_overs_33 (lv_at hl 5 rfl) ?_
          refine lv_iconst (v := nI 1) hx hb dX5_overs_35 (by decide) ?_
          refine n_iadd C dX5_overs_36 ?_
          refine lv_i2l (v := (nI (k + 1)).toInt64) hx hb dX5_overs_37 rfl ?_
          refine lv_ldiv hx hb dX5_overs_38 (by rw [nI_l (by omega)]; exact fun hz => absurd ((pk_lEQ (a := k + 1) (b := 0) (by omega) (by omega)).mp hz) (by omega)) ?_
          refine lv_lstore (lv' := [(5, .long (((z2) * ((nI (n - k)).toInt64)) / ((nI (k + 1)).toInt64))), (3, .long ((z1) + (z2))), (0, .ref (h)), (1, .int (nI (n))), (2, .int (nI (w))), (7, .int (nI (k)))]) hx hb dX5_overs_39 hl (by decide) rfl (fun ls hl => ?_)
          refine n_iinc (d := 1) (lv' := [(7, .int (nI (k + 1))), (5, .long (((z2) * ((nI (n - k)).toInt64)) / ((nI (k + 1)).toInt64))), (3, .long ((z1) + (z2))), (0, .ref (h)), (1, .int (nI (n))), (2, .int (nI (w)))]) C dX5_overs_41 (by decide) hl (k := 5) rfl (by decide) rfl (fun ls hl => ?_)
          refine lv_goto (tgt := 8) hx hb dX5_overs_44 (by decide) ?_
          exact ih_lp (k + 1) ((z1) + (z2)) (((z2) * ((nI (n - k)).toInt64)) / ((nI (k + 1)).toInt64)) ls (by omega) (by omega) (by rw [h1, h2, lN_add, ovN, ovN, fb_sm_succ, if_pos c17]) (by rw [h2]; exact chs_step hn c11) (lv_sub hl [3, 4, 5, 2, 1, 0] rfl)
  exact lp (n + 2) (0) (0) (1) ls (by omega) (by omega) (by show (0 : Int64) = lN 0; decide) (by show (1 : Int64) = lN 1; decide) (lv_sub hl [3, 4, 5, 2, 1, 0] rfl)
set_option maxHeartbeats 4000000 in
set_option maxRecDepth 100000 in
theorem c5_sureOf (l : Launch) (g : GG) (h : Nat) (ad : Nat → Nat) (φ : Nat → Int32) (α : Nat → Nat → Int32) (τ : TB) (hR : MdR φ α τ) (hT : TOK τ) (hD : wD (wA g h ad) g h ad) (i tk : Nat) (u v : Int32) (y : Int64) (hi : i < 4) (htk0 : 1 ≤ tk) (htk : tk ≤ 16) : Met l yX5_sureOf (.code yX5_sureOf cX5_sureOf 8 (some .int) :: wsL_law) ({ frames := 5, cells := 0, slots := 0, locals := 123 } : Room) (mP g [.ref (h), .int (nI (i)), .int (u), .int (v), .int (nI (tk)), .long (y)] (fun H => va_P g.1 vwCl (wM g h ad φ α) H)) (mQ (wA g h ad) (fun z H => z = some (.int (sureI τ i u v tk y)) ∧ ∃ ψ : Nat → Int32, va_P g.1 vwCl (wM g h ad ψ α) H ∧ ∀ k, k ≠ 32 → k ≠ 33 → k ≠ 34 → ψ k = φ k)) 0 0 (wA g h ad) := by
  refine mMet (by decide) (Nat.le_of_ble_eq_true rfl) ?_
  intro p e s m below meth c C hr hlk hnm hM ls hl
  have hx := C.1.1
  have hb := C.1.2.1
  have hl : lv_has ls 8 [(0, .ref (h)), (1, .int (nI (i))), (2, .int (u)), (3, .int (v)), (4, .int (nI (tk))), (5, .long (y))] := hl
  have hS : va_S (wA g h ad) s.heap s.heap [] := va_S.rf
  have h40 := hT.2.2.1
  have hrec := q_recv C hM 0 rw_0 rfl
  refine lv_aload_n hx hb dX5_sureOf_0 rfl (lv_at hl 0 rfl) ?_
  refine lv_iload_n hx hb dX5_sureOf_1 rfl (lv_at hl 1 rfl) ?_
  refine lv_iload_n hx hb dX5_sureOf_2 rfl (lv_at hl 2 rfl) ?_
  refine lv_iload_n hx hb dX5_sureOf_3 rfl (lv_at hl 3 rfl) ?_
  refine lv_iload hx hb dX5_sureOf_4 (lv_at hl 4 rfl) ?_
  refine k_w (c_V (As := [.int (nI (i)), .int (u), .int (v), .int (nI (tk))]) (rest := []) C v_X5_188 (c5_findPairs l g h ad φ α τ hR hT hD i tk ((u)) ((v)) (by omega) (by omega) (by omega)) ⟨Nat.le_of_ble_eq_true rfl, Nat.le_of_ble_eq_true rfl⟩ (hrec) (hM) hl.1 rfl rfl (Nat.le_of_ble_eq_true rfl) dX5_sureOf_6 ⟨Nat.le_of_ble_eq_true rfl, Nat.le_of_ble_eq_true rfl⟩) hS (fun _ hq => hq) (fun r6 H1 locs q6 hz6 hk6 hS => ?_)
  obtain ⟨rfl, ψ, hM, e32, e33, e34, hk⟩ := q6
  have hrec := q_recv C hM 0 rw_0 rfl
  have hR := hR.phi (hk 5 (by decide) (by decide) (by decide)) (hk 6 (by decide) (by decide) (by decide)) (hk 35 (by decide) (by decide) (by decide))
  have bw : winsN τ i ((u)) ((v)) tk ≤ 1600 := sm_le _ h40
  have bl : losN τ i ((u)) ((v)) tk ≤ 1600 := sm_le _ h40
  refine W.eq (g2 := F0 m 9 ls []) rfl ?_
  refine lv_aload_n hx hb dX5_sureOf_9 rfl (lv_at hl 0 rfl) ?_
  refine q_get C f_X5_174 hM 0 rw_0 ro_33 dX5_sureOf_10 ?_
  refine w_topi (y := (nI (winsN τ i ((u)) ((v)) tk))) (e33) ?_
  refine lv_aload_n hx hb dX5_sureOf_13 rfl (lv_at hl 0 rfl) ?_
  refine q_get C f_X5_177 hM 0 rw_0 ro_34 dX5_sureOf_14 ?_
  refine w_topi (y := (nI (losN τ i ((u)) ((v)) tk))) (e34) ?_
  refine n_iadd C dX5_sureOf_17 ?_
  refine lv_istore (lv' := [(7, .int (nI ((winsN τ i ((u)) ((v)) tk) + (losN τ i ((u)) ((v)) tk)))), (0, .ref (h)), (1, .int (nI (i))), (2, .int (u)), (3, .int (v)), (4, .int (nI (tk))), (5, .long (y))]) hx hb dX5_sureOf_18 hl (by decide) rfl (fun ls hl => ?_)
  refine lv_iload hx hb dX5_sureOf_20 (lv_at hl 0 rfl) ?_
  refine lv_bipush (v := nI 30) hx hb dX5_sureOf_22 (by decide) ?_
  refine n_icmp_le (tgt := 29) C (by omega) (by omega) dX5_sureOf_24 (by decide) (fun c24 => ?_) (fun c24 => ?_)
  · skip
    refine lv_lload hx hb dX5_sureOf_29 (lv_at hl 6 rfl) ?_
    refine lv_aload_n hx hb dX5_sureOf_31 rfl (lv_at hl 1 rfl) ?_
    refine lv_iload hx hb dX5_sureOf_32 (lv_at hl 0 rfl) ?_
    refine lv_aload_n hx hb dX5_sureOf_34 rfl (lv_at hl 1 rfl) ?_
    refine q_get C f_X5_174 hM 0 rw_0 ro_33 dX5_sureOf_35 ?_
    refine w_topi (y := (nI (winsN τ i ((u)) ((v)) tk))) (e33) ?_
    refine k_l (c_V (As := [.int (nI ((winsN τ i ((u)) ((v)) tk) + (losN τ i ((u)) ((v)) tk))), .int (nI (winsN τ i ((u)) ((v)) tk))]) (rest := [.long (y)]) C v_X5_192 (c5_overs l g h ((winsN τ i ((u)) ((v)) tk) + (losN τ i ((u)) ((v)) tk)) (winsN τ i ((u)) ((v)) tk) (by omega) (by omega)) ⟨Nat.le_of_ble_eq_true rfl, Nat.le_of_ble_eq_true rfl⟩ (hrec) (trivial) hl.1 rfl rfl (Nat.le_of_ble_eq_true rfl) dX5_sureOf_38 ⟨Nat.le_of_ble_eq_true rfl, Nat.le_of_ble_eq_true rfl⟩) (fun r38 q38 => ?_)
    subst q38
    refine lv_lmul hx hb dX5_sureOf_41 ?_
    refine lv_lconst (v := 1) hx hb dX5_sureOf_42 (by decide) ?_
    refine lv_iload hx hb dX5_sureOf_43 (lv_at hl 0 rfl) ?_
    refine lv_lshl (v := (1) <<< ((nI ((winsN τ i ((u)) ((v)) tk) + (losN τ i ((u)) ((v)) tk))).toInt64 &&& 63)) hx hb dX5_sureOf_45 rfl ?_
    refine W.lcmp hx hb dX5_sureOf_46 ?_
    refine lv_if_gt (tgt := 54) hx hb dX5_sureOf_47 (by decide) (fun c47 => ?_) (fun c47 => ?_)
    · skip
      refine lv_iconst (v := 0) hx hb dX5_sureOf_54 (by decide) ?_
      exact r_wi C hr hlk hS (⟨sv (by rw [sureI, if_neg (by omega), show sureJ y (winsN τ i u v tk + losN τ i u v tk) (winsN τ i u v tk) = false by simp only [sureJ, decide_eq_false_iff_not, Classical.not_not]; exact c47]; rfl), ψ, hM, hk⟩) dX5_sureOf_55
    · skip
      refine lv_iconst (v := 1) hx hb dX5_sureOf_50 (by decide) ?_
      refine lv_goto (tgt := 55) hx hb dX5_sureOf_51 (by decide) ?_
      exact r_wi C hr hlk hS (⟨sv (by rw [sureI, if_neg (by omega), show sureJ y (winsN τ i u v tk + losN τ i u v tk) (winsN τ i u v tk) = true by simp only [sureJ, decide_eq_true_eq]; exact c47]; rfl), ψ, hM, hk⟩) dX5_sureOf_55
  · skip
    refine lv_iconst (v := (-1)) hx hb dX5_sureOf_27 (by decide) ?_
    exact r_wi C hr hlk hS (⟨sv (by rw [sureI, if_pos (by omega)]), ψ, hM, hk⟩) dX5_sureOf_28

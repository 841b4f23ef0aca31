/-! THE REFERENCE: fork, again -/
theorem le_nI {t : Int32} {n : Nat} (c1 : ¬ t < 0) (c2 : ¬ nI n < t) (hn : n < 2 ^ 31) : ∃ j : Nat, j ≤ n ∧ t = nI j := by
  obtain ⟨j, hj, rfl⟩ := nI_of c1
  refine ⟨j, ?_, rfl⟩
  rcases Nat.lt_or_ge n j with h | h
  · exact absurd (nI_lt h hj) c2
  · exact h
theorem takeLen {rows : List Int32} {t : Nat} (h : t ≤ rows.length) : (rows.take t).length = t := by simp [h]
theorem takeGet {rows : List Int32} {t j : Nat} (h : j < t) : (rows.take t).getD j 0 = rows.getD j 0 := by
  rw [List.getD_eq_getElem?_getD, List.getD_eq_getElem?_getD, List.getElem?_take, if_pos h]
theorem lastTake {rows : List Int32} {t : Nat} (h0 : ¬ t = 0) (h : t ≤ rows.length) : lastR (rows.take t) = rows.getD (t - 1) 0 := by
  unfold lastR
  rw [List.getLastD_eq_getLast?, List.getLast?_eq_getElem?, takeLen h, List.getElem?_take, if_pos (by omega), List.getD_eq_getElem?_getD]
theorem lastTake0 {rows : List Int32} : lastR (rows.take 0) = 0 := by simp [lastR]
set_option maxHeartbeats 4000000 in
set_option maxRecDepth 100000 in
theorem c5_fork (l : Launch) (g : GG) (h : Nat) (ad : Nat → Nat) (τ : TB) (hT : TOK τ) (hD : wD (wA g h ad) g h ad) (r t all own : Int32) : Met l yX5_fork (.code yX5_fork cX5_fork 7 (some .int) :: wsL_law) ({ frames := 3, cells := 0, slots := 0, locals := 78 } : Room) (mP g [.ref (h), .int (r), .int (t), .int (all), .int (own)] (MdH g h ad τ)) (mQ (wA g h ad) (fun z H => z = some (.int (forkA τ r t all own)) ∧ MdH g h ad (forkT τ r t all own) H)) 0 0 (wA g h ad) := by
  refine mMet (by decide) (Nat.le_of_ble_eq_true rfl) ?_
  intro p e s m below meth c C hr hlk hnm hM ls hl
  have hx := C.1.1
  have hb := C.1.2.1
  have hl : lv_has ls 7 [(0, .ref (h)), (1, .int (r)), (2, .int (t)), (3, .int (all)), (4, .int (own))] := hl
  obtain ⟨φ, α, hM, hR⟩ := hM
  have hS : va_S (wA g h ad) s.heap s.heap [] := va_S.rf
  have h40 := hT.2.2.1
  refine lv_aload_n hx hb dX5_fork_0 rfl (lv_at hl 0 rfl) ?_
  refine lv_iconst (v := 0) hx hb dX5_fork_1 (by decide) ?_
  refine rp_0 C hM hD hS dX5_fork_2 (fun H locs hM hS => ?_)
  have hR : MdR (upd φ 0 0) α τ := hR
  generalize upd φ 0 0 = φ1 at hM hR
  have hrec := q_recv C hM 0 rw_0 rfl
  refine lv_aload_n hx hb dX5_fork_5 rfl (lv_at hl 0 rfl) ?_
  refine lv_iload_n hx hb dX5_fork_6 rfl (lv_at hl 1 rfl) ?_
  refine k_i (c_V (As := [.int (r)]) (rest := []) C v_X5_142 (c5_isRun l g h ad φ1 α τ hR hT (r)) ⟨Nat.le_of_ble_eq_true rfl, Nat.le_of_ble_eq_true rfl⟩ (hrec) (hM) hl.1 rfl rfl (Nat.le_of_ble_eq_true rfl) dX5_fork_7 ⟨Nat.le_of_ble_eq_true rfl, Nat.le_of_ble_eq_true rfl⟩) (fun r7 q7 => ?_)
  subst q7
  refine b_ifeq (tgt := 62) C dX5_fork_10 (by decide) (fun c10 => ?_) (fun c10 => ?_)
  · skip
    refine lv_iconst (v := (-1)) hx hb dX5_fork_62 (by decide) ?_
    exact r_wi C hr hlk hS (⟨sv (by rw [forkA, show canFork τ r t all own = false by simp [canFork, c10]]; rfl), φ1, α, hM, by rw [forkT, show canFork τ r t all own = false by simp [canFork, c10]]; exact hR⟩) dX5_fork_63
  · skip
    have c10b := c10
    obtain ⟨j, hj, rfl⟩ := isRun_nI c10 h40
    have R_j := hR.run hj
    have T_j := hT.2.2.2.1 j hj
    have BC_j := T_j.1
    have BL_j := T_j.2.1
    have BT0_j := T_j.2.2.2.2.2.1
    have BT_j := T_j.2.2.2.2.2.2.1
    have BR_j := T_j.2.2.2.2.2.2.2.1
    have BQ_j : ∀ jq, jq < (rStp (tRun τ j)).length → (rStp (tRun τ j)).getD jq 0 < 256 := fun jq hj => T_j.2.2.1 _ (getD_mem hj)
    have ecl : (nI j).toNatClampNeg = j := nI_clamp (by omega)
    refine lv_aload_n hx hb dX5_fork_13 rfl (lv_at hl 0 rfl) ?_
    refine q_get C f_X5_46 hM 0 rw_0 ro_15 dX5_fork_14 ?_
    refine lv_iload_n hx hb dX5_fork_17 rfl (lv_at hl 1 rfl) ?_
    refine n_zald C hM 13 rw_15 (by omega) (by decide) dX5_fork_18 ?_
    refine w_topi (y := (bI (rBr (tRun τ j)))) (R_j.br) ?_
    refine b_ifne (tgt := 62) C dX5_fork_19 (by decide) (fun c19 => ?_) (fun c19 => ?_)
    · skip
      refine lv_iconst (v := (-1)) hx hb dX5_fork_62 (by decide) ?_
      exact r_wi C hr hlk hS (⟨sv (by rw [forkA, show canFork τ (nI j) t all own = false by simp [canFork, ecl, c19]]; rfl), φ1, α, hM, by rw [forkT, show canFork τ (nI j) t all own = false by simp [canFork, ecl, c19]]; exact hR⟩) dX5_fork_63
    · skip
      refine lv_iload_n hx hb dX5_fork_22 rfl (lv_at hl 2 rfl) ?_
      refine lv_if_lt (tgt := 62) hx hb dX5_fork_23 (by decide) (fun c23 => ?_) (fun c23 => ?_)
      · skip
        refine lv_iconst (v := (-1)) hx hb dX5_fork_62 (by decide) ?_
        exact r_wi C hr hlk hS (⟨sv (by rw [forkA, show canFork τ (nI j) t all own = false by simp only [canFork, ecl]; rw [show inR t 0 (rRow (tRun τ j)).length = false from Bool.eq_false_iff.mpr (fun hz => by have hz := inR_iff.mp hz; simp only [fa_lt, li_0] at c23; omega)]; simp]; rfl), φ1, α, hM, by rw [forkT, show canFork τ (nI j) t all own = false by simp only [canFork, ecl]; rw [show inR t 0 (rRow (tRun τ j)).length = false from Bool.eq_false_iff.mpr (fun hz => by have hz := inR_iff.mp hz; simp only [fa_lt, li_0] at c23; omega)]; simp]; exact hR⟩) dX5_fork_63
      · skip
        refine lv_iload_n hx hb dX5_fork_26 rfl (lv_at hl 2 rfl) ?_
        refine lv_aload_n hx hb dX5_fork_27 rfl (lv_at hl 0 rfl) ?_
        refine q_get C f_X5_40 hM 0 rw_0 ro_13 dX5_fork_28 ?_
        refine lv_iload_n hx hb dX5_fork_31 rfl (lv_at hl 1 rfl) ?_
        refine n_iald C hM 11 rw_13 (by omega) (by decide) dX5_fork_32 ?_
        refine w_topi (y := (nI ((rRow (tRun τ j)).length))) (R_j.nrow) ?_
        refine lv_icmp_gt (tgt := 62) hx hb dX5_fork_33 (by decide) (fun c33 => ?_) (fun c33 => ?_)
        · skip
          refine lv_iconst (v := (-1)) hx hb dX5_fork_62 (by decide) ?_
          exact r_wi C hr hlk hS (⟨sv (by rw [forkA, show canFork τ (nI j) t all own = false by simp only [canFork, ecl]; rw [show inR t 0 (rRow (tRun τ j)).length = false from Bool.eq_false_iff.mpr (fun hz => by have hz := inR_iff.mp hz; simp only [fa_lt, li_0, nI_toInt (show (rRow (tRun τ j)).length < 2 ^ 31 by omega)] at c33; omega)]; simp]; rfl), φ1, α, hM, by rw [forkT, show canFork τ (nI j) t all own = false by simp only [canFork, ecl]; rw [show inR t 0 (rRow (tRun τ j)).length = false from Bool.eq_false_iff.mpr (fun hz => by have hz := inR_iff.mp hz; simp only [fa_lt, li_0, nI_toInt (show (rRow (tRun τ j)).length < 2 ^ 31 by omega)] at c33; omega)]; simp]; exact hR⟩) dX5_fork_63
        · skip
          refine lv_aload_n hx hb dX5_fork_36 rfl (lv_at hl 0 rfl) ?_
          refine lv_iload_n hx hb dX5_fork_37 rfl (lv_at hl 3 rfl) ?_
          refine k_i (c_V (As := [.int (all)]) (rest := []) C v_X5_125 (c5_areSettings l g h ad φ1 α (all)) ⟨Nat.le_of_ble_eq_true rfl, Nat.le_of_ble_eq_true rfl⟩ (hrec) (hM) hl.1 rfl rfl (Nat.le_of_ble_eq_true rfl) dX5_fork_38 ⟨Nat.le_of_ble_eq_true rfl, Nat.le_of_ble_eq_true rfl⟩) (fun r38 q38 => ?_)
          subst q38
          refine b_ifeq (tgt := 62) C dX5_fork_41 (by decide) (fun c41 => ?_) (fun c41 => ?_)
          · skip
            refine lv_iconst (v := (-1)) hx hb dX5_fork_62 (by decide) ?_
            exact r_wi C hr hlk hS (⟨sv (by rw [forkA, show canFork τ (nI j) t all own = false by simp [canFork, ecl, c41]]; rfl), φ1, α, hM, by rw [forkT, show canFork τ (nI j) t all own = false by simp [canFork, ecl, c41]]; exact hR⟩) dX5_fork_63
          · skip
            refine lv_aload_n hx hb dX5_fork_44 rfl (lv_at hl 0 rfl) ?_
            refine lv_iload hx hb dX5_fork_45 (lv_at hl 4 rfl) ?_
            refine k_i (c_V (As := [.int (own)]) (rest := []) C v_X5_128 (c5_isSeed l g h (own)) ⟨Nat.le_of_ble_eq_true rfl, Nat.le_of_ble_eq_true rfl⟩ (hrec) (trivial) hl.1 rfl rfl (Nat.le_of_ble_eq_true rfl) dX5_fork_47 ⟨Nat.le_of_ble_eq_true rfl, Nat.le_of_ble_eq_true rfl⟩) (fun r47 q47 => ?_)
            subst q47
            refine b_ifeq (tgt := 62) C dX5_fork_50 (by decide) (fun c50 => ?_) (fun c50 => ?_)
            · skip
              refine lv_iconst (v := (-1)) hx hb dX5_fork_62 (by decide) ?_
              exact r_wi C hr hlk hS (⟨sv (by rw [forkA, show canFork τ (nI j) t all own = false by simp [canFork, ecl, c50]]; rfl), φ1, α, hM, by rw [forkT, show canFork τ (nI j) t all own = false by simp [canFork, ecl, c50]]; exact hR⟩) dX5_fork_63
            · skip
              refine lv_aload_n hx hb dX5_fork_53 rfl (lv_at hl 0 rfl) ?_
              refine q_get C f_X5_90 hM 0 rw_0 ro_6 dX5_fork_54 ?_
              refine w_topi (y := (nI (tN τ))) (hR.n) ?_
              refine lv_bipush (v := nI 40) hx hb dX5_fork_57 (by decide) ?_
              refine n_icmp_ne (tgt := 64) C (by omega) (by omega) dX5_fork_59 (by decide) (fun c59 => ?_) (fun c59 => ?_)
              · skip
                obtain ⟨t1, ht1, rfl⟩ := le_nI c23 c33 (by omega)
                have hrl : (rRow (tRun τ j)).length = rTk (tRun τ j) := T_j.2.2.2.2.2.2.2.2.1 c19
                have ect : (nI t1).toNatClampNeg = t1 := nI_clamp (by omega)
                have hit : inR (nI t1) 0 (rRow (tRun τ j)).length = true := inR_iff.mpr (by rw [nI_toInt (by omega)]; omega)
                have hcan : canFork τ (nI j) (nI t1) all own = true := by rw [canFork, c10b, ecl, c19, hit, c41, c50, decide_eq_true c59]; rfl
                have hjn : j ≠ tN τ := by omega
                have hlt : ((rRow (tRun τ j)).take t1).length = t1 := takeLen ht1
                obtain ⟨G, hG⟩ : ∃ G : XS × List Int32, G = xRun (tDat τ) (tClk τ + 1) all own (rStp (tRun τ j)) (rTk (tRun τ j)) ((rRow (tRun τ j)).take t1) := ⟨_, rfl⟩
                have hG2 : G = xGo (tDat τ) (tClk τ + 1) all own (rStp (tRun τ j)) (rTk (tRun τ j) - t1) t1 (lastR ((rRow (tRun τ j)).take t1), 0, 0, false, false, false) ((rRow (tRun τ j)).take t1) := by rw [hG, xRun, hlt]
                have gl := xG_len (tDat τ) (tClk τ + 1) all own (rStp (tRun τ j)) (rTk (tRun τ j) - t1) t1 (lastR ((rRow (tRun τ j)).take t1), 0, 0, false, false, false) ((rRow (tRun τ j)).take t1) hlt
                rw [← hG2] at gl
                have hGl : G.2.length ≤ 16 := by have := gl.2.1; omega
                refine lv_aload_n hx hb dX5_fork_64 rfl (lv_at hl 0 rfl) ?_
                refine q_get C f_X5_90 hM 0 rw_0 ro_6 dX5_fork_65 ?_
                refine w_topi (y := (nI (tN τ))) (hR.n) ?_
                refine lv_istore (lv' := [(5, .int (nI (tN τ))), (0, .ref (h)), (1, .int (nI (j))), (2, .int (nI (t1))), (3, .int (all)), (4, .int (own))]) hx hb dX5_fork_68 hl (by decide) rfl (fun ls hl => ?_)
                refine lv_aload_n hx hb dX5_fork_70 rfl (lv_at hl 1 rfl) ?_
                refine lv_aload_n hx hb dX5_fork_71 rfl (lv_at hl 1 rfl) ?_
                refine q_get C f_X5_90 hM 0 rw_0 ro_6 dX5_fork_72 ?_
                refine w_topi (y := (nI (tN τ))) (hR.n) ?_
                refine lv_iconst (v := nI 1) hx hb dX5_fork_75 (by decide) ?_
                refine n_iadd C dX5_fork_76 ?_
                refine rp_6 C hM hD hS dX5_fork_77 (fun H locs hM hS => ?_)
                refine lv_aload_n hx hb dX5_fork_80 rfl (lv_at hl 1 rfl) ?_
                refine lv_aload_n hx hb dX5_fork_81 rfl (lv_at hl 1 rfl) ?_
                refine q_get (v := .int (φ1 5)) C f_X5_109 hM 0 rw_0 rfl dX5_fork_82 ?_
                refine w_topi (y := (tClk τ)) (hR.clk) ?_
                refine lv_iconst (v := 1) hx hb dX5_fork_85 (by decide) ?_
                refine lv_iadd hx hb dX5_fork_86 ?_
                refine rp_5 C hM hD hS dX5_fork_87 (fun H locs hM hS => ?_)
                refine lv_aload_n hx hb dX5_fork_90 rfl (lv_at hl 1 rfl) ?_
                refine q_get C f_X5_22 hM 0 rw_0 ro_7 dX5_fork_91 ?_
                refine lv_iload hx hb dX5_fork_94 (lv_at hl 0 rfl) ?_
                refine lv_aload_n hx hb dX5_fork_96 rfl (lv_at hl 1 rfl) ?_
                refine q_get C f_X5_22 hM 0 rw_0 ro_7 dX5_fork_97 ?_
                refine lv_iload_n hx hb dX5_fork_100 rfl (lv_at hl 2 rfl) ?_
                refine n_iald C hM 5 rw_7 (by omega) (by decide) dX5_fork_101 ?_
                refine w_topi (y := (nI (rCode (tRun τ j)))) (R_j.code) ?_
                refine ra_7 C hM hD hS (by omega) dX5_fork_102 (fun H locs hM hS => ?_)
                refine lv_aload_n hx hb dX5_fork_103 rfl (lv_at hl 1 rfl) ?_
                refine q_get C f_X5_25 hM 0 rw_0 ro_8 dX5_fork_104 ?_
                refine lv_iload hx hb dX5_fork_107 (lv_at hl 0 rfl) ?_
                refine lv_aload_n hx hb dX5_fork_109 rfl (lv_at hl 1 rfl) ?_
                refine q_get C f_X5_25 hM 0 rw_0 ro_8 dX5_fork_110 ?_
                refine lv_iload_n hx hb dX5_fork_113 rfl (lv_at hl 2 rfl) ?_
                refine n_iald C hM 6 rw_8 (by omega) (by decide) dX5_fork_114 ?_
                refine w_topi (y := (nI ((rStp (tRun τ j)).length))) (R_j.len) ?_
                refine ra_8 C hM hD hS (by omega) dX5_fork_115 (fun H locs hM hS => ?_)
                obtain ⟨α1, hα1⟩ : ∃ b : Nat → Nat → Int32, b = (aset (aset α 7 (tN τ) (nI (rCode (tRun τ j)))) 8 (tN τ) (nI ((rStp (tRun τ j)).length))) := ⟨_, rfl⟩
                rw [← hα1] at hM
                have a1n : ∀ k, k ≠ 7 → k ≠ 8 → α1 k = α k := fun k h1 h2 => by rw [hα1, asetN _ _ _ h2, asetN _ _ _ h1]
                have a17 : α1 7 (tN τ) = nI (rCode (tRun τ j)) := by rw [hα1, asetN _ _ _ (by decide), asetV]
                have a18 : α1 8 (tN τ) = nI (rStp (tRun τ j)).length := by rw [hα1, asetV]
                have O1 : Off (tN τ) α α1 := by rw [hα1]; exact (Off.one (by decide)).tr (Off.one (by decide))
                refine lv_iconst (v := nI 0) hx hb dX5_fork_116 (by decide) ?_
                refine lv_istore (lv' := [(6, .int (nI (0))), (5, .int (nI (tN τ))), (0, .ref (h)), (1, .int (nI (j))), (2, .int (nI (t1))), (3, .int (all)), (4, .int (own))]) hx hb dX5_fork_117 hl (by decide) rfl (fun ls hl => ?_)
                have la : ∀ (n_la : Nat) (i : Nat) (β : Nat → Nat → Int32) (H : Heap) (locs : List Loc) (ls : Array Slot), (i ≤ 8) → (8 + 1 ≤ i + n_la) → (va_P g.1 vwCl (wM g h ad (upd (upd φ1 6 (nI (tN τ + 1))) 5 ((tClk τ) + (1))) β) H) → (va_S (wA g h ad) s.heap H locs) → (∀ k, k ≠ 9 → β k = α1 k) → (∀ q, q < i → β 9 (8 * tN τ + q) = α 9 (8 * j + q)) → (∀ q, (∀ x, x < i → q ≠ 8 * tN τ + x) → β 9 q = α1 9 q) → lv_has ls 7 [(0, .ref (h)), (1, .int (nI (j))), (2, .int (nI (t1))), (3, .int (all)), (4, .int (own)), (5, .int (nI (tN τ))), (6, .int (nI (i)))] → W p l e ({ frames := 3, cells := 0, slots := 0, locals := 78 } : Room) s m ([.ref (h), .int (nI (j)), .int (nI (t1)), .int (all), .int (own)] : List Value).toArray below meth c H locs 0 0 (MQ below (mQ (wA g h ad) (fun z H => z = some (.int (forkA τ (nI j) (nI t1) all own)) ∧ MdH g h ad (forkT τ (nI j) (nI t1) all own) H)) (([.ref (h), .int (nI (j)), .int (nI (t1)), .int (all), .int (own)] : List Value).toArray) s 0 0 (wA g h ad)) (F0 m 119 ls []) := by
                  intro n_la
                  induction n_la with
                  | zero =>
                    intro i β H locs ls hi hnla hM hS he_la hin_la hou_la
                    exact absurd hnla (by omega)
                  | succ n_la ih_la =>
                    intro i β H locs ls hi hnla hM hS he_la hin_la hou_la hl
                    refine lv_iload hx hb dX5_fork_119 (lv_at hl 6 rfl) ?_
                    refine lv_bipush (v := nI 8) hx hb dX5_fork_121 (by decide) ?_
                    refine n_icmp_ge (tgt := 157) C (by omega) (by omega) dX5_fork_123 (by decide) (fun c123 => ?_) (fun c123 => ?_)
                    · skip
                      have O2 : Off (tN τ) α1 β := Off.of9 he_la (fun q hq => hou_la q (fun x hx => hq x (by omega)))
                      have OB : Off (tN τ) α β := O1.tr O2
                      refine lv_aload_n hx hb dX5_fork_157 rfl (lv_at hl 0 rfl) ?_
                      refine q_get C f_X5_31 hM 0 rw_0 ro_10 dX5_fork_158 ?_
                      refine lv_iload hx hb dX5_fork_161 (lv_at hl 5 rfl) ?_
                      refine lv_iload_n hx hb dX5_fork_163 rfl (lv_at hl 3 rfl) ?_
                      refine ra_10 C hM hD hS (by omega) dX5_fork_164 (fun H locs hM hS => ?_)
                      refine lv_aload_n hx hb dX5_fork_165 rfl (lv_at hl 0 rfl) ?_
                      refine q_get C f_X5_34 hM 0 rw_0 ro_11 dX5_fork_166 ?_
                      refine lv_iload hx hb dX5_fork_169 (lv_at hl 5 rfl) ?_
                      refine lv_iload hx hb dX5_fork_171 (lv_at hl 4 rfl) ?_
                      refine ra_11 C hM hD hS (by omega) dX5_fork_173 (fun H locs hM hS => ?_)
                      refine lv_aload_n hx hb dX5_fork_174 rfl (lv_at hl 0 rfl) ?_
                      refine q_get C f_X5_37 hM 0 rw_0 ro_12 dX5_fork_175 ?_
                      refine lv_iload hx hb dX5_fork_178 (lv_at hl 5 rfl) ?_
                      refine lv_aload_n hx hb dX5_fork_180 rfl (lv_at hl 0 rfl) ?_
                      refine q_get C f_X5_37 hM 0 rw_0 ro_12 dX5_fork_181 ?_
                      refine lv_iload_n hx hb dX5_fork_184 rfl (lv_at hl 1 rfl) ?_
                      refine n_iald C hM 10 rw_12 (by omega) (by decide) dX5_fork_185 ?_
                      refine w_topi (y := (nI (rTk (tRun τ j)))) ((OB.2.1 12 (by decide) j hjn).trans R_j.tk) ?_
                      refine ra_12 C hM hD hS (by omega) dX5_fork_186 (fun H locs hM hS => ?_)
                      refine lv_aload_n hx hb dX5_fork_187 rfl (lv_at hl 0 rfl) ?_
                      refine q_get C f_X5_50 hM 0 rw_0 ro_16 dX5_fork_188 ?_
                      refine lv_iload hx hb dX5_fork_191 (lv_at hl 5 rfl) ?_
                      refine lv_iload_n hx hb dX5_fork_193 rfl (lv_at hl 1 rfl) ?_
                      refine ra_16 C hM hD hS (by omega) dX5_fork_194 (fun H locs hM hS => ?_)
                      refine lv_aload_n hx hb dX5_fork_195 rfl (lv_at hl 0 rfl) ?_
                      refine q_get C f_X5_53 hM 0 rw_0 ro_17 dX5_fork_196 ?_
                      refine lv_iload hx hb dX5_fork_199 (lv_at hl 5 rfl) ?_
                      refine lv_iload_n hx hb dX5_fork_201 rfl (lv_at hl 2 rfl) ?_
                      refine ra_17 C hM hD hS (by omega) dX5_fork_202 (fun H locs hM hS => ?_)
                      obtain ⟨α2, hα2⟩ : ∃ b : Nat → Nat → Int32, b = (aset (aset (aset (aset (aset β 10 (tN τ) (all)) 11 (tN τ) (own)) 12 (tN τ) (nI (rTk (tRun τ j)))) 16 (tN τ) (nI (j))) 17 (tN τ) (nI (t1))) := ⟨_, rfl⟩
                      rw [← hα2] at hM
                      have a2n : ∀ k, k ≠ 10 → k ≠ 11 → k ≠ 12 → k ≠ 16 → k ≠ 17 → α2 k = β k := fun k h1 h2 h3 h4 h5 => by rw [hα2, asetN _ _ _ h5, asetN _ _ _ h4, asetN _ _ _ h3, asetN _ _ _ h2, asetN _ _ _ h1]
                      have a2r : α2 10 (tN τ) = all ∧ α2 11 (tN τ) = own ∧ α2 12 (tN τ) = nI (rTk (tRun τ j)) ∧ α2 16 (tN τ) = nI j ∧ α2 17 (tN τ) = nI t1 := by rw [hα2]; simp [aset, upd]
                      have O3 : Off (tN τ) β α2 := by rw [hα2]; exact (Off.one (by decide)).tr ((Off.one (by decide)).tr ((Off.one (by decide)).tr ((Off.one (by decide)).tr (Off.one (by decide)))))
                      have OA2 : Off (tN τ) α α2 := OB.tr O3
                      refine lv_iconst (v := nI 0) hx hb dX5_fork_203 (by decide) ?_
                      refine lv_istore (lv' := [(6, .int (nI (0))), (0, .ref (h)), (1, .int (nI (j))), (2, .int (nI (t1))), (3, .int (all)), (4, .int (own)), (5, .int (nI (tN τ)))]) hx hb dX5_fork_204 hl (by decide) rfl (fun ls hl => ?_)
                      have lc : ∀ (n_lc : Nat) (i : Nat) (β3 : Nat → Nat → Int32) (H : Heap) (locs : List Loc) (ls : Array Slot), (i ≤ t1) → (t1 + 1 ≤ i + n_lc) → (va_P g.1 vwCl (wM g h ad (upd (upd φ1 6 (nI (tN τ + 1))) 5 ((tClk τ) + (1))) β3) H) → (va_S (wA g h ad) s.heap H locs) → (∀ k, k ≠ 14 → β3 k = α2 k) → (∀ q, q < i → β3 14 (16 * tN τ + q) = α 14 (16 * j + q)) → (∀ q, (∀ x, x < i → q ≠ 16 * tN τ + x) → β3 14 q = α2 14 q) → lv_has ls 7 [(0, .ref (h)), (1, .int (nI (j))), (2, .int (nI (t1))), (3, .int (all)), (4, .int (own)), (5, .int (nI (tN τ))), (6, .int (nI (i)))] → W p l e ({ frames := 3, cells := 0, slots := 0, locals := 78 } : Room) s m ([.ref (h), .int (nI (j)), .int (nI (t1)), .int (all), .int (own)] : List Value).toArray below meth c H locs 0 0 (MQ below (mQ (wA g h ad) (fun z H => z = some (.int (forkA τ (nI j) (nI t1) all own)) ∧ MdH g h ad (forkT τ (nI j) (nI t1) all own) H)) (([.ref (h), .int (nI (j)), .int (nI (t1)), .int (all), .int (own)] : List Value).toArray) s 0 0 (wA g h ad)) (F0 m 206 ls []) := by
                        intro n_lc
                        induction n_lc with
                        | zero =>
                          intro i β3 H locs ls hi hnlc hM hS he_lc hin_lc hou_lc
                          exact absurd hnlc (by omega)
                        | succ n_lc ih_lc =>
                          intro i β3 H locs ls hi hnlc hM hS he_lc hin_lc hou_lc hl
                          refine lv_iload hx hb dX5_fork_206 (lv_at hl 6 rfl) ?_
                          refine lv_iload_n hx hb dX5_fork_208 rfl (lv_at hl 2 rfl) ?_
                          refine n_icmp_ge (tgt := 243) C (by omega) (by omega) dX5_fork_209 (by decide) (fun c209 => ?_) (fun c209 => ?_)
                          · skip
                            have O4 : Off (tN τ) α2 β3 := Off.of14 he_lc (fun q hq => hou_lc q (fun x hx => hq x (by omega)))
                            have OB3 : Off (tN τ) α β3 := OA2.tr O4
                            refine lv_aload_n hx hb dX5_fork_243 rfl (lv_at hl 0 rfl) ?_
                            refine q_get C f_X5_56 hM 0 rw_0 ro_18 dX5_fork_244 ?_
                            refine lv_iload hx hb dX5_fork_247 (lv_at hl 5 rfl) ?_
                            refine lv_aload_n hx hb dX5_fork_249 rfl (lv_at hl 0 rfl) ?_
                            refine q_get C f_X5_56 hM 0 rw_0 ro_18 dX5_fork_250 ?_
                            refine lv_iload_n hx hb dX5_fork_253 rfl (lv_at hl 1 rfl) ?_
                            refine n_iald C hM 16 rw_18 (by omega) (by decide) dX5_fork_254 ?_
                            refine w_topi (y := (rRS (tRun τ j))) ((OB3.2.1 18 (by decide) j hjn).trans R_j.rs) ?_
                            refine ra_18 C hM hD hS (by omega) dX5_fork_255 (fun H locs hM hS => ?_)
                            refine lv_aload_n hx hb dX5_fork_256 rfl (lv_at hl 0 rfl) ?_
                            refine q_get C f_X5_59 hM 0 rw_0 ro_19 dX5_fork_257 ?_
                            refine lv_iload hx hb dX5_fork_260 (lv_at hl 5 rfl) ?_
                            refine lv_aload_n hx hb dX5_fork_262 rfl (lv_at hl 0 rfl) ?_
                            refine q_get C f_X5_59 hM 0 rw_0 ro_19 dX5_fork_263 ?_
                            refine lv_iload_n hx hb dX5_fork_266 rfl (lv_at hl 1 rfl) ?_
                            refine n_iald C hM 17 rw_19 (by omega) (by decide) dX5_fork_267 ?_
                            refine w_topi (y := (rRW (tRun τ j))) ((OB3.2.1 19 (by decide) j hjn).trans R_j.rw) ?_
                            refine ra_19 C hM hD hS (by omega) dX5_fork_268 (fun H locs hM hS => ?_)
                            obtain ⟨α3, hα3⟩ : ∃ b : Nat → Nat → Int32, b = (aset (aset β3 18 (tN τ) (rRS (tRun τ j))) 19 (tN τ) (rRW (tRun τ j))) := ⟨_, rfl⟩
                            rw [← hα3] at hM
                            have a3n : ∀ k, k ≠ 18 → k ≠ 19 → α3 k = β3 k := fun k h1 h2 => by rw [hα3, asetN _ _ _ h2, asetN _ _ _ h1]
                            have a3r : α3 18 (tN τ) = rRS (tRun τ j) ∧ α3 19 (tN τ) = rRW (tRun τ j) := by rw [hα3]; simp [aset, upd]
                            have O5 : Off (tN τ) β3 α3 := by rw [hα3]; exact (Off.one (by decide)).tr (Off.one (by decide))
                            refine lv_iconst (v := nI 0) hx hb dX5_fork_269 (by decide) ?_
                            refine lv_istore (lv' := [(6, .int (nI (0))), (0, .ref (h)), (1, .int (nI (j))), (2, .int (nI (t1))), (3, .int (all)), (4, .int (own)), (5, .int (nI (tN τ)))]) hx hb dX5_fork_270 hl (by decide) rfl (fun ls hl => ?_)
                            have ld : ∀ (n_ld : Nat) (i : Nat) (β4 : Nat → Nat → Int32) (H : Heap) (locs : List Loc) (ls : Array Slot), (i ≤ 8) → (8 + 1 ≤ i + n_ld) → (va_P g.1 vwCl (wM g h ad (upd (upd φ1 6 (nI (tN τ + 1))) 5 ((tClk τ) + (1))) β4) H) → (va_S (wA g h ad) s.heap H locs) → (∀ k, k ≠ 20 → β4 k = α3 k) → (∀ q, q < i → β4 20 (8 * tN τ + q) = α 20 (8 * j + q)) → (∀ q, (∀ x, x < i → q ≠ 8 * tN τ + x) → β4 20 q = α3 20 q) → lv_has ls 7 [(0, .ref (h)), (1, .int (nI (j))), (2, .int (nI (t1))), (3, .int (all)), (4, .int (own)), (5, .int (nI (tN τ))), (6, .int (nI (i)))] → W p l e ({ frames := 3, cells := 0, slots := 0, locals := 78 } : Room) s m ([.ref (h), .int (nI (j)), .int (nI (t1)), .int (all), .int (own)] : List Value).toArray below meth c H locs 0 0 (MQ below (mQ (wA g h ad) (fun z H => z = some (.int (forkA τ (nI j) (nI t1) all own)) ∧ MdH g h ad (forkT τ (nI j) (nI t1) all own) H)) (([.ref (h), .int (nI (j)), .int (nI (t1)), .int (all), .int (own)] : List Value).toArray) s 0 0 (wA g h ad)) (F0 m 272 ls []) := by
                              intro n_ld
                              induction n_ld with
                              | zero =>
                                intro i β4 H locs ls hi hnld hM hS he_ld hin_ld hou_ld
                                exact absurd hnld (by omega)
                              | succ n_ld ih_ld =>
                                intro i β4 H locs ls hi hnld hM hS he_ld hin_ld hou_ld hl
                                refine lv_iload hx hb dX5_fork_272 (lv_at hl 6 rfl) ?_
                                refine lv_bipush (v := nI 8) hx hb dX5_fork_274 (by decide) ?_
                                refine n_icmp_ge (tgt := 310) C (by omega) (by omega) dX5_fork_276 (by decide) (fun c276 => ?_) (fun c276 => ?_)
                                · skip
                                  have O6 : Off (tN τ) α3 β4 := Off.of20 he_ld (fun q hq => hou_ld q (fun x hx => hq x (by omega)))
                                  have OB4 : Off (tN τ) α β4 := OB3.tr (O5.tr O6)
                                  refine lv_aload_n hx hb dX5_fork_310 rfl (lv_at hl 0 rfl) ?_
                                  refine q_get C f_X5_65 hM 0 rw_0 ro_21 dX5_fork_311 ?_
                                  refine lv_iload hx hb dX5_fork_314 (lv_at hl 5 rfl) ?_
                                  refine lv_aload_n hx hb dX5_fork_316 rfl (lv_at hl 0 rfl) ?_
                                  refine q_get C f_X5_65 hM 0 rw_0 ro_21 dX5_fork_317 ?_
                                  refine lv_iload_n hx hb dX5_fork_320 rfl (lv_at hl 1 rfl) ?_
                                  refine n_zald C hM 19 rw_21 (by omega) (by decide) dX5_fork_321 ?_
                                  refine w_topi (y := (bI (rSd (tRun τ j)))) ((OB4.2.1 21 (by decide) j hjn).trans R_j.sd) ?_
                                  refine ra_21 C hM hD hS (by omega) (by first | exact Or.inl rfl | exact Or.inr rfl | exact bI_or _ | assumption) dX5_fork_322 (fun H locs hM hS => ?_)
                                  refine lv_aload_n hx hb dX5_fork_323 rfl (lv_at hl 0 rfl) ?_
                                  refine q_get C f_X5_68 hM 0 rw_0 ro_22 dX5_fork_324 ?_
                                  refine lv_iload hx hb dX5_fork_327 (lv_at hl 5 rfl) ?_
                                  refine lv_aload_n hx hb dX5_fork_329 rfl (lv_at hl 0 rfl) ?_
                                  refine q_get C f_X5_68 hM 0 rw_0 ro_22 dX5_fork_330 ?_
                                  refine lv_iload_n hx hb dX5_fork_333 rfl (lv_at hl 1 rfl) ?_
                                  refine n_zald C hM 20 rw_22 (by omega) (by decide) dX5_fork_334 ?_
                                  refine w_topi (y := (bI (rCk (tRun τ j)))) ((OB4.2.1 22 (by decide) j hjn).trans R_j.ck) ?_
                                  refine ra_22 C hM hD hS (by omega) (by first | exact Or.inl rfl | exact Or.inr rfl | exact bI_or _ | assumption) dX5_fork_335 (fun H locs hM hS => ?_)
                                  obtain ⟨α4, hα4⟩ : ∃ b : Nat → Nat → Int32, b = (aset (aset β4 21 (tN τ) (bI (rSd (tRun τ j)))) 22 (tN τ) (bI (rCk (tRun τ j)))) := ⟨_, rfl⟩
                                  rw [← hα4] at hM
                                  have a4n : ∀ k, k ≠ 21 → k ≠ 22 → α4 k = β4 k := fun k h1 h2 => by rw [hα4, asetN _ _ _ h2, asetN _ _ _ h1]
                                  have a4r : α4 21 (tN τ) = bI (rSd (tRun τ j)) ∧ α4 22 (tN τ) = bI (rCk (tRun τ j)) := by rw [hα4]; simp [aset, upd]
                                  have O7 : Off (tN τ) α α4 := by rw [hα4]; exact OB4.tr ((Off.one (by decide)).tr (Off.one (by decide)))
                                  have d18 : α4 8 (tN τ) = nI (rStp (tRun τ j)).length := by rw [a4n 8 (by decide) (by decide), he_ld 8 (by decide), a3n 8 (by decide) (by decide), he_lc 8 (by decide), a2n 8 (by decide) (by decide) (by decide) (by decide) (by decide) , he_la 8 (by decide)]; exact a18
                                  have d17 : α4 7 (tN τ) = nI (rCode (tRun τ j)) := by rw [a4n 7 (by decide) (by decide), he_ld 7 (by decide), a3n 7 (by decide) (by decide), he_lc 7 (by decide), a2n 7 (by decide) (by decide) (by decide) (by decide) (by decide) , he_la 7 (by decide)]; exact a17
                                  have d19 : ∀ x, x < (rStp (tRun τ j)).length → α4 9 (8 * tN τ + x) = nI ((rStp (tRun τ j)).getD x 0) := fun x hx => by rw [a4n 9 (by decide) (by decide), he_ld 9 (by decide), a3n 9 (by decide) (by decide), he_lc 9 (by decide), a2n 9 (by decide) (by decide) (by decide) (by decide) (by decide) , hin_la x (by omega)]; exact R_j.stp hx
                                  have d2 : ∀ k, k ∈ [10, 11, 12, 16, 17] → α4 k = α2 k := fun k hk => by
                                    simp only [List.mem_cons, List.not_mem_nil, or_false] at hk
                                    rw [a4n k (by omega) (by omega), he_ld k (by omega), a3n k (by omega) (by omega), he_lc k (by omega)]
                                  have d14 : ∀ x, x < t1 → α4 14 (16 * tN τ + x) = (rRow (tRun τ j)).getD x 0 := fun x hx => by rw [a4n 14 (by decide) (by decide), he_ld 14 (by decide), a3n 14 (by decide) (by decide), hin_lc x (by omega)]; exact R_j.row (by omega)
                                  have d3 : α4 18 (tN τ) = rRS (tRun τ j) ∧ α4 19 (tN τ) = rRW (tRun τ j) := by rw [a4n 18 (by decide) (by decide), a4n 19 (by decide) (by decide), he_ld 18 (by decide), he_ld 19 (by decide)]; exact a3r
                                  have d20 : ∀ x, x < 8 → α4 20 (8 * tN τ + x) = α 20 (8 * j + x) := fun x hx => by rw [a4n 20 (by decide) (by decide), hin_ld x (by omega)]
                                  have d12 : α4 12 (tN τ) = nI (rTk (tRun τ j)) := by rw [d2 12 (by decide)]; exact a2r.2.2.1
                                  have jn : ∀ (x0 : Int32) (ls : Array Slot), (x0 = lastR ((rRow (tRun τ j)).take t1)) → lv_has ls 7 [(0, .ref (h)), (1, .int (nI (j))), (2, .int (nI (t1))), (3, .int (all)), (4, .int (own)), (5, .int (nI (tN τ))), (6, .int (nI (i)))] → W p l e ({ frames := 3, cells := 0, slots := 0, locals := 78 } : Room) s m ([.ref (h), .int (nI (j)), .int (nI (t1)), .int (all), .int (own)] : List Value).toArray below meth c H locs 0 0 (MQ below (mQ (wA g h ad) (fun z H => z = some (.int (forkA τ (nI j) (nI t1) all own)) ∧ MdH g h ad (forkT τ (nI j) (nI t1) all own) H)) (([.ref (h), .int (nI (j)), .int (nI (t1)), .int (all), .int (own)] : List Value).toArray) s 0 0 (wA g h ad)) (F0 m 362 ls [.int (x0), .int (nI (t1)), .int (nI (tN τ)), .ref (h)]) := by
                                    intro x0 ls hx0 hl
                                    subst hx0
                                    refine lv_iload_n hx hb dX5_fork_362 rfl (lv_at hl 3 rfl) ?_
                                    refine lv_iload hx hb dX5_fork_363 (lv_at hl 4 rfl) ?_
                                    refine lv_aload_n hx hb dX5_fork_365 rfl (lv_at hl 0 rfl) ?_
                                    refine q_get C f_X5_37 hM 0 rw_0 ro_12 dX5_fork_366 ?_
                                    refine lv_iload hx hb dX5_fork_369 (lv_at hl 5 rfl) ?_
                                    refine n_iald C hM 10 rw_12 (by omega) (by decide) dX5_fork_371 ?_
                                    refine w_topi (y := (nI (rTk (tRun τ j)))) (d12) ?_
                                    refine k_w (c_V (As := [.int (nI (tN τ)), .int (nI (t1)), .int (lastR ((rRow (tRun τ j)).take t1)), .int (all), .int (own), .int (nI (rTk (tRun τ j)))]) (rest := []) C v_X5_134 (c5_goes l g h ad (upd (upd φ1 6 (nI (tN τ + 1))) 5 ((tClk τ) + (1))) α4 hD (tDat τ) (tClk τ + 1) all own (rStp (tRun τ j)) (tN τ) t1 (rTk (tRun τ j)) (lastR ((rRow (tRun τ j)).take t1)) ((rRow (tRun τ j)).take t1) (by omega) BL_j BQ_j d18 d19 (by omega) (by omega) hlt (fun i hi => by rw [O7.1 3 (by decide)]; exact hR.dat hi) rfl) ⟨Nat.le_of_ble_eq_true rfl, Nat.le_of_ble_eq_true rfl⟩ (q_recv C hM 0 rw_0 rfl) (hM) hl.1 rfl rfl (Nat.le_of_ble_eq_true rfl) dX5_fork_372 ⟨Nat.le_of_ble_eq_true rfl, Nat.le_of_ble_eq_true rfl⟩) hS (fun _ hq => hq) (fun r372 H1 locs q372 hz372 hk372 hS => ?_)
                                    obtain ⟨rfl, ψ, γ, hM, o, hk, hg, hrow⟩ := q372
                                    rw [← hG2] at o hrow
                                    have g21 : γ 21 (tN τ) = bI (rSd (tRun τ j)) := by rw [hg 21 (by decide)]; exact a4r.1
                                    have g22 : γ 22 (tN τ) = bI (rCk (tRun τ j)) := by rw [hg 22 (by decide)]; exact a4r.2
                                    refine W.eq (g2 := F0 m 375 ls []) rfl ?_
                                    refine lv_aload_n hx hb dX5_fork_375 rfl (lv_at hl 0 rfl) ?_
                                    refine lv_iload hx hb dX5_fork_376 (lv_at hl 5 rfl) ?_
                                    refine lv_iload_n hx hb dX5_fork_378 rfl (lv_at hl 2 rfl) ?_
                                    refine k_w (c_V (As := [.int (nI (tN τ)), .int (nI (t1))]) (rest := []) C v_X5_138 (c5_takes l g h ad ψ γ hD (tN τ) t1 G.2.length (xSt G.1) (xSd G.1) (xCk G.1) (rSd (tRun τ j)) (rCk (tRun τ j)) (by omega) hGl gl.1 o.1 o.2.1 o.2.2.2.2.1 o.2.2.2.2.2 g21 g22) ⟨Nat.le_of_ble_eq_true rfl, Nat.le_of_ble_eq_true rfl⟩ (q_recv C hM 0 rw_0 rfl) (hM) hl.1 rfl rfl (Nat.le_of_ble_eq_true rfl) dX5_fork_379 ⟨Nat.le_of_ble_eq_true rfl, Nat.le_of_ble_eq_true rfl⟩) hS (fun _ hq => hq) (fun r379 H1 locs q379 hz379 hk379 hS => ?_)
                                    obtain ⟨rfl, δ, hM, tk⟩ := q379
                                    have O9 : Off (tN τ) α δ := O7.tr ((Off.of23 hg).tr (Off.ofTK tk hGl))
                                    have tn := tk.1
                                    have tr := tk.2.2.1
                                    have hN : RunR δ (tN τ) (newFork τ j t1 all own) := by
                                      have eG : xRun (tDat τ) (tClk τ + 1) all own (rStp (tRun τ j)) (rTk (tRun τ j)) ((rRow (tRun τ j)).take t1) = G := hG.symm
                                      refine ⟨?_, ?_, fun j hj => ?_, ?_, ?_, ?_, ?_, fun t ht => ?_, ?_, ?_, ?_, ?_, ?_, fun i hi hbb => ?_, ?_, ?_⟩
                                      · rw [tn 7 (by decide) (by decide) (by decide) (by decide) (by decide) (by decide) (by decide) (by decide) , hg 7 (by decide)]; exact d17
                                      · rw [tn 8 (by decide) (by decide) (by decide) (by decide) (by decide) (by decide) (by decide) (by decide) , hg 8 (by decide)]; exact d18
                                      · rw [tn 9 (by decide) (by decide) (by decide) (by decide) (by decide) (by decide) (by decide) (by decide) , hg 9 (by decide)]; exact d19 _ hj
                                      · rw [tn 10 (by decide) (by decide) (by decide) (by decide) (by decide) (by decide) (by decide) (by decide) , hg 10 (by decide), d2 10 (by decide)]; exact a2r.1
                                      · rw [tn 11 (by decide) (by decide) (by decide) (by decide) (by decide) (by decide) (by decide) (by decide) , hg 11 (by decide), d2 11 (by decide)]; exact a2r.2.1
                                      · rw [tn 12 (by decide) (by decide) (by decide) (by decide) (by decide) (by decide) (by decide) (by decide) , hg 12 (by decide)]; exact d12
                                      · rw [tr.1, ← eG]; rfl
                                      · replace ht : t < G.2.length := by rw [← eG]; exact ht
                                        have e2 : (rRow (newFork τ j t1 all own)).getD t 0 = G.2.getD t 0 := by rw [← eG]; rfl
                                        rw [e2]
                                        rcases Nat.lt_or_ge t t1 with h3 | h3
                                        · rw [tk.2.2.2.2.1 _ (fun x hx1 hx2 => by omega), hg 14 (by decide), d14 t h3, gl.2.2.2 t h3, takeGet h3]
                                        · rw [tk.2.2.2.1 t h3 ht, hrow t h3 ht]
                                      · rw [tr.2.1, ← eG]; rfl
                                      · rw [tn 16 (by decide) (by decide) (by decide) (by decide) (by decide) (by decide) (by decide) (by decide) , hg 16 (by decide), d2 16 (by decide)]; exact a2r.2.2.2.1
                                      · rw [tn 17 (by decide) (by decide) (by decide) (by decide) (by decide) (by decide) (by decide) (by decide) , hg 17 (by decide), d2 17 (by decide)]; exact a2r.2.2.2.2
                                      · rw [tr.2.2.1, hg 18 (by decide), d3.1, o.2.2.1, ← eG]; rfl
                                      · rw [tr.2.2.2.1, hg 19 (by decide), d3.2, o.2.2.2.1, ← eG]; rfl
                                      · replace hbb : hasB (rRW (tRun τ j) ||| xRW G.1) i = true := by rw [← eG]; exact hbb
                                        rw [tk.2.2.2.2.2.1 i hi, o.2.2.2.1, hg 3 (by decide), hg 20 (by decide), d20 i hi, O7.1 3 (by decide), hR.dat hi]
                                        show _ = if hasB (xRW (xRun (tDat τ) (tClk τ + 1) all own (rStp (tRun τ j)) (rTk (tRun τ j)) ((rRow (tRun τ j)).take t1)).1) i then tDat τ i else rWas (tRun τ j) i
                                        rw [eG]
                                        by_cases hx : hasB (xRW G.1) i = true
                                        · rw [if_pos hx, if_pos hx]
                                        · rw [if_neg hx, if_neg hx]
                                          rw [hasOr] at hbb
                                          exact R_j.was hi (by simpa [hx] using hbb)
                                      · rw [tr.2.2.2.2.1, ← eG]; rfl
                                      · rw [tr.2.2.2.2.2, ← eG]; rfl
                                    refine W.eq (g2 := F0 m 382 ls []) rfl ?_
                                    refine lv_iload hx hb dX5_fork_382 (lv_at hl 5 rfl) ?_
                                    exact r_wi C hr hlk hS (⟨sv (by rw [forkA, hcan, if_pos rfl]), ψ, δ, hM, by rw [forkT, hcan, if_pos rfl, ecl, ect]; exact hR.push hT (by rw [hk 5 (by omega)]; rfl) (by rw [hk 6 (by omega)]; rfl) (hk 35 (by omega)) O9 hN⟩) dX5_fork_384
                                  refine lv_aload_n hx hb dX5_fork_336 rfl (lv_at hl 0 rfl) ?_
                                  refine lv_iload hx hb dX5_fork_337 (lv_at hl 5 rfl) ?_
                                  refine lv_iload_n hx hb dX5_fork_339 rfl (lv_at hl 2 rfl) ?_
                                  refine lv_iload_n hx hb dX5_fork_340 rfl (lv_at hl 2 rfl) ?_
                                  refine n_ifne (tgt := 348) C (by omega) dX5_fork_341 (by decide) (fun c341 => ?_) (fun c341 => ?_)
                                  · skip
                                    refine lv_aload_n hx hb dX5_fork_348 rfl (lv_at hl 0 rfl) ?_
                                    refine q_get C f_X5_43 hM 0 rw_0 ro_14 dX5_fork_349 ?_
                                    refine lv_bipush (v := nI 16) hx hb dX5_fork_352 (by decide) ?_
                                    refine lv_iload hx hb dX5_fork_354 (lv_at hl 5 rfl) ?_
                                    refine n_imul C dX5_fork_356 ?_
                                    refine lv_iload_n hx hb dX5_fork_357 rfl (lv_at hl 2 rfl) ?_
                                    refine n_iadd C dX5_fork_358 ?_
                                    refine lv_iconst (v := nI 1) hx hb dX5_fork_359 (by decide) ?_
                                    refine n_isub C (by omega) dX5_fork_360 ?_
                                    refine n_iald C hM 12 rw_14 (by omega) (by decide) dX5_fork_361 ?_
                                    refine w_topi (y := ((rRow (tRun τ j)).getD (t1 - 1) 0)) (by rw [show 16 * tN τ + t1 - 1 = 16 * tN τ + (t1 - 1) by omega]; exact d14 _ (by omega)) ?_
                                    exact jn ((rRow (tRun τ j)).getD (t1 - 1) 0) ls (by rw [lastTake c341 ht1]) (lv_sub hl [0, 1, 2, 3, 4, 5, 6] rfl)
                                  · skip
                                    refine lv_iconst (v := 0) hx hb dX5_fork_344 (by decide) ?_
                                    refine lv_goto (tgt := 362) hx hb dX5_fork_345 (by decide) ?_
                                    exact jn (0) ls (by rw [c341, lastTake0]) (lv_sub hl [0, 1, 2, 3, 4, 5, 6] rfl)
                                · skip
                                  refine lv_aload_n hx hb dX5_fork_279 rfl (lv_at hl 0 rfl) ?_
                                  refine q_get C f_X5_62 hM 0 rw_0 ro_20 dX5_fork_280 ?_
                                  refine lv_bipush (v := nI 8) hx hb dX5_fork_283 (by decide) ?_
                                  refine lv_iload hx hb dX5_fork_285 (lv_at hl 5 rfl) ?_
                                  refine n_imul C dX5_fork_287 ?_
                                  refine lv_iload hx hb dX5_fork_288 (lv_at hl 6 rfl) ?_
                                  refine n_iadd C dX5_fork_290 ?_
                                  refine lv_aload_n hx hb dX5_fork_291 rfl (lv_at hl 0 rfl) ?_
                                  refine q_get C f_X5_62 hM 0 rw_0 ro_20 dX5_fork_292 ?_
                                  refine lv_bipush (v := nI 8) hx hb dX5_fork_295 (by decide) ?_
                                  refine lv_iload_n hx hb dX5_fork_297 rfl (lv_at hl 1 rfl) ?_
                                  refine n_imul C dX5_fork_298 ?_
                                  refine lv_iload hx hb dX5_fork_299 (lv_at hl 6 rfl) ?_
                                  refine n_iadd C dX5_fork_301 ?_
                                  refine n_iald C hM 18 rw_20 (by omega) (by decide) dX5_fork_302 ?_
                                  refine w_topi (y := (α 20 (8 * j + i))) (by rw [hou_ld _ (fun x hx => by omega), a3n 20 (by decide) (by decide)]; exact OB3.2.2.2.2 _ (fun x hx => by omega)) ?_
                                  refine ra_20 C hM hD hS (by omega) dX5_fork_303 (fun H locs hM hS => ?_)
                                  refine n_iinc (d := 1) (lv' := [(6, .int (nI (i + 1))), (0, .ref (h)), (1, .int (nI (j))), (2, .int (nI (t1))), (3, .int (all)), (4, .int (own)), (5, .int (nI (tN τ)))]) C dX5_fork_304 (by decide) hl (k := 6) rfl (by decide) rfl (fun ls hl => ?_)
                                  refine lv_goto (tgt := 272) hx hb dX5_fork_307 (by decide) ?_
                                  exact ih_ld (i + 1) ((aset β4 20 ((8 * (tN τ)) + i) (α 20 (8 * j + i)))) (H) (locs) ls (by omega) (by omega) (hM) (hS) (fun k hk => (asetN _ _ _ hk).trans (he_ld k hk)) (fun q h2 => by
                               rcases Nat.lt_or_ge q i with h3 | h3
                               · rw [asetO _ _ _ (by omega)]; exact hin_ld q h3
                               · rw [show q = i by omega, asetV]) (fun q hq => (asetO _ _ _ (hq i (by omega))).trans (hou_ld q (fun x hx => hq x (by omega)))) (lv_sub hl [1, 2, 3, 4, 5, 6, 0] rfl)
                            exact ld (8 + 1) (0) (α3) (H) (locs) ls (by omega) (by omega) (hM) (hS) (fun _ _ => rfl) (fun q h2 => absurd h2 (by omega)) (fun _ _ => rfl) (lv_sub hl [1, 2, 3, 4, 5, 6, 0] rfl)
                          · skip
                            refine lv_aload_n hx hb dX5_fork_212 rfl (lv_at hl 0 rfl) ?_
                            refine q_get C f_X5_43 hM 0 rw_0 ro_14 dX5_fork_213 ?_
                            refine lv_bipush (v := nI 16) hx hb dX5_fork_216 (by decide) ?_
                            refine lv_iload hx hb dX5_fork_218 (lv_at hl 5 rfl) ?_
                            refine n_imul C dX5_fork_220 ?_
                            refine lv_iload hx hb dX5_fork_221 (lv_at hl 6 rfl) ?_
                            refine n_iadd C dX5_fork_223 ?_
                            refine lv_aload_n hx hb dX5_fork_224 rfl (lv_at hl 0 rfl) ?_
                            refine q_get C f_X5_43 hM 0 rw_0 ro_14 dX5_fork_225 ?_
                            refine lv_bipush (v := nI 16) hx hb dX5_fork_228 (by decide) ?_
                            refine lv_iload_n hx hb dX5_fork_230 rfl (lv_at hl 1 rfl) ?_
                            refine n_imul C dX5_fork_231 ?_
                            refine lv_iload hx hb dX5_fork_232 (lv_at hl 6 rfl) ?_
                            refine n_iadd C dX5_fork_234 ?_
                            refine n_iald C hM 12 rw_14 (by omega) (by decide) dX5_fork_235 ?_
                            refine w_topi (y := (α 14 (16 * j + i))) (by rw [hou_lc _ (fun x hx => by omega)]; exact OA2.2.2.2.1 _ (fun x hx => by omega)) ?_
                            refine ra_14 C hM hD hS (by omega) dX5_fork_236 (fun H locs hM hS => ?_)
                            refine n_iinc (d := 1) (lv' := [(6, .int (nI (i + 1))), (0, .ref (h)), (1, .int (nI (j))), (2, .int (nI (t1))), (3, .int (all)), (4, .int (own)), (5, .int (nI (tN τ)))]) C dX5_fork_237 (by decide) hl (k := 6) rfl (by decide) rfl (fun ls hl => ?_)
                            refine lv_goto (tgt := 206) hx hb dX5_fork_240 (by decide) ?_
                            exact ih_lc (i + 1) ((aset β3 14 ((16 * (tN τ)) + i) (α 14 (16 * j + i)))) (H) (locs) ls (by omega) (by omega) (hM) (hS) (fun k hk => (asetN _ _ _ hk).trans (he_lc k hk)) (fun q h2 => by
                               rcases Nat.lt_or_ge q i with h3 | h3
                               · rw [asetO _ _ _ (by omega)]; exact hin_lc q h3
                               · rw [show q = i by omega, asetV]) (fun q hq => (asetO _ _ _ (hq i (by omega))).trans (hou_lc q (fun x hx => hq x (by omega)))) (lv_sub hl [1, 2, 3, 4, 5, 6, 0] rfl)
                      exact lc (t1 + 1) (0) (α2) (H) (locs) ls (by omega) (by omega) (hM) (hS) (fun _ _ => rfl) (fun q h2 => absurd h2 (by omega)) (fun _ _ => rfl) (lv_sub hl [1, 2, 3, 4, 5, 6, 0] rfl)
                    · skip
                      refine lv_aload_n hx hb dX5_fork_126 rfl (lv_at hl 0 rfl) ?_
                      refine q_get C f_X5_28 hM 0 rw_0 ro_9 dX5_fork_127 ?_
                      refine lv_bipush (v := nI 8) hx hb dX5_fork_130 (by decide) ?_
                      refine lv_iload hx hb dX5_fork_132 (lv_at hl 5 rfl) ?_
                      refine n_imul C dX5_fork_134 ?_
                      refine lv_iload hx hb dX5_fork_135 (lv_at hl 6 rfl) ?_
                      refine n_iadd C dX5_fork_137 ?_
                      refine lv_aload_n hx hb dX5_fork_138 rfl (lv_at hl 0 rfl) ?_
                      refine q_get C f_X5_28 hM 0 rw_0 ro_9 dX5_fork_139 ?_
                      refine lv_bipush (v := nI 8) hx hb dX5_fork_142 (by decide) ?_
                      refine lv_iload_n hx hb dX5_fork_144 rfl (lv_at hl 1 rfl) ?_
                      refine n_imul C dX5_fork_145 ?_
                      refine lv_iload hx hb dX5_fork_146 (lv_at hl 6 rfl) ?_
                      refine n_iadd C dX5_fork_148 ?_
                      refine n_iald C hM 7 rw_9 (by omega) (by decide) dX5_fork_149 ?_
                      refine w_topi (y := (α 9 (8 * j + i))) (by rw [hou_la _ (fun x hx => by omega), a1n 9 (by decide) (by decide)]) ?_
                      refine ra_9 C hM hD hS (by omega) dX5_fork_150 (fun H locs hM hS => ?_)
                      refine n_iinc (d := 1) (lv' := [(6, .int (nI (i + 1))), (0, .ref (h)), (1, .int (nI (j))), (2, .int (nI (t1))), (3, .int (all)), (4, .int (own)), (5, .int (nI (tN τ)))]) C dX5_fork_151 (by decide) hl (k := 6) rfl (by decide) rfl (fun ls hl => ?_)
                      refine lv_goto (tgt := 119) hx hb dX5_fork_154 (by decide) ?_
                      exact ih_la (i + 1) ((aset β 9 ((8 * (tN τ)) + i) (α 9 (8 * j + i)))) (H) (locs) ls (by omega) (by omega) (hM) (hS) (fun k hk => (asetN _ _ _ hk).trans (he_la k hk)) (fun q h2 => by
                               rcases Nat.lt_or_ge q i with h3 | h3
                               · rw [asetO _ _ _ (by omega)]; exact hin_la q h3
                               · rw [show q = i by omega, asetV]) (fun q hq => (asetO _ _ _ (hq i (by omega))).trans (hou_la q (fun x hx => hq x (by omega)))) (lv_sub hl [1, 2, 3, 4, 5, 6, 0] rfl)
                exact la (8 + 1) (0) (α1) (H) (locs) ls (by omega) (by omega) (hM) (hS) (fun _ _ => rfl) (fun q h2 => absurd h2 (by omega)) (fun _ _ => rfl) (lv_sub hl [2, 3, 4, 5, 6, 1, 0] rfl)
              · skip
                refine lv_iconst (v := (-1)) hx hb dX5_fork_62 (by decide) ?_
                exact r_wi C hr hlk hS (⟨sv (by rw [forkA, show canFork τ (nI j) t all own = false by simp [canFork, ecl, c59]]; rfl), φ1, α, hM, by rw [forkT, show canFork τ (nI j) t all own = false by simp [canFork, ecl, c59]]; exact hR⟩) dX5_fork_63

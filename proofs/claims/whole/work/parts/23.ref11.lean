/-! THE REFERENCE: again -/
set_option maxHeartbeats 4000000 in
set_option maxRecDepth 100000 in
theorem c5_again (l : Launch) (g : GG) (h : Nat) (ad : Nat → Nat) (τ : TB) (hT : TOK τ) (hD : wD (wA g h ad) g h ad) (r : Int32) : Met l yX5_again (.code yX5_again cX5_again 6 (some .int) :: wsL_law) ({ frames := 3, cells := 0, slots := 0, locals := 78 } : Room) (mP g [.ref (h), .int (r)] (MdH g h ad τ)) (mQ (wA g h ad) (fun z H => z = some (.int (againA τ r)) ∧ MdH g h ad (againT τ r) H)) 0 0 (wA g h ad) := by
  refine mMet (by decide) (Nat.le_of_ble_eq_true rfl) ?_
  intro p e s m below meth c C hr hlk hnm hM ls hl
  have hx := C.1.1
  have hb := C.1.2.1
  have hl : lv_has ls 6 [(0, .ref (h)), (1, .int (r))] := hl
  obtain ⟨φ, α, hM, hR⟩ := hM
  have hS : va_S (wA g h ad) s.heap s.heap [] := va_S.rf
  have h40 := hT.2.2.1
  refine lv_aload_n hx hb dX5_again_0 rfl (lv_at hl 0 rfl) ?_
  refine lv_iconst (v := 0) hx hb dX5_again_1 (by decide) ?_
  refine rp_0 C hM hD hS dX5_again_2 (fun H locs hM hS => ?_)
  have hR : MdR (upd φ 0 0) α τ := hR
  generalize upd φ 0 0 = φ1 at hM hR
  have hrec := q_recv C hM 0 rw_0 rfl
  refine lv_aload_n hx hb dX5_again_5 rfl (lv_at hl 0 rfl) ?_
  refine lv_iload_n hx hb dX5_again_6 rfl (lv_at hl 1 rfl) ?_
  refine k_i (c_V (As := [.int (r)]) (rest := []) C v_X5_142 (c5_isRun l g h ad φ1 α τ hR hT (r)) ⟨Nat.le_of_ble_eq_true rfl, Nat.le_of_ble_eq_true rfl⟩ (hrec) (hM) hl.1 rfl rfl (Nat.le_of_ble_eq_true rfl) dX5_again_7 ⟨Nat.le_of_ble_eq_true rfl, Nat.le_of_ble_eq_true rfl⟩) (fun r7 q7 => ?_)
  subst q7
  refine b_ifne (tgt := 15) C dX5_again_10 (by decide) (fun c10 => ?_) (fun c10 => ?_)
  · skip
    have c10b := c10
    obtain ⟨j, hj, rfl⟩ := isRun_nI c10 h40
    have R_j := hR.run hj
    have T_j := hT.2.2.2.1 j hj
    have BC_j := T_j.1
    have BL_j := T_j.2.1
    have BT0_j := T_j.2.2.2.2.2.1
    have BT_j := T_j.2.2.2.2.2.2.1
    have BR_j := T_j.2.2.2.2.2.2.2.1
    have BQ_j : ∀ jq, jq < (rStp (tRun τ j)).length → (rStp (tRun τ j)).getD jq 0 < 256 := fun jq hj => T_j.2.2.1 _ (getD_mem hj)
    have ecl : (nI j).toNatClampNeg = j := nI_clamp (by omega)
    refine lv_aload_n hx hb dX5_again_15 rfl (lv_at hl 0 rfl) ?_
    refine lv_aload_n hx hb dX5_again_16 rfl (lv_at hl 0 rfl) ?_
    refine q_get C f_X5_109 hM 0 rw_0 ro_5 dX5_again_17 ?_
    refine w_topi (y := (tClk τ)) (hR.clk) ?_
    refine lv_iconst (v := 1) hx hb dX5_again_20 (by decide) ?_
    refine lv_iadd hx hb dX5_again_21 ?_
    refine rp_5 C hM hD hS dX5_again_22 (fun H locs hM hS => ?_)
    have j1 : ∀ (a : Nat) (ls : Array Slot), (a = atN (tRun τ j)) → (a ≤ (rRow (tRun τ j)).length) → lv_has ls 6 [(0, .ref (h)), (1, .int (nI (j))), (2, .int (nI (a)))] → W p l e ({ frames := 3, cells := 0, slots := 0, locals := 78 } : Room) s m ([.ref (h), .int (nI (j))] : List Value).toArray below meth c H locs 0 0 (MQ below (mQ (wA g h ad) (fun z H => z = some (.int (againA τ (nI j))) ∧ MdH g h ad (againT τ (nI j)) H)) (([.ref (h), .int (nI (j))] : List Value).toArray) s 0 0 (wA g h ad)) (F0 m 46 ls []) := by
      intro a ls ha hal hl
      have hlt : ((rRow (tRun τ j)).take a).length = a := takeLen hal
      obtain ⟨G, hG⟩ : ∃ G : XS × List Int32, G = agR τ (tRun τ j) := ⟨_, rfl⟩
      have hG2 : G = xGo (tDat τ) (tClk τ + 1) (rSet (tRun τ j)) (rSeed (tRun τ j)) (rStp (tRun τ j)) (rTk (tRun τ j) - a) a (lastR ((rRow (tRun τ j)).take a), 0, 0, false, false, false) ((rRow (tRun τ j)).take a) := by rw [hG, agR, ← ha, xRun, hlt]
      have gl := xG_len (tDat τ) (tClk τ + 1) (rSet (tRun τ j)) (rSeed (tRun τ j)) (rStp (tRun τ j)) (rTk (tRun τ j) - a) a (lastR ((rRow (tRun τ j)).take a), 0, 0, false, false, false) ((rRow (tRun τ j)).take a) hlt
      rw [← hG2] at gl
      have hGl := gl.2.1
      obtain ⟨Z, hZ⟩ : ∃ Z : Nat, Z = fstE (difB (rRow (tRun τ j)) G.2) (rTk (tRun τ j) - a) a := ⟨_, rfl⟩
      have j2 : ∀ (x0 : Int32) (ls : Array Slot), (x0 = lastR ((rRow (tRun τ j)).take a)) → lv_has ls 6 [(0, .ref (h)), (1, .int (nI (j))), (2, .int (nI (a)))] → W p l e ({ frames := 3, cells := 0, slots := 0, locals := 78 } : Room) s m ([.ref (h), .int (nI (j))] : List Value).toArray below meth c H locs 0 0 (MQ below (mQ (wA g h ad) (fun z H => z = some (.int (againA τ (nI j))) ∧ MdH g h ad (againT τ (nI j)) H)) (([.ref (h), .int (nI (j))] : List Value).toArray) s 0 0 (wA g h ad)) (F0 m 70 ls [.int (x0), .int (nI (a)), .int (nI (j)), .ref (h)]) := by
        intro x0 ls hx0 hl
        subst hx0
        refine lv_aload_n hx hb dX5_again_70 rfl (lv_at hl 0 rfl) ?_
        refine q_get C f_X5_31 hM 0 rw_0 ro_10 dX5_again_71 ?_
        refine lv_iload_n hx hb dX5_again_74 rfl (lv_at hl 1 rfl) ?_
        refine n_iald C hM 8 rw_10 (by omega) (by decide) dX5_again_75 ?_
        refine w_topi (y := (rSet (tRun τ j))) (R_j.set) ?_
        refine lv_aload_n hx hb dX5_again_76 rfl (lv_at hl 0 rfl) ?_
        refine q_get C f_X5_34 hM 0 rw_0 ro_11 dX5_again_77 ?_
        refine lv_iload_n hx hb dX5_again_80 rfl (lv_at hl 1 rfl) ?_
        refine n_iald C hM 9 rw_11 (by omega) (by decide) dX5_again_81 ?_
        refine w_topi (y := (rSeed (tRun τ j))) (R_j.seed) ?_
        refine lv_aload_n hx hb dX5_again_82 rfl (lv_at hl 0 rfl) ?_
        refine q_get C f_X5_37 hM 0 rw_0 ro_12 dX5_again_83 ?_
        refine lv_iload_n hx hb dX5_again_86 rfl (lv_at hl 1 rfl) ?_
        refine n_iald C hM 10 rw_12 (by omega) (by decide) dX5_again_87 ?_
        refine w_topi (y := (nI (rTk (tRun τ j)))) (R_j.tk) ?_
        refine k_w (c_V (As := [.int (nI (j)), .int (nI (a)), .int (lastR ((rRow (tRun τ j)).take a)), .int (rSet (tRun τ j)), .int (rSeed (tRun τ j)), .int (nI (rTk (tRun τ j)))]) (rest := []) C v_X5_134 (c5_goes l g h ad (upd φ1 5 ((tClk τ) + (1))) α hD (tDat τ) (tClk τ + 1) (rSet (tRun τ j)) (rSeed (tRun τ j)) (rStp (tRun τ j)) j a (rTk (tRun τ j)) (lastR ((rRow (tRun τ j)).take a)) ((rRow (tRun τ j)).take a) (by omega) BL_j BQ_j R_j.len (fun x hx => R_j.stp hx) (by omega) (by omega) hlt (fun i hi => hR.dat hi) rfl) ⟨Nat.le_of_ble_eq_true rfl, Nat.le_of_ble_eq_true rfl⟩ (q_recv C hM 0 rw_0 rfl) (hM) hl.1 rfl rfl (Nat.le_of_ble_eq_true rfl) dX5_again_88 ⟨Nat.le_of_ble_eq_true rfl, Nat.le_of_ble_eq_true rfl⟩) hS (fun _ hq => hq) (fun r88 H1 locs q88 hz88 hk88 hS => ?_)
        obtain ⟨rfl, ψ, γ, hM, o, hk, hg, hrow⟩ := q88
        rw [← hG2] at o hrow
        refine W.eq (g2 := F0 m 91 ls []) rfl ?_
        refine lv_iload_n hx hb dX5_again_91 rfl (lv_at hl 2 rfl) ?_
        refine lv_istore_n (lv' := [(3, .int (nI (a))), (0, .ref (h)), (1, .int (nI (j))), (2, .int (nI (a)))]) hx hb dX5_again_92 rfl hl (by decide) rfl (fun ls hl => ?_)
        have la : ∀ (n_la : Nat) (t : Nat) (ls : Array Slot), (a ≤ t) → (t ≤ rTk (tRun τ j)) → (rTk (tRun τ j) + 1 ≤ t + n_la) → (Z = fstE (difB (rRow (tRun τ j)) G.2) (rTk (tRun τ j) - t) t) → lv_has ls 6 [(0, .ref (h)), (1, .int (nI (j))), (2, .int (nI (a))), (3, .int (nI (t)))] → W p l e ({ frames := 3, cells := 0, slots := 0, locals := 78 } : Room) s m ([.ref (h), .int (nI (j))] : List Value).toArray below meth c H1 locs 0 0 (MQ below (mQ (wA g h ad) (fun z H => z = some (.int (againA τ (nI j))) ∧ MdH g h ad (againT τ (nI j)) H)) (([.ref (h), .int (nI (j))] : List Value).toArray) s 0 0 (wA g h ad)) (F0 m 93 ls []) := by
          intro n_la
          induction n_la with
          | zero =>
            intro t ls ht0 ht1 hnla hz
            exact absurd hnla (by omega)
          | succ n_la ih_la =>
            intro t ls ht0 ht1 hnla hz hl
            refine lv_iload_n hx hb dX5_again_93 rfl (lv_at hl 3 rfl) ?_
            refine lv_aload_n hx hb dX5_again_94 rfl (lv_at hl 0 rfl) ?_
            refine q_get C f_X5_37 hM 0 rw_0 ro_12 dX5_again_95 ?_
            refine lv_iload_n hx hb dX5_again_98 rfl (lv_at hl 1 rfl) ?_
            refine n_iald C hM 10 rw_12 (by omega) (by decide) dX5_again_99 ?_
            refine w_topi (y := (nI (rTk (tRun τ j)))) ((congrFun (hg 12 (by decide)) j).trans R_j.tk) ?_
            refine n_icmp_ge (tgt := 175) C (by omega) (by omega) dX5_again_100 (by decide) (fun c100 => ?_) (fun c100 => ?_)
            · skip
              refine lv_aload_n hx hb dX5_again_175 rfl (lv_at hl 0 rfl) ?_
              refine q_get C f_X5_37 hM 0 rw_0 ro_12 dX5_again_176 ?_
              refine lv_iload_n hx hb dX5_again_179 rfl (lv_at hl 1 rfl) ?_
              refine n_iald C hM 10 rw_12 (by omega) (by decide) dX5_again_180 ?_
              refine w_topi (y := (nI (rTk (tRun τ j)))) ((congrFun (hg 12 (by decide)) j).trans R_j.tk) ?_
              exact r_wi C hr hlk hS (⟨sv (by rw [againA, c10b, if_pos rfl, ecl, ← hG, ← ha, ← hZ, fe_end hz c100, show t = rTk (tRun τ j) by omega]), ψ, γ, hM, by rw [againT, c10b, if_pos rfl]; exact hR.clk1 hT (by rw [hk 5 (by omega)]; rfl) (by rw [hk 6 (by omega)]; rfl) (by rw [hk 35 (by omega)]; rfl) hg⟩) dX5_again_181
            · skip
              refine lv_iload_n hx hb dX5_again_103 rfl (lv_at hl 3 rfl) ?_
              refine lv_aload_n hx hb dX5_again_104 rfl (lv_at hl 0 rfl) ?_
              refine q_get C f_X5_40 hM 0 rw_0 ro_13 dX5_again_105 ?_
              refine lv_iload_n hx hb dX5_again_108 rfl (lv_at hl 1 rfl) ?_
              refine n_iald C hM 11 rw_13 (by omega) (by decide) dX5_again_109 ?_
              refine w_topi (y := (nI ((rRow (tRun τ j)).length))) ((congrFun (hg 13 (by decide)) j).trans R_j.nrow) ?_
              refine n_icmp_ge (tgt := 117) C (by omega) (by omega) dX5_again_110 (by decide) (fun c110 => ?_) (fun c110 => ?_)
              · skip
                refine lv_iconst (v := bI false) hx hb dX5_again_117 (by decide) ?_
                refine lv_istore (lv' := [(4, .int (bI (false))), (0, .ref (h)), (1, .int (nI (j))), (2, .int (nI (a))), (3, .int (nI (t)))]) hx hb dX5_again_118 hl (by decide) rfl (fun ls hl => ?_)
                refine lv_iload_n hx hb dX5_again_120 rfl (lv_at hl 4 rfl) ?_
                refine lv_aload_n hx hb dX5_again_121 rfl (lv_at hl 1 rfl) ?_
                refine q_get C f_X5_115 hM 0 rw_0 ro_24 dX5_again_122 ?_
                refine w_topi (y := (nI (G.2.length))) (o.1) ?_
                refine n_icmp_ge (tgt := 132) C (by omega) (by omega) dX5_again_125 (by decide) (fun c125 => ?_) (fun c125 => ?_)
                · skip
                  refine lv_iconst (v := bI false) hx hb dX5_again_132 (by decide) ?_
                  refine lv_istore (lv' := [(5, .int (bI (false))), (4, .int (bI (false))), (0, .ref (h)), (1, .int (nI (j))), (2, .int (nI (a))), (3, .int (nI (t)))]) hx hb dX5_again_133 hl (by decide) rfl (fun ls hl => ?_)
                  refine lv_iload hx hb dX5_again_135 (lv_at hl 1 rfl) ?_
                  refine lv_iload hx hb dX5_again_137 (lv_at hl 0 rfl) ?_
                  refine lv_icmp_ne (tgt := 167) hx hb dX5_again_139 (by decide) (fun c139 => by exfalso; exact c139 rfl) (fun c139 => ?_)
                  refine lv_iload hx hb dX5_again_142 (lv_at hl 1 rfl) ?_
                  refine b_ifeq (tgt := 169) C dX5_again_144 (by decide) (fun c144 => ?_) (fun c144 => by exfalso; cases c144)
                  refine n_iinc (d := 1) (lv' := [(3, .int (nI (t + 1))), (5, .int (bI (false))), (4, .int (bI (false))), (0, .ref (h)), (1, .int (nI (j))), (2, .int (nI (a)))]) C dX5_again_169 (by decide) hl (k := 5) rfl (by decide) rfl (fun ls hl => ?_)
                  refine lv_goto (tgt := 93) hx hb dX5_again_172 (by decide) ?_
                  exact ih_la (t + 1) ls (by omega) (by omega) (by omega) (fe_no hz c100 (dif_0 c110 c125)) (lv_sub hl [3, 4, 5, 0] rfl)
                · skip
                  refine lv_iconst (v := bI true) hx hb dX5_again_128 (by decide) ?_
                  refine lv_goto (tgt := 133) hx hb dX5_again_129 (by decide) ?_
                  refine lv_istore (lv' := [(5, .int (bI (true))), (4, .int (bI (false))), (0, .ref (h)), (1, .int (nI (j))), (2, .int (nI (a))), (3, .int (nI (t)))]) hx hb dX5_again_133 hl (by decide) rfl (fun ls hl => ?_)
                  refine lv_iload hx hb dX5_again_135 (lv_at hl 1 rfl) ?_
                  refine lv_iload hx hb dX5_again_137 (lv_at hl 0 rfl) ?_
                  refine lv_icmp_ne (tgt := 167) hx hb dX5_again_139 (by decide) (fun c139 => ?_) (fun c139 => by exfalso; exact absurd c139 (by decide))
                  refine lv_iload_n hx hb dX5_again_167 rfl (lv_at hl 5 rfl) ?_
                  exact r_wi C hr hlk hS (⟨sv (by rw [againA, c10b, if_pos rfl, ecl, ← hG, ← ha, ← hZ, fe_yes hz c100 (dif_r c110 c125)]), ψ, γ, hM, by rw [againT, c10b, if_pos rfl]; exact hR.clk1 hT (by rw [hk 5 (by omega)]; rfl) (by rw [hk 6 (by omega)]; rfl) (by rw [hk 35 (by omega)]; rfl) hg⟩) dX5_again_168
              · skip
                refine lv_iconst (v := bI true) hx hb dX5_again_113 (by decide) ?_
                refine lv_goto (tgt := 118) hx hb dX5_again_114 (by decide) ?_
                refine lv_istore (lv' := [(4, .int (bI (true))), (0, .ref (h)), (1, .int (nI (j))), (2, .int (nI (a))), (3, .int (nI (t)))]) hx hb dX5_again_118 hl (by decide) rfl (fun ls hl => ?_)
                refine lv_iload_n hx hb dX5_again_120 rfl (lv_at hl 4 rfl) ?_
                refine lv_aload_n hx hb dX5_again_121 rfl (lv_at hl 1 rfl) ?_
                refine q_get C f_X5_115 hM 0 rw_0 ro_24 dX5_again_122 ?_
                refine w_topi (y := (nI (G.2.length))) (o.1) ?_
                refine n_icmp_ge (tgt := 132) C (by omega) (by omega) dX5_again_125 (by decide) (fun c125 => ?_) (fun c125 => ?_)
                · skip
                  refine lv_iconst (v := bI false) hx hb dX5_again_132 (by decide) ?_
                  refine lv_istore (lv' := [(5, .int (bI (false))), (4, .int (bI (true))), (0, .ref (h)), (1, .int (nI (j))), (2, .int (nI (a))), (3, .int (nI (t)))]) hx hb dX5_again_133 hl (by decide) rfl (fun ls hl => ?_)
                  refine lv_iload hx hb dX5_again_135 (lv_at hl 1 rfl) ?_
                  refine lv_iload hx hb dX5_again_137 (lv_at hl 0 rfl) ?_
                  refine lv_icmp_ne (tgt := 167) hx hb dX5_again_139 (by decide) (fun c139 => ?_) (fun c139 => by exfalso; exact absurd c139 (by decide))
                  refine lv_iload_n hx hb dX5_again_167 rfl (lv_at hl 5 rfl) ?_
                  exact r_wi C hr hlk hS (⟨sv (by rw [againA, c10b, if_pos rfl, ecl, ← hG, ← ha, ← hZ, fe_yes hz c100 (dif_l c110 c125)]), ψ, γ, hM, by rw [againT, c10b, if_pos rfl]; exact hR.clk1 hT (by rw [hk 5 (by omega)]; rfl) (by rw [hk 6 (by omega)]; rfl) (by rw [hk 35 (by omega)]; rfl) hg⟩) dX5_again_168
                · skip
                  refine lv_iconst (v := bI true) hx hb dX5_again_128 (by decide) ?_
                  refine lv_goto (tgt := 133) hx hb dX5_again_129 (by decide) ?_
                  refine lv_istore (lv' := [(5, .int (bI (true))), (4, .int (bI (true))), (0, .ref (h)), (1, .int (nI (j))), (2, .int (nI (a))), (3, .int (nI (t)))]) hx hb dX5_again_133 hl (by decide) rfl (fun ls hl => ?_)
                  refine lv_iload hx hb dX5_again_135 (lv_at hl 1 rfl) ?_
                  refine lv_iload hx hb dX5_again_137 (lv_at hl 0 rfl) ?_
                  refine lv_icmp_ne (tgt := 167) hx hb dX5_again_139 (by decide) (fun c139 => by exfalso; exact c139 rfl) (fun c139 => ?_)
                  refine lv_iload hx hb dX5_again_142 (lv_at hl 1 rfl) ?_
                  refine b_ifeq (tgt := 169) C dX5_again_144 (by decide) (fun c144 => by exfalso; cases c144) (fun c144 => ?_)
                  refine lv_aload_n hx hb dX5_again_147 rfl (lv_at hl 2 rfl) ?_
                  refine q_get C f_X5_43 hM 0 rw_0 ro_14 dX5_again_148 ?_
                  refine lv_bipush (v := nI 16) hx hb dX5_again_151 (by decide) ?_
                  refine lv_iload_n hx hb dX5_again_153 rfl (lv_at hl 3 rfl) ?_
                  refine n_imul C dX5_again_154 ?_
                  refine lv_iload_n hx hb dX5_again_155 rfl (lv_at hl 5 rfl) ?_
                  refine n_iadd C dX5_again_156 ?_
                  refine n_iald C hM 12 rw_14 (by omega) (by decide) dX5_again_157 ?_
                  refine w_topi (y := ((rRow (tRun τ j)).getD t 0)) ((congrFun (hg 14 (by decide)) _).trans (R_j.row (by omega))) ?_
                  refine lv_aload_n hx hb dX5_again_158 rfl (lv_at hl 2 rfl) ?_
                  refine q_get C f_X5_71 hM 0 rw_0 ro_23 dX5_again_159 ?_
                  refine lv_iload_n hx hb dX5_again_162 rfl (lv_at hl 5 rfl) ?_
                  refine n_iald C hM 21 rw_23 (by omega) (by decide) dX5_again_163 ?_
                  refine w_topi (y := (G.2.getD t 0)) (hrow t (by omega) (by omega)) ?_
                  refine lv_icmp_eq (tgt := 169) hx hb dX5_again_164 (by decide) (fun c164 => ?_) (fun c164 => ?_)
                  · skip
                    refine n_iinc (d := 1) (lv' := [(3, .int (nI (t + 1))), (5, .int (bI (true))), (4, .int (bI (true))), (0, .ref (h)), (1, .int (nI (j))), (2, .int (nI (a)))]) C dX5_again_169 (by decide) hl (k := 5) rfl (by decide) rfl (fun ls hl => ?_)
                    refine lv_goto (tgt := 93) hx hb dX5_again_172 (by decide) ?_
                    exact ih_la (t + 1) ls (by omega) (by omega) (by omega) (fe_no hz c100 (dif_e c110 c125 c164)) (lv_sub hl [3, 4, 5, 0] rfl)
                  · skip
                    refine lv_iload_n hx hb dX5_again_167 rfl (lv_at hl 5 rfl) ?_
                    exact r_wi C hr hlk hS (⟨sv (by rw [againA, c10b, if_pos rfl, ecl, ← hG, ← ha, ← hZ, fe_yes hz c100 (dif_v c110 c125 c164)]), ψ, γ, hM, by rw [againT, c10b, if_pos rfl]; exact hR.clk1 hT (by rw [hk 5 (by omega)]; rfl) (by rw [hk 6 (by omega)]; rfl) (by rw [hk 35 (by omega)]; rfl) hg⟩) dX5_again_168
        exact la (rTk (tRun τ j) + 1) (a) ls (by omega) (by omega) (by omega) (hZ) (lv_sub hl [1, 2, 3, 0] rfl)
      refine lv_aload_n hx hb dX5_again_46 rfl (lv_at hl 0 rfl) ?_
      refine lv_iload_n hx hb dX5_again_47 rfl (lv_at hl 1 rfl) ?_
      refine lv_iload_n hx hb dX5_again_48 rfl (lv_at hl 2 rfl) ?_
      refine lv_iload_n hx hb dX5_again_49 rfl (lv_at hl 2 rfl) ?_
      refine n_ifne (tgt := 57) C (by omega) dX5_again_50 (by decide) (fun c50 => ?_) (fun c50 => ?_)
      · skip
        refine lv_aload_n hx hb dX5_again_57 rfl (lv_at hl 0 rfl) ?_
        refine q_get C f_X5_43 hM 0 rw_0 ro_14 dX5_again_58 ?_
        refine lv_bipush (v := nI 16) hx hb dX5_again_61 (by decide) ?_
        refine lv_iload_n hx hb dX5_again_63 rfl (lv_at hl 1 rfl) ?_
        refine n_imul C dX5_again_64 ?_
        refine lv_iload_n hx hb dX5_again_65 rfl (lv_at hl 2 rfl) ?_
        refine n_iadd C dX5_again_66 ?_
        refine lv_iconst (v := nI 1) hx hb dX5_again_67 (by decide) ?_
        refine n_isub C (by omega) dX5_again_68 ?_
        refine n_iald C hM 12 rw_14 (by omega) (by decide) dX5_again_69 ?_
        refine w_topi (y := ((rRow (tRun τ j)).getD (a - 1) 0)) (by rw [show 16 * j + a - 1 = 16 * j + (a - 1) by omega]; exact R_j.row (by omega)) ?_
        exact j2 ((rRow (tRun τ j)).getD (a - 1) 0) ls (by rw [lastTake c50 hal]) (lv_sub hl [0, 1, 2] rfl)
      · skip
        refine lv_iconst (v := 0) hx hb dX5_again_53 (by decide) ?_
        refine lv_goto (tgt := 70) hx hb dX5_again_54 (by decide) ?_
        exact j2 (0) ls (by rw [c50, lastTake0]) (lv_sub hl [0, 1, 2] rfl)
    refine lv_aload_n hx hb dX5_again_25 rfl (lv_at hl 0 rfl) ?_
    refine q_get C f_X5_53 hM 0 rw_0 ro_17 dX5_again_26 ?_
    refine lv_iload_n hx hb dX5_again_29 rfl (lv_at hl 1 rfl) ?_
    refine n_iald C hM 15 rw_17 (by omega) (by decide) dX5_again_30 ?_
    refine w_topi (y := (rAt (tRun τ j))) (R_j.at') ?_
    refine lv_iconst (v := (-1)) hx hb dX5_again_31 (by decide) ?_
    refine lv_icmp_ne (tgt := 39) hx hb dX5_again_32 (by decide) (fun c32 => ?_) (fun c32 => ?_)
    · skip
      obtain ⟨a1, ha1, ea1⟩ := at_nI T_j c32
      refine lv_aload_n hx hb dX5_again_39 rfl (lv_at hl 0 rfl) ?_
      refine q_get C f_X5_53 hM 0 rw_0 ro_17 dX5_again_40 ?_
      refine lv_iload_n hx hb dX5_again_43 rfl (lv_at hl 1 rfl) ?_
      refine n_iald C hM 15 rw_17 (by omega) (by decide) dX5_again_44 ?_
      refine w_topi (y := (nI (a1))) (R_j.at'.trans ea1) ?_
      refine lv_istore_n (lv' := [(2, .int (nI (a1))), (0, .ref (h)), (1, .int (nI (j)))]) hx hb dX5_again_45 rfl hl (by decide) rfl (fun ls hl => ?_)
      exact j1 (a1) ls (by rw [atN, if_neg c32, ea1, nI_clamp (by omega)]) (ha1) (lv_sub hl [1, 2, 0] rfl)
    · skip
      refine lv_iconst (v := nI 0) hx hb dX5_again_35 (by decide) ?_
      refine lv_goto (tgt := 45) hx hb dX5_again_36 (by decide) ?_
      refine lv_istore_n (lv' := [(2, .int (nI (0))), (0, .ref (h)), (1, .int (nI (j)))]) hx hb dX5_again_45 rfl hl (by decide) rfl (fun ls hl => ?_)
      exact j1 (0) ls (by rw [atN, if_pos c32]) (by omega) (lv_sub hl [1, 2, 0] rfl)
  · skip
    refine lv_iconst (v := (-1)) hx hb dX5_again_13 (by decide) ?_
    exact r_wi C hr hlk hS (⟨sv (by rw [againA, c10]; rfl), φ1, α, hM, by rw [againT, c10]; exact hR⟩) dX5_again_14

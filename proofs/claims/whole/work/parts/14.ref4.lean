/-! THE REFERENCE: what is asked -/
theorem clm_nI {i : Int32} {n : Nat} (c6 : ¬ i < 0) (c14 : i < nI n) : ∃ j : Nat, j < n ∧ i = nI j := by
  obtain ⟨j, hj, rfl⟩ := nI_of c6
  refine ⟨j, ?_, rfl⟩
  rcases Nat.lt_or_ge j n with h | h
  · exact h
  · exfalso
    rw [fa_lt, nI_toInt hj] at c14
    rw [fa_lt] at c6
    have := nI_toInt (n := n) (by omega)
    omega
theorem or_assoc32 (a b c : Int32) : (a ||| b) ||| c = a ||| (b ||| c) := Int32.or_assoc a b c
theorem bit_nI : ∀ i, i < 16 → bitI i = nI (2 ^ i) := by decide +kernel
theorem or_nI {k m : Nat} (h : m < 2 ^ k) : nI m ||| nI (2 ^ k) = nI (m + 2 ^ k) := by
  rw [Int32.or_comm]
  have e := fa_or_sum (a := m) (k := k) 1 h
  rw [Nat.mul_one] at e
  rw [e, Nat.add_comm]
theorem chgM_nI (dat : Nat → Int32) (ρ : RunT) : ∀ n, n ≤ 8 → ∃ m : Nat, m < 2 ^ n ∧ chgM dat ρ n = nI m
  | 0, _ => ⟨0, by decide, rfl⟩
  | n + 1, hn => by
    obtain ⟨m, hm, e⟩ := chgM_nI dat ρ n (by omega)
    have h2 : 2 ^ (n + 1) = 2 ^ n + 2 ^ n := by rw [Nat.pow_succ]; omega
    by_cases hc : chgB dat ρ n = true
    · refine ⟨m + 2 ^ n, by omega, ?_⟩
      simp only [chgM, hc, if_true]
      rw [e, bit_nI n (by omega), or_nI hm]
    · refine ⟨m, by omega, ?_⟩
      simp only [chgM, hc, if_false]
      exact e
theorem or256 (dat : Nat → Int32) (ρ : RunT) (b : Bool) : (if b then (256 : Int32) else 0) ||| chgM dat ρ 8 = chgM dat ρ 8 + (if b then 256 else 0) := by
  obtain ⟨m, hm, e⟩ := chgM_nI dat ρ 8 (Nat.le_refl 8)
  rw [e]
  cases b with
  | true => 
    show nI (2 ^ 8) ||| nI m = nI m + nI 256
    rw [Int32.or_comm, or_nI hm, nI_add]
  | false =>
    show nI 0 ||| nI m = nI m + nI 0
    rw [nI_add, fa_or]; simp
set_option maxHeartbeats 4000000 in
set_option maxRecDepth 100000 in
theorem c5_clock (l : Launch) (g : GG) (h : Nat) (ad : Nat → Nat) (τ : TB) (hT : TOK τ) (hD : wD (wA g h ad) g h ad) : Met l yX5_clock (.code yX5_clock cX5_clock 1 (some .int) :: wsL_law) ({ frames := 0, cells := 0, slots := 0, locals := 0 } : Room) (mP g [.ref (h)] (MdH g h ad τ)) (mQ (wA g h ad) (fun z H => z = some (.int (tClk τ)) ∧ MdH g h ad (τ) H)) 0 0 (wA g h ad) := by
  refine mMet (by decide) (Nat.le_of_ble_eq_true rfl) ?_
  intro p e s m below meth c C hr hlk hnm hM ls hl
  have hx := C.1.1
  have hb := C.1.2.1
  have hl : lv_has ls 1 [(0, .ref (h))] := hl
  obtain ⟨φ, α, hM, hR⟩ := hM
  have hS : va_S (wA g h ad) s.heap s.heap [] := va_S.rf
  have h40 := hT.2.2.1
  refine lv_aload_n hx hb dX5_clock_0 rfl (lv_at hl 0 rfl) ?_
  refine lv_iconst (v := 0) hx hb dX5_clock_1 (by decide) ?_
  refine rp_0 C hM hD hS dX5_clock_2 (fun H locs hM hS => ?_)
  have hR : MdR (upd φ 0 0) α τ := hR
  generalize upd φ 0 0 = φ1 at hM hR
  have hrec := q_recv C hM 0 rw_0 rfl
  refine lv_aload_n hx hb dX5_clock_5 rfl (lv_at hl 0 rfl) ?_
  refine q_get C f_X5_109 hM 0 rw_0 ro_5 dX5_clock_6 ?_
  refine w_topi (y := (tClk τ)) (hR.clk) ?_
  exact r_wi C hr hlk hS (⟨sv (rfl), φ1, α, hM, hR⟩) dX5_clock_9
set_option maxHeartbeats 4000000 in
set_option maxRecDepth 100000 in
theorem c5_runs (l : Launch) (g : GG) (h : Nat) (ad : Nat → Nat) (τ : TB) (hT : TOK τ) (hD : wD (wA g h ad) g h ad) : Met l yX5_runs (.code yX5_runs cX5_runs 1 (some .int) :: wsL_law) ({ frames := 0, cells := 0, slots := 0, locals := 0 } : Room) (mP g [.ref (h)] (MdH g h ad τ)) (mQ (wA g h ad) (fun z H => z = some (.int (nI (tN τ))) ∧ MdH g h ad (τ) H)) 0 0 (wA g h ad) := by
  refine mMet (by decide) (Nat.le_of_ble_eq_true rfl) ?_
  intro p e s m below meth c C hr hlk hnm hM ls hl
  have hx := C.1.1
  have hb := C.1.2.1
  have hl : lv_has ls 1 [(0, .ref (h))] := hl
  obtain ⟨φ, α, hM, hR⟩ := hM
  have hS : va_S (wA g h ad) s.heap s.heap [] := va_S.rf
  have h40 := hT.2.2.1
  refine lv_aload_n hx hb dX5_runs_0 rfl (lv_at hl 0 rfl) ?_
  refine lv_iconst (v := 0) hx hb dX5_runs_1 (by decide) ?_
  refine rp_0 C hM hD hS dX5_runs_2 (fun H locs hM hS => ?_)
  have hR : MdR (upd φ 0 0) α τ := hR
  generalize upd φ 0 0 = φ1 at hM hR
  have hrec := q_recv C hM 0 rw_0 rfl
  refine lv_aload_n hx hb dX5_runs_5 rfl (lv_at hl 0 rfl) ?_
  refine q_get C f_X5_90 hM 0 rw_0 ro_6 dX5_runs_6 ?_
  refine w_topi (y := (nI (tN τ))) (hR.n) ?_
  exact r_wi C hr hlk hS (⟨sv (rfl), φ1, α, hM, hR⟩) dX5_runs_9
set_option maxHeartbeats 4000000 in
set_option maxRecDepth 100000 in
theorem c5_of (l : Launch) (g : GG) (h : Nat) (ad : Nat → Nat) (τ : TB) (hT : TOK τ) (hD : wD (wA g h ad) g h ad) (r w : Int32) : Met l yX5_of (.code yX5_of cX5_of 3 (some .int) :: wsL_law) ({ frames := 2, cells := 0, slots := 0, locals := 45 } : Room) (mP g [.ref (h), .int (r), .int (w)] (MdH g h ad τ)) (mQ (wA g h ad) (fun z H => z = some (.int (ofT τ r w)) ∧ MdH g h ad (τ) H)) 0 0 (wA g h ad) := by
  refine mMet (by decide) (Nat.le_of_ble_eq_true rfl) ?_
  intro p e s m below meth c C hr hlk hnm hM ls hl
  have hx := C.1.1
  have hb := C.1.2.1
  have hl : lv_has ls 3 [(0, .ref (h)), (1, .int (r)), (2, .int (w))] := hl
  obtain ⟨φ, α, hM, hR⟩ := hM
  have hS : va_S (wA g h ad) s.heap s.heap [] := va_S.rf
  have h40 := hT.2.2.1
  refine lv_aload_n hx hb dX5_of_0 rfl (lv_at hl 0 rfl) ?_
  refine lv_iconst (v := 0) hx hb dX5_of_1 (by decide) ?_
  refine rp_0 C hM hD hS dX5_of_2 (fun H locs hM hS => ?_)
  have hR : MdR (upd φ 0 0) α τ := hR
  generalize upd φ 0 0 = φ1 at hM hR
  have hrec := q_recv C hM 0 rw_0 rfl
  refine lv_aload_n hx hb dX5_of_5 rfl (lv_at hl 0 rfl) ?_
  refine lv_iload_n hx hb dX5_of_6 rfl (lv_at hl 1 rfl) ?_
  refine k_i (c_V (As := [.int (r)]) (rest := []) C v_X5_142 (c5_isRun l g h ad φ1 α τ hR hT (r)) ⟨Nat.le_of_ble_eq_true rfl, Nat.le_of_ble_eq_true rfl⟩ (hrec) (hM) hl.1 rfl rfl (Nat.le_of_ble_eq_true rfl) dX5_of_7 ⟨Nat.le_of_ble_eq_true rfl, Nat.le_of_ble_eq_true rfl⟩) (fun r7 q7 => ?_)
  subst q7
  refine b_ifne (tgt := 15) C dX5_of_10 (by decide) (fun c10 => ?_) (fun c10 => ?_)
  · skip
    obtain ⟨j, hj, rfl⟩ := isRun_nI c10 h40
    have R_j := hR.run hj
    have T_j := hT.2.2.2.1 j hj
    have BC_j := T_j.1
    have BL_j := T_j.2.1
    have BT0_j := T_j.2.2.2.2.2.1
    have BT_j := T_j.2.2.2.2.2.2.1
    have BR_j := T_j.2.2.2.2.2.2.2.1
    have BQ_j : ∀ jq, jq < (rStp (tRun τ j)).length → (rStp (tRun τ j)).getD jq 0 < 256 := fun jq hj => T_j.2.2.1 _ (getD_mem hj)
    have ecl : (nI j).toNatClampNeg = j := nI_clamp (by omega)
    refine lv_iload_n hx hb dX5_of_15 rfl (lv_at hl 2 rfl) ?_
    refine lv_if_ne (tgt := 26) hx hb dX5_of_16 (by decide) (fun c16 => ?_) (fun c16 => ?_)
    · skip
      refine lv_iload_n hx hb dX5_of_26 rfl (lv_at hl 2 rfl) ?_
      refine lv_iconst (v := 1) hx hb dX5_of_27 (by decide) ?_
      refine lv_icmp_ne (tgt := 38) hx hb dX5_of_28 (by decide) (fun c28 => ?_) (fun c28 => ?_)
      · skip
        refine lv_iload_n hx hb dX5_of_38 rfl (lv_at hl 2 rfl) ?_
        refine lv_iconst (v := 2) hx hb dX5_of_39 (by decide) ?_
        refine lv_icmp_ne (tgt := 50) hx hb dX5_of_40 (by decide) (fun c40 => ?_) (fun c40 => ?_)
        · skip
          refine lv_iload_n hx hb dX5_of_50 rfl (lv_at hl 2 rfl) ?_
          refine lv_iconst (v := 3) hx hb dX5_of_51 (by decide) ?_
          refine lv_icmp_ne (tgt := 62) hx hb dX5_of_52 (by decide) (fun c52 => ?_) (fun c52 => ?_)
          · skip
            refine lv_iload_n hx hb dX5_of_62 rfl (lv_at hl 2 rfl) ?_
            refine lv_iconst (v := 4) hx hb dX5_of_63 (by decide) ?_
            refine lv_icmp_ne (tgt := 74) hx hb dX5_of_64 (by decide) (fun c64 => ?_) (fun c64 => ?_)
            · skip
              refine lv_iload_n hx hb dX5_of_74 rfl (lv_at hl 2 rfl) ?_
              refine lv_iconst (v := 5) hx hb dX5_of_75 (by decide) ?_
              refine lv_icmp_ne (tgt := 94) hx hb dX5_of_76 (by decide) (fun c76 => ?_) (fun c76 => ?_)
              · skip
                refine lv_iload_n hx hb dX5_of_94 rfl (lv_at hl 2 rfl) ?_
                refine lv_bipush (v := 6) hx hb dX5_of_95 (by decide) ?_
                refine lv_icmp_ne (tgt := 107) hx hb dX5_of_97 (by decide) (fun c97 => ?_) (fun c97 => ?_)
                · skip
                  refine lv_iload_n hx hb dX5_of_107 rfl (lv_at hl 2 rfl) ?_
                  refine lv_bipush (v := 7) hx hb dX5_of_108 (by decide) ?_
                  refine lv_icmp_ne (tgt := 120) hx hb dX5_of_110 (by decide) (fun c110 => ?_) (fun c110 => ?_)
                  · skip
                    refine lv_iload_n hx hb dX5_of_120 rfl (lv_at hl 2 rfl) ?_
                    refine lv_bipush (v := 8) hx hb dX5_of_121 (by decide) ?_
                    refine lv_icmp_ne (tgt := 133) hx hb dX5_of_123 (by decide) (fun c123 => ?_) (fun c123 => ?_)
                    · skip
                      refine lv_iload_n hx hb dX5_of_133 rfl (lv_at hl 2 rfl) ?_
                      refine lv_bipush (v := 9) hx hb dX5_of_134 (by decide) ?_
                      refine lv_icmp_ne (tgt := 146) hx hb dX5_of_136 (by decide) (fun c136 => ?_) (fun c136 => ?_)
                      · skip
                        refine lv_iload_n hx hb dX5_of_146 rfl (lv_at hl 2 rfl) ?_
                        refine lv_bipush (v := 10) hx hb dX5_of_147 (by decide) ?_
                        refine lv_icmp_ne (tgt := 167) hx hb dX5_of_149 (by decide) (fun c149 => ?_) (fun c149 => ?_)
                        · skip
                          refine lv_iload_n hx hb dX5_of_167 rfl (lv_at hl 2 rfl) ?_
                          refine lv_bipush (v := 11) hx hb dX5_of_168 (by decide) ?_
                          refine lv_icmp_ne (tgt := 188) hx hb dX5_of_170 (by decide) (fun c170 => ?_) (fun c170 => ?_)
                          · skip
                            refine lv_iload_n hx hb dX5_of_188 rfl (lv_at hl 2 rfl) ?_
                            refine lv_bipush (v := 12) hx hb dX5_of_189 (by decide) ?_
                            refine lv_icmp_ne (tgt := 208) hx hb dX5_of_191 (by decide) (fun c191 => ?_) (fun c191 => ?_)
                            · skip
                              refine lv_iload_n hx hb dX5_of_208 rfl (lv_at hl 2 rfl) ?_
                              refine lv_bipush (v := 100) hx hb dX5_of_209 (by decide) ?_
                              refine lv_icmp_lt (tgt := 244) hx hb dX5_of_211 (by decide) (fun c211 => ?_) (fun c211 => ?_)
                              · skip
                                refine lv_iconst (v := (-1)) hx hb dX5_of_244 (by decide) ?_
                                exact r_wi C hr hlk hS (⟨sv (by rw [ofT, c10, if_pos rfl, ecl, ofR, if_neg c16, if_neg c28, if_neg c40, if_neg c52, if_neg c64, if_neg c76, if_neg c97, if_neg c110, if_neg c123, if_neg c136, if_neg c149, if_neg c170, if_neg c191, if_neg (by simp only [fa_lt, li_100] at c211; omega)]), φ1, α, hM, hR⟩) dX5_of_245
                              · skip
                                have c211b : 100 ≤ w.toInt := by simp only [fa_lt, li_100] at c211; omega
                                have wr := fb_rng w
                                refine lv_iload_n hx hb dX5_of_214 rfl (lv_at hl 2 rfl) ?_
                                refine lv_bipush (v := 100) hx hb dX5_of_215 (by decide) ?_
                                refine lv_isub hx hb dX5_of_217 ?_
                                refine lv_aload_n hx hb dX5_of_218 rfl (lv_at hl 0 rfl) ?_
                                refine q_get C f_X5_40 hM 0 rw_0 ro_13 dX5_of_219 ?_
                                refine lv_iload_n hx hb dX5_of_222 rfl (lv_at hl 1 rfl) ?_
                                refine n_iald C hM 11 rw_13 (by omega) (by decide) dX5_of_223 ?_
                                refine w_topi (y := (nI ((rRow (tRun τ j)).length))) (R_j.nrow) ?_
                                refine lv_icmp_ge (tgt := 244) hx hb dX5_of_224 (by decide) (fun c224 => ?_) (fun c224 => ?_)
                                · skip
                                  refine lv_iconst (v := (-1)) hx hb dX5_of_244 (by decide) ?_
                                  exact r_wi C hr hlk hS (⟨sv (by rw [ofT, c10, if_pos rfl, ecl, ofR, if_neg c16, if_neg c28, if_neg c40, if_neg c52, if_neg c64, if_neg c76, if_neg c97, if_neg c110, if_neg c123, if_neg c136, if_neg c149, if_neg c170, if_neg c191, if_neg (by rw [fa_le, nI_toInt (by omega), fb_subI (by rw [li_100]; omega) (by rw [li_100]; omega), li_100] at c224; omega)]), φ1, α, hM, hR⟩) dX5_of_245
                                · skip
                                  have c224b : w.toInt - 100 < ((rRow (tRun τ j)).length : Int) := by rw [fa_le, nI_toInt (by omega), fb_subI (by rw [li_100]; omega) (by rw [li_100]; omega), li_100] at c224; omega
                                  obtain ⟨tk, htk⟩ : ∃ n : Nat, w.toInt = 100 + n := ⟨(w.toInt - 100).toNat, by omega⟩
                                  have ew : w = nI (100 + tk) := by rw [fa_eq, nI_toInt (by omega), htk]; rfl
                                  have etk : (w.toInt - 100).toNat = tk := by omega
                                  refine lv_aload_n hx hb dX5_of_227 rfl (lv_at hl 0 rfl) ?_
                                  refine q_get C f_X5_43 hM 0 rw_0 ro_14 dX5_of_228 ?_
                                  refine lv_bipush (v := nI 16) hx hb dX5_of_231 (by decide) ?_
                                  refine lv_iload_n hx hb dX5_of_233 rfl (lv_at hl 1 rfl) ?_
                                  refine n_imul C dX5_of_234 ?_
                                  refine lv_iload_n hx hb dX5_of_235 rfl (lv_at hl 2 rfl) ?_
                                  refine w_topi (y := (nI (100 + tk))) (ew) ?_
                                  refine n_iadd C dX5_of_236 ?_
                                  refine lv_bipush (v := nI 100) hx hb dX5_of_237 (by decide) ?_
                                  refine n_isub C (by omega) dX5_of_239 ?_
                                  refine n_iald C hM 12 rw_14 (by omega) (by decide) dX5_of_240 ?_
                                  refine w_topi (y := ((rRow (tRun τ j)).getD tk 0)) (by rw [show 16 * j + (100 + tk) - 100 = 16 * j + tk by omega]; exact R_j.row (by omega)) ?_
                                  refine lv_goto (tgt := 245) hx hb dX5_of_241 (by decide) ?_
                                  exact r_wi C hr hlk hS (⟨sv (by rw [ofT, c10, if_pos rfl, ecl, ofR, if_neg c16, if_neg c28, if_neg c40, if_neg c52, if_neg c64, if_neg c76, if_neg c97, if_neg c110, if_neg c123, if_neg c136, if_neg c149, if_neg c170, if_neg c191, if_pos (by omega), etk]), φ1, α, hM, hR⟩) dX5_of_245
                            · skip
                              refine lv_aload_n hx hb dX5_of_194 rfl (lv_at hl 0 rfl) ?_
                              refine lv_iload_n hx hb dX5_of_195 rfl (lv_at hl 1 rfl) ?_
                              refine k_i (c_V (As := [.int (nI (j))]) (rest := []) C v_X5_152 (c5_isStale l g h ad φ1 α τ hR hT j (by omega)) ⟨Nat.le_of_ble_eq_true rfl, Nat.le_of_ble_eq_true rfl⟩ (hrec) (hM) hl.1 rfl rfl (Nat.le_of_ble_eq_true rfl) dX5_of_196 ⟨Nat.le_of_ble_eq_true rfl, Nat.le_of_ble_eq_true rfl⟩) (fun r196 q196 => ?_)
                              subst q196
                              refine b_ifeq (tgt := 206) C dX5_of_199 (by decide) (fun c199 => ?_) (fun c199 => ?_)
                              · skip
                                refine lv_iconst (v := 0) hx hb dX5_of_206 (by decide) ?_
                                exact r_wi C hr hlk hS (⟨sv (by rw [ofT, c10, if_pos rfl, ecl, ofR, if_neg c16, if_neg c28, if_neg c40, if_neg c52, if_neg c64, if_neg c76, if_neg c97, if_neg c110, if_neg c123, if_neg c136, if_neg c149, if_neg c170, if_pos c191, c199]; rfl), φ1, α, hM, hR⟩) dX5_of_207
                              · skip
                                refine lv_iconst (v := 1) hx hb dX5_of_202 (by decide) ?_
                                refine lv_goto (tgt := 207) hx hb dX5_of_203 (by decide) ?_
                                exact r_wi C hr hlk hS (⟨sv (by rw [ofT, c10, if_pos rfl, ecl, ofR, if_neg c16, if_neg c28, if_neg c40, if_neg c52, if_neg c64, if_neg c76, if_neg c97, if_neg c110, if_neg c123, if_neg c136, if_neg c149, if_neg c170, if_pos c191, c199]; rfl), φ1, α, hM, hR⟩) dX5_of_207
                          · skip
                            refine lv_aload_n hx hb dX5_of_173 rfl (lv_at hl 0 rfl) ?_
                            refine q_get C f_X5_68 hM 0 rw_0 ro_22 dX5_of_174 ?_
                            refine lv_iload_n hx hb dX5_of_177 rfl (lv_at hl 1 rfl) ?_
                            refine n_zald C hM 20 rw_22 (by omega) (by decide) dX5_of_178 ?_
                            refine w_topi (y := (bI (rCk (tRun τ j)))) (R_j.ck) ?_
                            refine b_ifeq (tgt := 186) C dX5_of_179 (by decide) (fun c179 => ?_) (fun c179 => ?_)
                            · skip
                              refine lv_iconst (v := 0) hx hb dX5_of_186 (by decide) ?_
                              exact r_wi C hr hlk hS (⟨sv (by rw [ofT, c10, if_pos rfl, ecl, ofR, if_neg c16, if_neg c28, if_neg c40, if_neg c52, if_neg c64, if_neg c76, if_neg c97, if_neg c110, if_neg c123, if_neg c136, if_neg c149, if_pos c170, c179]; rfl), φ1, α, hM, hR⟩) dX5_of_187
                            · skip
                              refine lv_iconst (v := 1) hx hb dX5_of_182 (by decide) ?_
                              refine lv_goto (tgt := 187) hx hb dX5_of_183 (by decide) ?_
                              exact r_wi C hr hlk hS (⟨sv (by rw [ofT, c10, if_pos rfl, ecl, ofR, if_neg c16, if_neg c28, if_neg c40, if_neg c52, if_neg c64, if_neg c76, if_neg c97, if_neg c110, if_neg c123, if_neg c136, if_neg c149, if_pos c170, c179]; rfl), φ1, α, hM, hR⟩) dX5_of_187
                        · skip
                          refine lv_aload_n hx hb dX5_of_152 rfl (lv_at hl 0 rfl) ?_
                          refine q_get C f_X5_65 hM 0 rw_0 ro_21 dX5_of_153 ?_
                          refine lv_iload_n hx hb dX5_of_156 rfl (lv_at hl 1 rfl) ?_
                          refine n_zald C hM 19 rw_21 (by omega) (by decide) dX5_of_157 ?_
                          refine w_topi (y := (bI (rSd (tRun τ j)))) (R_j.sd) ?_
                          refine b_ifeq (tgt := 165) C dX5_of_158 (by decide) (fun c158 => ?_) (fun c158 => ?_)
                          · skip
                            refine lv_iconst (v := 0) hx hb dX5_of_165 (by decide) ?_
                            exact r_wi C hr hlk hS (⟨sv (by rw [ofT, c10, if_pos rfl, ecl, ofR, if_neg c16, if_neg c28, if_neg c40, if_neg c52, if_neg c64, if_neg c76, if_neg c97, if_neg c110, if_neg c123, if_neg c136, if_pos c149, c158]; rfl), φ1, α, hM, hR⟩) dX5_of_166
                          · skip
                            refine lv_iconst (v := 1) hx hb dX5_of_161 (by decide) ?_
                            refine lv_goto (tgt := 166) hx hb dX5_of_162 (by decide) ?_
                            exact r_wi C hr hlk hS (⟨sv (by rw [ofT, c10, if_pos rfl, ecl, ofR, if_neg c16, if_neg c28, if_neg c40, if_neg c52, if_neg c64, if_neg c76, if_neg c97, if_neg c110, if_neg c123, if_neg c136, if_pos c149, c158]; rfl), φ1, α, hM, hR⟩) dX5_of_166
                      · skip
                        refine lv_aload_n hx hb dX5_of_139 rfl (lv_at hl 0 rfl) ?_
                        refine q_get C f_X5_59 hM 0 rw_0 ro_19 dX5_of_140 ?_
                        refine lv_iload_n hx hb dX5_of_143 rfl (lv_at hl 1 rfl) ?_
                        refine n_iald C hM 17 rw_19 (by omega) (by decide) dX5_of_144 ?_
                        refine w_topi (y := (rRW (tRun τ j))) (R_j.rw) ?_
                        exact r_wi C hr hlk hS (⟨sv (by rw [ofT, c10, if_pos rfl, ecl, ofR, if_neg c16, if_neg c28, if_neg c40, if_neg c52, if_neg c64, if_neg c76, if_neg c97, if_neg c110, if_neg c123, if_pos c136]), φ1, α, hM, hR⟩) dX5_of_145
                    · skip
                      refine lv_aload_n hx hb dX5_of_126 rfl (lv_at hl 0 rfl) ?_
                      refine q_get C f_X5_56 hM 0 rw_0 ro_18 dX5_of_127 ?_
                      refine lv_iload_n hx hb dX5_of_130 rfl (lv_at hl 1 rfl) ?_
                      refine n_iald C hM 16 rw_18 (by omega) (by decide) dX5_of_131 ?_
                      refine w_topi (y := (rRS (tRun τ j))) (R_j.rs) ?_
                      exact r_wi C hr hlk hS (⟨sv (by rw [ofT, c10, if_pos rfl, ecl, ofR, if_neg c16, if_neg c28, if_neg c40, if_neg c52, if_neg c64, if_neg c76, if_neg c97, if_neg c110, if_pos c123]), φ1, α, hM, hR⟩) dX5_of_132
                  · skip
                    refine lv_aload_n hx hb dX5_of_113 rfl (lv_at hl 0 rfl) ?_
                    refine q_get C f_X5_53 hM 0 rw_0 ro_17 dX5_of_114 ?_
                    refine lv_iload_n hx hb dX5_of_117 rfl (lv_at hl 1 rfl) ?_
                    refine n_iald C hM 15 rw_17 (by omega) (by decide) dX5_of_118 ?_
                    refine w_topi (y := (rAt (tRun τ j))) (R_j.at') ?_
                    exact r_wi C hr hlk hS (⟨sv (by rw [ofT, c10, if_pos rfl, ecl, ofR, if_neg c16, if_neg c28, if_neg c40, if_neg c52, if_neg c64, if_neg c76, if_neg c97, if_pos c110]), φ1, α, hM, hR⟩) dX5_of_119
                · skip
                  refine lv_aload_n hx hb dX5_of_100 rfl (lv_at hl 0 rfl) ?_
                  refine q_get C f_X5_50 hM 0 rw_0 ro_16 dX5_of_101 ?_
                  refine lv_iload_n hx hb dX5_of_104 rfl (lv_at hl 1 rfl) ?_
                  refine n_iald C hM 14 rw_16 (by omega) (by decide) dX5_of_105 ?_
                  refine w_topi (y := (rOrg (tRun τ j))) (R_j.org) ?_
                  exact r_wi C hr hlk hS (⟨sv (by rw [ofT, c10, if_pos rfl, ecl, ofR, if_neg c16, if_neg c28, if_neg c40, if_neg c52, if_neg c64, if_neg c76, if_pos c97]), φ1, α, hM, hR⟩) dX5_of_106
              · skip
                refine lv_aload_n hx hb dX5_of_79 rfl (lv_at hl 0 rfl) ?_
                refine q_get C f_X5_46 hM 0 rw_0 ro_15 dX5_of_80 ?_
                refine lv_iload_n hx hb dX5_of_83 rfl (lv_at hl 1 rfl) ?_
                refine n_zald C hM 13 rw_15 (by omega) (by decide) dX5_of_84 ?_
                refine w_topi (y := (bI (rBr (tRun τ j)))) (R_j.br) ?_
                refine b_ifeq (tgt := 92) C dX5_of_85 (by decide) (fun c85 => ?_) (fun c85 => ?_)
                · skip
                  refine lv_iconst (v := 0) hx hb dX5_of_92 (by decide) ?_
                  exact r_wi C hr hlk hS (⟨sv (by rw [ofT, c10, if_pos rfl, ecl, ofR, if_neg c16, if_neg c28, if_neg c40, if_neg c52, if_neg c64, if_pos c76, c85]; rfl), φ1, α, hM, hR⟩) dX5_of_93
                · skip
                  refine lv_iconst (v := 1) hx hb dX5_of_88 (by decide) ?_
                  refine lv_goto (tgt := 93) hx hb dX5_of_89 (by decide) ?_
                  exact r_wi C hr hlk hS (⟨sv (by rw [ofT, c10, if_pos rfl, ecl, ofR, if_neg c16, if_neg c28, if_neg c40, if_neg c52, if_neg c64, if_pos c76, c85]; rfl), φ1, α, hM, hR⟩) dX5_of_93
            · skip
              refine lv_aload_n hx hb dX5_of_67 rfl (lv_at hl 0 rfl) ?_
              refine q_get C f_X5_40 hM 0 rw_0 ro_13 dX5_of_68 ?_
              refine lv_iload_n hx hb dX5_of_71 rfl (lv_at hl 1 rfl) ?_
              refine n_iald C hM 11 rw_13 (by omega) (by decide) dX5_of_72 ?_
              refine w_topi (y := (nI ((rRow (tRun τ j)).length))) (R_j.nrow) ?_
              exact r_wi C hr hlk hS (⟨sv (by rw [ofT, c10, if_pos rfl, ecl, ofR, if_neg c16, if_neg c28, if_neg c40, if_neg c52, if_pos c64]), φ1, α, hM, hR⟩) dX5_of_73
          · skip
            refine lv_aload_n hx hb dX5_of_55 rfl (lv_at hl 0 rfl) ?_
            refine q_get C f_X5_37 hM 0 rw_0 ro_12 dX5_of_56 ?_
            refine lv_iload_n hx hb dX5_of_59 rfl (lv_at hl 1 rfl) ?_
            refine n_iald C hM 10 rw_12 (by omega) (by decide) dX5_of_60 ?_
            refine w_topi (y := (nI (rTk (tRun τ j)))) (R_j.tk) ?_
            exact r_wi C hr hlk hS (⟨sv (by rw [ofT, c10, if_pos rfl, ecl, ofR, if_neg c16, if_neg c28, if_neg c40, if_pos c52]), φ1, α, hM, hR⟩) dX5_of_61
        · skip
          refine lv_aload_n hx hb dX5_of_43 rfl (lv_at hl 0 rfl) ?_
          refine q_get C f_X5_34 hM 0 rw_0 ro_11 dX5_of_44 ?_
          refine lv_iload_n hx hb dX5_of_47 rfl (lv_at hl 1 rfl) ?_
          refine n_iald C hM 9 rw_11 (by omega) (by decide) dX5_of_48 ?_
          refine w_topi (y := (rSeed (tRun τ j))) (R_j.seed) ?_
          exact r_wi C hr hlk hS (⟨sv (by rw [ofT, c10, if_pos rfl, ecl, ofR, if_neg c16, if_neg c28, if_pos c40]), φ1, α, hM, hR⟩) dX5_of_49
      · skip
        refine lv_aload_n hx hb dX5_of_31 rfl (lv_at hl 0 rfl) ?_
        refine q_get C f_X5_31 hM 0 rw_0 ro_10 dX5_of_32 ?_
        refine lv_iload_n hx hb dX5_of_35 rfl (lv_at hl 1 rfl) ?_
        refine n_iald C hM 8 rw_10 (by omega) (by decide) dX5_of_36 ?_
        refine w_topi (y := (rSet (tRun τ j))) (R_j.set) ?_
        exact r_wi C hr hlk hS (⟨sv (by rw [ofT, c10, if_pos rfl, ecl, ofR, if_neg c16, if_pos c28]), φ1, α, hM, hR⟩) dX5_of_37
    · skip
      refine lv_aload_n hx hb dX5_of_19 rfl (lv_at hl 0 rfl) ?_
      refine q_get C f_X5_22 hM 0 rw_0 ro_7 dX5_of_20 ?_
      refine lv_iload_n hx hb dX5_of_23 rfl (lv_at hl 1 rfl) ?_
      refine n_iald C hM 5 rw_7 (by omega) (by decide) dX5_of_24 ?_
      refine w_topi (y := (nI (rCode (tRun τ j)))) (R_j.code) ?_
      exact r_wi C hr hlk hS (⟨sv (by rw [ofT, c10, if_pos rfl, ecl, ofR, if_pos c16]), φ1, α, hM, hR⟩) dX5_of_25
  · skip
    refine lv_iconst (v := (-1)) hx hb dX5_of_13 (by decide) ?_
    exact r_wi C hr hlk hS (⟨sv (by rw [ofT, c10]; rfl), φ1, α, hM, hR⟩) dX5_of_14
set_option maxHeartbeats 4000000 in
set_option maxRecDepth 100000 in
theorem c5_loose (l : Launch) (g : GG) (h : Nat) (ad : Nat → Nat) (τ : TB) (hT : TOK τ) (hD : wD (wA g h ad) g h ad) (r : Int32) : Met l yX5_loose (.code yX5_loose cX5_loose 4 (some .int) :: wsL_law) ({ frames := 1, cells := 0, slots := 0, locals := 22 } : Room) (mP g [.ref (h), .int (r)] (MdH g h ad τ)) (mQ (wA g h ad) (fun z H => z = some (.int (looseT τ r)) ∧ MdH g h ad (τ) H)) 0 0 (wA g h ad) := by
  refine mMet (by decide) (Nat.le_of_ble_eq_true rfl) ?_
  intro p e s m below meth c C hr hlk hnm hM ls hl
  have hx := C.1.1
  have hb := C.1.2.1
  have hl : lv_has ls 4 [(0, .ref (h)), (1, .int (r))] := hl
  obtain ⟨φ, α, hM, hR⟩ := hM
  have hS : va_S (wA g h ad) s.heap s.heap [] := va_S.rf
  have h40 := hT.2.2.1
  refine lv_aload_n hx hb dX5_loose_0 rfl (lv_at hl 0 rfl) ?_
  refine lv_iconst (v := 0) hx hb dX5_loose_1 (by decide) ?_
  refine rp_0 C hM hD hS dX5_loose_2 (fun H locs hM hS => ?_)
  have hR : MdR (upd φ 0 0) α τ := hR
  generalize upd φ 0 0 = φ1 at hM hR
  have hrec := q_recv C hM 0 rw_0 rfl
  refine lv_aload_n hx hb dX5_loose_5 rfl (lv_at hl 0 rfl) ?_
  refine lv_iload_n hx hb dX5_loose_6 rfl (lv_at hl 1 rfl) ?_
  refine k_i (c_V (As := [.int (r)]) (rest := []) C v_X5_142 (c5_isRun l g h ad φ1 α τ hR hT (r)) ⟨Nat.le_of_ble_eq_true rfl, Nat.le_of_ble_eq_true rfl⟩ (hrec) (hM) hl.1 rfl rfl (Nat.le_of_ble_eq_true rfl) dX5_loose_7 ⟨Nat.le_of_ble_eq_true rfl, Nat.le_of_ble_eq_true rfl⟩) (fun r7 q7 => ?_)
  subst q7
  refine b_ifne (tgt := 15) C dX5_loose_10 (by decide) (fun c10 => ?_) (fun c10 => ?_)
  · skip
    obtain ⟨j, hj, rfl⟩ := isRun_nI c10 h40
    have R_j := hR.run hj
    have T_j := hT.2.2.2.1 j hj
    have BC_j := T_j.1
    have BL_j := T_j.2.1
    have BT0_j := T_j.2.2.2.2.2.1
    have BT_j := T_j.2.2.2.2.2.2.1
    have BR_j := T_j.2.2.2.2.2.2.2.1
    have BQ_j : ∀ jq, jq < (rStp (tRun τ j)).length → (rStp (tRun τ j)).getD jq 0 < 256 := fun jq hj => T_j.2.2.1 _ (getD_mem hj)
    have ecl : (nI j).toNatClampNeg = j := nI_clamp (by omega)
    refine lv_aload_n hx hb dX5_loose_15 rfl (lv_at hl 0 rfl) ?_
    refine q_get C f_X5_68 hM 0 rw_0 ro_22 dX5_loose_16 ?_
    refine lv_iload_n hx hb dX5_loose_19 rfl (lv_at hl 1 rfl) ?_
    refine n_zald C hM 20 rw_22 (by omega) (by decide) dX5_loose_20 ?_
    refine w_topi (y := (bI (rCk (tRun τ j)))) (R_j.ck) ?_
    refine b_ifeq (tgt := 30) C dX5_loose_21 (by decide) (fun c21 => ?_) (fun c21 => ?_)
    · skip
      refine lv_iconst (v := 0) hx hb dX5_loose_30 (by decide) ?_
      refine lv_istore_n (lv' := [(2, .int (0)), (0, .ref (h)), (1, .int (nI (j)))]) hx hb dX5_loose_31 rfl hl (by decide) rfl (fun ls hl => ?_)
      refine lv_iconst (v := nI 0) hx hb dX5_loose_32 (by decide) ?_
      refine lv_istore_n (lv' := [(3, .int (nI (0))), (2, .int (0)), (0, .ref (h)), (1, .int (nI (j)))]) hx hb dX5_loose_33 rfl hl (by decide) rfl (fun ls hl => ?_)
      have lp : ∀ (n_lp : Nat) (i : Nat) (x : Int32) (ls : Array Slot), (i ≤ 8) → (8 + 1 ≤ i + n_lp) → (x = (if rCk (tRun τ j) then 256 else 0) ||| chgM (tDat τ) (tRun τ j) i) → lv_has ls 4 [(0, .ref (h)), (1, .int (nI (j))), (2, .int (x)), (3, .int (nI (i)))] → W p l e ({ frames := 1, cells := 0, slots := 0, locals := 22 } : Room) s m ([.ref (h), .int (nI (j))] : List Value).toArray below meth c H locs 0 0 (MQ below (mQ (wA g h ad) (fun z H => z = some (.int (looseT τ (nI j))) ∧ MdH g h ad (τ) H)) (([.ref (h), .int (nI (j))] : List Value).toArray) s 0 0 (wA g h ad)) (F0 m 34 ls []) := by
        intro n_lp
        induction n_lp with
        | zero =>
          intro i x ls hi hn hv
          exact absurd hn (by omega)
        | succ n_lp ih_lp =>
          intro i x ls hi hn hv hl
          refine lv_iload_n hx hb dX5_loose_34 rfl (lv_at hl 3 rfl) ?_
          refine lv_bipush (v := nI 8) hx hb dX5_loose_35 (by decide) ?_
          refine n_icmp_ge (tgt := 61) C (by omega) (by omega) dX5_loose_37 (by decide) (fun c37 => ?_) (fun c37 => ?_)
          · skip
            refine lv_iload_n hx hb dX5_loose_61 rfl (lv_at hl 2 rfl) ?_
            exact r_wi C hr hlk hS (⟨sv (by rw [looseT, c10, if_pos rfl, ecl, hv, show i = 8 by omega]; exact or256 _ _ _), φ1, α, hM, hR⟩) dX5_loose_62
          · skip
            refine lv_aload_n hx hb dX5_loose_40 rfl (lv_at hl 0 rfl) ?_
            refine lv_iload_n hx hb dX5_loose_41 rfl (lv_at hl 1 rfl) ?_
            refine lv_iload_n hx hb dX5_loose_42 rfl (lv_at hl 3 rfl) ?_
            refine k_i (c_V (As := [.int (nI (j)), .int (nI (i))]) (rest := []) C v_X5_149 (c5_isOtherWord l g h ad φ1 α τ hR hT j i (by omega) (by omega)) ⟨Nat.le_of_ble_eq_true rfl, Nat.le_of_ble_eq_true rfl⟩ (hrec) (hM) hl.1 rfl rfl (Nat.le_of_ble_eq_true rfl) dX5_loose_43 ⟨Nat.le_of_ble_eq_true rfl, Nat.le_of_ble_eq_true rfl⟩) (fun r43 q43 => ?_)
            subst q43
            refine b_ifeq (tgt := 55) C dX5_loose_46 (by decide) (fun c46 => ?_) (fun c46 => ?_)
            · skip
              refine n_iinc (d := 1) (lv' := [(3, .int (nI (i + 1))), (0, .ref (h)), (1, .int (nI (j))), (2, .int (x))]) C dX5_loose_55 (by decide) hl (k := 3) rfl (by decide) rfl (fun ls hl => ?_)
              refine lv_goto (tgt := 34) hx hb dX5_loose_58 (by decide) ?_
              exact ih_lp (i + 1) (x) ls (by omega) (by omega) (by rw [hv]; simp only [chgM, c46, Bool.false_eq_true, if_false]) (lv_sub hl [1, 2, 3, 0] rfl)
            · skip
              refine lv_iload_n hx hb dX5_loose_49 rfl (lv_at hl 2 rfl) ?_
              refine lv_iconst (v := 1) hx hb dX5_loose_50 (by decide) ?_
              refine lv_iload_n hx hb dX5_loose_51 rfl (lv_at hl 3 rfl) ?_
              refine lv_ishl hx hb dX5_loose_52 ?_
              refine lv_ior hx hb dX5_loose_53 ?_
              refine lv_istore_n (lv' := [(2, .int ((x) ||| ((1) <<< ((nI (i)) &&& 31)))), (0, .ref (h)), (1, .int (nI (j))), (3, .int (nI (i)))]) hx hb dX5_loose_54 rfl hl (by decide) rfl (fun ls hl => ?_)
              refine n_iinc (d := 1) (lv' := [(3, .int (nI (i + 1))), (2, .int ((x) ||| ((1) <<< ((nI (i)) &&& 31)))), (0, .ref (h)), (1, .int (nI (j)))]) C dX5_loose_55 (by decide) hl (k := 3) rfl (by decide) rfl (fun ls hl => ?_)
              refine lv_goto (tgt := 34) hx hb dX5_loose_58 (by decide) ?_
              exact ih_lp (i + 1) ((x) ||| ((1) <<< ((nI (i)) &&& 31))) ls (by omega) (by omega) (by rw [hv]; simp only [chgM, c46, if_true]; exact or_assoc32 _ _ _) (lv_sub hl [2, 3, 1, 0] rfl)
      exact lp (9) (0) (0) ls (by omega) (by omega) (by rw [c21]; show _ = _ ||| (0 : Int32); decide) (lv_sub hl [2, 3, 1, 0] rfl)
    · skip
      refine lv_sipush (v := 256) hx hb dX5_loose_24 (by decide) ?_
      refine lv_goto (tgt := 31) hx hb dX5_loose_27 (by decide) ?_
      refine lv_istore_n (lv' := [(2, .int (256)), (0, .ref (h)), (1, .int (nI (j)))]) hx hb dX5_loose_31 rfl hl (by decide) rfl (fun ls hl => ?_)
      refine lv_iconst (v := nI 0) hx hb dX5_loose_32 (by decide) ?_
      refine lv_istore_n (lv' := [(3, .int (nI (0))), (2, .int (256)), (0, .ref (h)), (1, .int (nI (j)))]) hx hb dX5_loose_33 rfl hl (by decide) rfl (fun ls hl => ?_)
      have lp : ∀ (n_lp : Nat) (i : Nat) (x : Int32) (ls : Array Slot), (i ≤ 8) → (8 + 1 ≤ i + n_lp) → (x = (if rCk (tRun τ j) then 256 else 0) ||| chgM (tDat τ) (tRun τ j) i) → lv_has ls 4 [(0, .ref (h)), (1, .int (nI (j))), (2, .int (x)), (3, .int (nI (i)))] → W p l e ({ frames := 1, cells := 0, slots := 0, locals := 22 } : Room) s m ([.ref (h), .int (nI (j))] : List Value).toArray below meth c H locs 0 0 (MQ below (mQ (wA g h ad) (fun z H => z = some (.int (looseT τ (nI j))) ∧ MdH g h ad (τ) H)) (([.ref (h), .int (nI (j))] : List Value).toArray) s 0 0 (wA g h ad)) (F0 m 34 ls []) := by
        intro n_lp
        induction n_lp with
        | zero =>
          intro i x ls hi hn hv
          exact absurd hn (by omega)
        | succ n_lp ih_lp =>
          intro i x ls hi hn hv hl
          refine lv_iload_n hx hb dX5_loose_34 rfl (lv_at hl 3 rfl) ?_
          refine lv_bipush (v := nI 8) hx hb dX5_loose_35 (by decide) ?_
          refine n_icmp_ge (tgt := 61) C (by omega) (by omega) dX5_loose_37 (by decide) (fun c37 => ?_) (fun c37 => ?_)
          · skip
            refine lv_iload_n hx hb dX5_loose_61 rfl (lv_at hl 2 rfl) ?_
            exact r_wi C hr hlk hS (⟨sv (by rw [looseT, c10, if_pos rfl, ecl, hv, show i = 8 by omega]; exact or256 _ _ _), φ1, α, hM, hR⟩) dX5_loose_62
          · skip
            refine lv_aload_n hx hb dX5_loose_40 rfl (lv_at hl 0 rfl) ?_
            refine lv_iload_n hx hb dX5_loose_41 rfl (lv_at hl 1 rfl) ?_
            refine lv_iload_n hx hb dX5_loose_42 rfl (lv_at hl 3 rfl) ?_
            refine k_i (c_V (As := [.int (nI (j)), .int (nI (i))]) (rest := []) C v_X5_149 (c5_isOtherWord l g h ad φ1 α τ hR hT j i (by omega) (by omega)) ⟨Nat.le_of_ble_eq_true rfl, Nat.le_of_ble_eq_true rfl⟩ (hrec) (hM) hl.1 rfl rfl (Nat.le_of_ble_eq_true rfl) dX5_loose_43 ⟨Nat.le_of_ble_eq_true rfl, Nat.le_of_ble_eq_true rfl⟩) (fun r43 q43 => ?_)
            subst q43
            refine b_ifeq (tgt := 55) C dX5_loose_46 (by decide) (fun c46 => ?_) (fun c46 => ?_)
            · skip
              refine n_iinc (d := 1) (lv' := [(3, .int (nI (i + 1))), (0, .ref (h)), (1, .int (nI (j))), (2, .int (x))]) C dX5_loose_55 (by decide) hl (k := 3) rfl (by decide) rfl (fun ls hl => ?_)
              refine lv_goto (tgt := 34) hx hb dX5_loose_58 (by decide) ?_
              exact ih_lp (i + 1) (x) ls (by omega) (by omega) (by rw [hv]; simp only [chgM, c46, Bool.false_eq_true, if_false]) (lv_sub hl [1, 2, 3, 0] rfl)
            · skip
              refine lv_iload_n hx hb dX5_loose_49 rfl (lv_at hl 2 rfl) ?_
              refine lv_iconst (v := 1) hx hb dX5_loose_50 (by decide) ?_
              refine lv_iload_n hx hb dX5_loose_51 rfl (lv_at hl 3 rfl) ?_
              refine lv_ishl hx hb dX5_loose_52 ?_
              refine lv_ior hx hb dX5_loose_53 ?_
              refine lv_istore_n (lv' := [(2, .int ((x) ||| ((1) <<< ((nI (i)) &&& 31)))), (0, .ref (h)), (1, .int (nI (j))), (3, .int (nI (i)))]) hx hb dX5_loose_54 rfl hl (by decide) rfl (fun ls hl => ?_)
              refine n_iinc (d := 1) (lv' := [(3, .int (nI (i + 1))), (2, .int ((x) ||| ((1) <<< ((nI (i)) &&& 31)))), (0, .ref (h)), (1, .int (nI (j)))]) C dX5_loose_55 (by decide) hl (k := 3) rfl (by decide) rfl (fun ls hl => ?_)
              refine lv_goto (tgt := 34) hx hb dX5_loose_58 (by decide) ?_
              exact ih_lp (i + 1) ((x) ||| ((1) <<< ((nI (i)) &&& 31))) ls (by omega) (by omega) (by rw [hv]; simp only [chgM, c46, if_true]; exact or_assoc32 _ _ _) (lv_sub hl [2, 3, 1, 0] rfl)
      exact lp (9) (0) (256) ls (by omega) (by omega) (by rw [c21]; show _ = _ ||| (0 : Int32); decide) (lv_sub hl [2, 3, 1, 0] rfl)
  · skip
    refine lv_iconst (v := (-1)) hx hb dX5_loose_13 (by decide) ?_
    exact r_wi C hr hlk hS (⟨sv (by rw [looseT, c10]; rfl), φ1, α, hM, hR⟩) dX5_loose_14
set_option maxHeartbeats 4000000 in
set_option maxRecDepth 100000 in
theorem c5_saved (l : Launch) (g : GG) (h : Nat) (ad : Nat → Nat) (τ : TB) (hT : TOK τ) (hD : wD (wA g h ad) g h ad) (k all own t : Int32) : Met l yX5_saved (.code yX5_saved cX5_saved 5 (some .int) :: wsL_law) ({ frames := 2, cells := 0, slots := 0, locals := 50 } : Room) (mP g [.ref (h), .int (k), .int (all), .int (own), .int (t)] (MdH g h ad τ)) (mQ (wA g h ad) (fun z H => z = some (.int (savedT τ k all own t)) ∧ MdH g h ad (τ) H)) 0 0 (wA g h ad) := by
  refine mMet (by decide) (Nat.le_of_ble_eq_true rfl) ?_
  intro p e s m below meth c C hr hlk hnm hM ls hl
  have hx := C.1.1
  have hb := C.1.2.1
  have hl : lv_has ls 5 [(0, .ref (h)), (1, .int (k)), (2, .int (all)), (3, .int (own)), (4, .int (t))] := hl
  obtain ⟨φ, α, hM, hR⟩ := hM
  have hS : va_S (wA g h ad) s.heap s.heap [] := va_S.rf
  have h40 := hT.2.2.1
  refine lv_aload_n hx hb dX5_saved_0 rfl (lv_at hl 0 rfl) ?_
  refine lv_iconst (v := 0) hx hb dX5_saved_1 (by decide) ?_
  refine rp_0 C hM hD hS dX5_saved_2 (fun H locs hM hS => ?_)
  have hR : MdR (upd φ 0 0) α τ := hR
  generalize upd φ 0 0 = φ1 at hM hR
  have hrec := q_recv C hM 0 rw_0 rfl
  refine lv_aload_n hx hb dX5_saved_5 rfl (lv_at hl 0 rfl) ?_
  refine lv_iload_n hx hb dX5_saved_6 rfl (lv_at hl 1 rfl) ?_
  refine k_i (c_V (As := [.int (k)]) (rest := []) C v_X5_81 (c5_isCode l g h (k)) ⟨Nat.le_of_ble_eq_true rfl, Nat.le_of_ble_eq_true rfl⟩ (hrec) (trivial) hl.1 rfl rfl (Nat.le_of_ble_eq_true rfl) dX5_saved_7 ⟨Nat.le_of_ble_eq_true rfl, Nat.le_of_ble_eq_true rfl⟩) (fun r7 q7 => ?_)
  subst q7
  refine b_ifeq (tgt := 50) C dX5_saved_10 (by decide) (fun c10 => ?_) (fun c10 => ?_)
  · skip
    refine lv_iconst (v := (-1)) hx hb dX5_saved_50 (by decide) ?_
    exact r_wi C hr hlk hS (⟨sv (by rw [savedT, show canRunB k all own t = false by simp [canRunB, c10]]; rfl), φ1, α, hM, hR⟩) dX5_saved_51
  · skip
    refine lv_aload_n hx hb dX5_saved_13 rfl (lv_at hl 0 rfl) ?_
    refine lv_iload_n hx hb dX5_saved_14 rfl (lv_at hl 2 rfl) ?_
    refine k_i (c_V (As := [.int (all)]) (rest := []) C v_X5_125 (c5_areSettings l g h ad φ1 α (all)) ⟨Nat.le_of_ble_eq_true rfl, Nat.le_of_ble_eq_true rfl⟩ (hrec) (hM) hl.1 rfl rfl (Nat.le_of_ble_eq_true rfl) dX5_saved_15 ⟨Nat.le_of_ble_eq_true rfl, Nat.le_of_ble_eq_true rfl⟩) (fun r15 q15 => ?_)
    subst q15
    refine b_ifeq (tgt := 50) C dX5_saved_18 (by decide) (fun c18 => ?_) (fun c18 => ?_)
    · skip
      refine lv_iconst (v := (-1)) hx hb dX5_saved_50 (by decide) ?_
      exact r_wi C hr hlk hS (⟨sv (by rw [savedT, show canRunB k all own t = false by simp [canRunB, c10, c18]]; rfl), φ1, α, hM, hR⟩) dX5_saved_51
    · skip
      refine lv_aload_n hx hb dX5_saved_21 rfl (lv_at hl 0 rfl) ?_
      refine lv_iload_n hx hb dX5_saved_22 rfl (lv_at hl 3 rfl) ?_
      refine k_i (c_V (As := [.int (own)]) (rest := []) C v_X5_128 (c5_isSeed l g h (own)) ⟨Nat.le_of_ble_eq_true rfl, Nat.le_of_ble_eq_true rfl⟩ (hrec) (trivial) hl.1 rfl rfl (Nat.le_of_ble_eq_true rfl) dX5_saved_23 ⟨Nat.le_of_ble_eq_true rfl, Nat.le_of_ble_eq_true rfl⟩) (fun r23 q23 => ?_)
      subst q23
      refine b_ifeq (tgt := 50) C dX5_saved_26 (by decide) (fun c26 => ?_) (fun c26 => ?_)
      · skip
        refine lv_iconst (v := (-1)) hx hb dX5_saved_50 (by decide) ?_
        exact r_wi C hr hlk hS (⟨sv (by rw [savedT, show canRunB k all own t = false by simp [canRunB, c10, c18, c26]]; rfl), φ1, α, hM, hR⟩) dX5_saved_51
      · skip
        refine lv_aload_n hx hb dX5_saved_29 rfl (lv_at hl 0 rfl) ?_
        refine lv_iload hx hb dX5_saved_30 (lv_at hl 4 rfl) ?_
        refine k_i (c_V (As := [.int (t)]) (rest := []) C v_X5_131 (c5_areTicks l g h (t)) ⟨Nat.le_of_ble_eq_true rfl, Nat.le_of_ble_eq_true rfl⟩ (hrec) (trivial) hl.1 rfl rfl (Nat.le_of_ble_eq_true rfl) dX5_saved_32 ⟨Nat.le_of_ble_eq_true rfl, Nat.le_of_ble_eq_true rfl⟩) (fun r32 q32 => ?_)
        subst q32
        refine b_ifeq (tgt := 50) C dX5_saved_35 (by decide) (fun c35 => ?_) (fun c35 => ?_)
        · skip
          refine lv_iconst (v := (-1)) hx hb dX5_saved_50 (by decide) ?_
          exact r_wi C hr hlk hS (⟨sv (by rw [savedT, show canRunB k all own t = false by simp [canRunB, c10, c18, c26, c35]]; rfl), φ1, α, hM, hR⟩) dX5_saved_51
        · skip
          obtain ⟨k1, hk1, rfl⟩ := inR_nI (hi := 3) c10
          obtain ⟨t1, ht0, ht1, rfl⟩ := inR1_nI (hi := 16) c35
          refine lv_aload_n hx hb dX5_saved_38 rfl (lv_at hl 0 rfl) ?_
          refine lv_iload_n hx hb dX5_saved_39 rfl (lv_at hl 1 rfl) ?_
          refine lv_iload_n hx hb dX5_saved_40 rfl (lv_at hl 2 rfl) ?_
          refine lv_iload_n hx hb dX5_saved_41 rfl (lv_at hl 3 rfl) ?_
          refine lv_iload hx hb dX5_saved_42 (lv_at hl 4 rfl) ?_
          refine k_i (c_V (As := [.int (nI (k1)), .int (all), .int (own), .int (nI (t1))]) (rest := []) C v_X5_155 (c5_savedBy l g h ad φ1 α τ hR hT k1 ((all)) ((own)) t1 (by omega) (by omega)) ⟨Nat.le_of_ble_eq_true rfl, Nat.le_of_ble_eq_true rfl⟩ (hrec) (hM) hl.1 rfl rfl (Nat.le_of_ble_eq_true rfl) dX5_saved_44 ⟨Nat.le_of_ble_eq_true rfl, Nat.le_of_ble_eq_true rfl⟩) (fun r44 q44 => ?_)
          subst q44
          refine lv_goto (tgt := 51) hx hb dX5_saved_47 (by decide) ?_
          exact r_wi C hr hlk hS (⟨sv (by rw [savedT, canRunB, c10, c18, c26, c35, nI_clamp (by omega), nI_clamp (by omega)]; rfl), φ1, α, hM, hR⟩) dX5_saved_51
set_option maxHeartbeats 4000000 in
set_option maxRecDepth 100000 in
theorem c5_idle (l : Launch) (g : GG) (h : Nat) (ad : Nat → Nat) (τ : TB) (hT : TOK τ) (hD : wD (wA g h ad) g h ad) : Met l yX5_idle (.code yX5_idle cX5_idle 3 (some .int) :: wsL_law) ({ frames := 0, cells := 0, slots := 0, locals := 0 } : Room) (mP g [.ref (h)] (MdH g h ad τ)) (mQ (wA g h ad) (fun z H => z = some (.int (idleM τ (tN τ))) ∧ MdH g h ad (τ) H)) 0 0 (wA g h ad) := by
  refine mMet (by decide) (Nat.le_of_ble_eq_true rfl) ?_
  intro p e s m below meth c C hr hlk hnm hM ls hl
  have hx := C.1.1
  have hb := C.1.2.1
  have hl : lv_has ls 3 [(0, .ref (h))] := hl
  obtain ⟨φ, α, hM, hR⟩ := hM
  have hS : va_S (wA g h ad) s.heap s.heap [] := va_S.rf
  have h40 := hT.2.2.1
  refine lv_aload_n hx hb dX5_idle_0 rfl (lv_at hl 0 rfl) ?_
  refine lv_iconst (v := 0) hx hb dX5_idle_1 (by decide) ?_
  refine rp_0 C hM hD hS dX5_idle_2 (fun H locs hM hS => ?_)
  have hR : MdR (upd φ 0 0) α τ := hR
  generalize upd φ 0 0 = φ1 at hM hR
  have hrec := q_recv C hM 0 rw_0 rfl
  refine lv_bipush (v := 15) hx hb dX5_idle_5 (by decide) ?_
  refine lv_istore_n (lv' := [(1, .int (15)), (0, .ref (h))]) hx hb dX5_idle_7 rfl hl (by decide) rfl (fun ls hl => ?_)
  refine lv_iconst (v := nI 0) hx hb dX5_idle_8 (by decide) ?_
  refine lv_istore_n (lv' := [(2, .int (nI (0))), (1, .int (15)), (0, .ref (h))]) hx hb dX5_idle_9 rfl hl (by decide) rfl (fun ls hl => ?_)
  have lp : ∀ (n_lp : Nat) (i : Nat) (x : Int32) (ls : Array Slot), (i ≤ tN τ) → (tN τ + 1 ≤ i + n_lp) → (x = idleM τ i) → lv_has ls 3 [(0, .ref (h)), (1, .int (x)), (2, .int (nI (i)))] → W p l e ({ frames := 0, cells := 0, slots := 0, locals := 0 } : Room) s m ([.ref (h)] : List Value).toArray below meth c H locs 0 0 (MQ below (mQ (wA g h ad) (fun z H => z = some (.int (idleM τ (tN τ))) ∧ MdH g h ad (τ) H)) (([.ref (h)] : List Value).toArray) s 0 0 (wA g h ad)) (F0 m 10 ls []) := by
    intro n_lp
    induction n_lp with
    | zero =>
      intro i x ls hi hn hv
      exact absurd hn (by omega)
    | succ n_lp ih_lp =>
      intro i x ls hi hn hv hl
      refine lv_iload_n hx hb dX5_idle_10 rfl (lv_at hl 2 rfl) ?_
      refine lv_aload_n hx hb dX5_idle_11 rfl (lv_at hl 0 rfl) ?_
      refine q_get C f_X5_90 hM 0 rw_0 ro_6 dX5_idle_12 ?_
      refine w_topi (y := (nI (tN τ))) (hR.n) ?_
      refine n_icmp_ge (tgt := 35) C (by omega) (by omega) dX5_idle_15 (by decide) (fun c15 => ?_) (fun c15 => ?_)
      · skip
        refine lv_iload_n hx hb dX5_idle_35 rfl (lv_at hl 1 rfl) ?_
        exact r_wi C hr hlk hS (⟨sv (by rw [hv, show i = tN τ by omega]), φ1, α, hM, hR⟩) dX5_idle_36
      · skip
        have R_i := hR.run c15
        have T_i := hT.2.2.2.1 i c15
        have BC_i := T_i.1
        have BL_i := T_i.2.1
        have BT0_i := T_i.2.2.2.2.2.1
        have BT_i := T_i.2.2.2.2.2.2.1
        have BR_i := T_i.2.2.2.2.2.2.2.1
        have BQ_i : ∀ jq, jq < (rStp (tRun τ i)).length → (rStp (tRun τ i)).getD jq 0 < 256 := fun jq hj => T_i.2.2.1 _ (getD_mem hj)
        refine lv_iload_n hx hb dX5_idle_18 rfl (lv_at hl 1 rfl) ?_
        refine lv_aload_n hx hb dX5_idle_19 rfl (lv_at hl 0 rfl) ?_
        refine q_get C f_X5_56 hM 0 rw_0 ro_18 dX5_idle_20 ?_
        refine lv_iload_n hx hb dX5_idle_23 rfl (lv_at hl 2 rfl) ?_
        refine n_iald C hM 16 rw_18 (by omega) (by decide) dX5_idle_24 ?_
        refine w_topi (y := (rRS (tRun τ i))) (R_i.rs) ?_
        refine lv_iconst (v := (-1)) hx hb dX5_idle_25 (by decide) ?_
        refine lv_ixor hx hb dX5_idle_26 ?_
        refine lv_iand hx hb dX5_idle_27 ?_
        refine lv_istore_n (lv' := [(1, .int ((x) &&& ((rRS (tRun τ i)) ^^^ ((-1))))), (0, .ref (h)), (2, .int (nI (i)))]) hx hb dX5_idle_28 rfl hl (by decide) rfl (fun ls hl => ?_)
        refine n_iinc (d := 1) (lv' := [(2, .int (nI (i + 1))), (1, .int ((x) &&& ((rRS (tRun τ i)) ^^^ ((-1))))), (0, .ref (h))]) C dX5_idle_29 (by decide) hl (k := 2) rfl (by decide) rfl (fun ls hl => ?_)
        refine lv_goto (tgt := 10) hx hb dX5_idle_32 (by decide) ?_
        exact ih_lp (i + 1) ((x) &&& ((rRS (tRun τ i)) ^^^ ((-1)))) ls (by omega) (by omega) (by rw [hv]; rfl) (lv_sub hl [2, 1, 0] rfl)
  exact lp (tN τ + 1) (0) (15) ls (by omega) (by omega) (rfl) (lv_sub hl [2, 1, 0] rfl)
set_option maxHeartbeats 4000000 in
set_option maxRecDepth 100000 in
theorem c5_claimed (l : Launch) (g : GG) (h : Nat) (ad : Nat → Nat) (τ : TB) (hT : TOK τ) (hD : wD (wA g h ad) g h ad) (i w : Int32) : Met l yX5_claimed (.code yX5_claimed cX5_claimed 4 (some .int) :: wsL_law) ({ frames := 2, cells := 0, slots := 0, locals := 45 } : Room) (mP g [.ref (h), .int (i), .int (w)] (MdH g h ad τ)) (mQ (wA g h ad) (fun z H => z = some (.int (claimedT τ i w)) ∧ MdH g h ad (τ) H)) 0 0 (wA g h ad) := by
  refine mMet (by decide) (Nat.le_of_ble_eq_true rfl) ?_
  intro p e s m below meth c C hr hlk hnm hM ls hl
  have hx := C.1.1
  have hb := C.1.2.1
  have hl : lv_has ls 4 [(0, .ref (h)), (1, .int (i)), (2, .int (w))] := hl
  obtain ⟨φ, α, hM, hR⟩ := hM
  have hS : va_S (wA g h ad) s.heap s.heap [] := va_S.rf
  have h40 := hT.2.2.1
  refine lv_aload_n hx hb dX5_claimed_0 rfl (lv_at hl 0 rfl) ?_
  refine lv_iconst (v := 0) hx hb dX5_claimed_1 (by decide) ?_
  refine rp_0 C hM hD hS dX5_claimed_2 (fun H locs hM hS => ?_)
  have hR : MdR (upd φ 0 0) α τ := hR
  generalize upd φ 0 0 = φ1 at hM hR
  have hrec := q_recv C hM 0 rw_0 rfl
  refine lv_iload_n hx hb dX5_claimed_5 rfl (lv_at hl 1 rfl) ?_
  refine lv_if_lt (tgt := 17) hx hb dX5_claimed_6 (by decide) (fun c6 => ?_) (fun c6 => ?_)
  · skip
    refine lv_iconst (v := (-1)) hx hb dX5_claimed_17 (by decide) ?_
    exact r_wi C hr hlk hS (⟨sv (by rw [claimedT, show inR i 0 ((tClm τ).length - 1) = false from Bool.eq_false_iff.mpr (fun hz => by have hz := inR_iff.mp hz; have hc20 := hT.2.2.2.2.1; simp only [fa_lt, li_0] at c6; omega)]; rfl), φ1, α, hM, hR⟩) dX5_claimed_18
  · skip
    refine lv_iload_n hx hb dX5_claimed_9 rfl (lv_at hl 1 rfl) ?_
    refine lv_aload_n hx hb dX5_claimed_10 rfl (lv_at hl 0 rfl) ?_
    refine q_get C f_X5_213 hM 0 rw_0 ro_35 dX5_claimed_11 ?_
    refine w_topi (y := (nI ((tClm τ).length))) (hR.nc) ?_
    refine lv_icmp_lt (tgt := 19) hx hb dX5_claimed_14 (by decide) (fun c14 => ?_) (fun c14 => ?_)
    · skip
      obtain ⟨i1, hi1, rfl⟩ := clm_nI c6 c14
      have hc20 := hT.2.2.2.2.1
      have ecl : (nI i1).toNatClampNeg = i1 := nI_clamp (by omega)
      have hin : inR (nI i1) 0 ((tClm τ).length - 1) = true := inR_iff.mpr (by rw [nI_toInt (by omega)]; omega)
      refine lv_aload_n hx hb dX5_claimed_19 rfl (lv_at hl 0 rfl) ?_
      refine q_get C f_X5_74 hM 0 rw_0 ro_36 dX5_claimed_20 ?_
      refine lv_iload_n hx hb dX5_claimed_23 rfl (lv_at hl 1 rfl) ?_
      refine n_iald C hM 22 rw_36 (by omega) (by decide) dX5_claimed_24 ?_
      refine w_topi (y := (nI ((tClm τ).getD i1 0))) (hR.clm (by omega)) ?_
      refine lv_istore_n (lv' := [(3, .int (nI ((tClm τ).getD i1 0))), (0, .ref (h)), (1, .int (nI (i1))), (2, .int (w))]) hx hb dX5_claimed_25 rfl hl (by decide) rfl (fun ls hl => ?_)
      obtain ⟨hr1, hr2⟩ := hT.2.2.2.2.2 ((tClm τ).getD i1 0) (getD_mem hi1)
      have R_c := hR.run hr1
      have T_c := hT.2.2.2.1 _ hr1
      have BT0_c := T_c.2.2.2.2.2.1
      have BT_c := T_c.2.2.2.2.2.2.1
      have BR_c := T_c.2.2.2.2.2.2.2.2.1 hr2
      refine lv_iload_n hx hb dX5_claimed_26 rfl (lv_at hl 3 rfl) ?_
      refine lv_if_ne (tgt := 32) hx hb dX5_claimed_27 (by decide) (fun c27 => ?_) (fun c27 => ?_)
      · skip
        refine lv_iload_n hx hb dX5_claimed_32 rfl (lv_at hl 3 rfl) ?_
        refine lv_iconst (v := 1) hx hb dX5_claimed_33 (by decide) ?_
        refine lv_icmp_ne (tgt := 56) hx hb dX5_claimed_34 (by decide) (fun c34 => ?_) (fun c34 => ?_)
        · skip
          refine lv_iload_n hx hb dX5_claimed_56 rfl (lv_at hl 3 rfl) ?_
          refine lv_iconst (v := 2) hx hb dX5_claimed_57 (by decide) ?_
          refine lv_icmp_ne (tgt := 77) hx hb dX5_claimed_58 (by decide) (fun c58 => ?_) (fun c58 => ?_)
          · skip
            refine lv_iconst (v := (-1)) hx hb dX5_claimed_77 (by decide) ?_
            exact r_wi C hr hlk hS (⟨sv (by rw [claimedT, hin, if_pos rfl, ecl, if_neg c27, if_neg c34, if_neg c58]), φ1, α, hM, hR⟩) dX5_claimed_78
          · skip
            refine lv_aload_n hx hb dX5_claimed_61 rfl (lv_at hl 1 rfl) ?_
            refine lv_iload_n hx hb dX5_claimed_62 rfl (lv_at hl 0 rfl) ?_
            refine k_i (c_V (As := [.int (nI ((tClm τ).getD i1 0))]) (rest := []) C v_X5_152 (c5_isStale l g h ad φ1 α τ hR hT ((tClm τ).getD i1 0) (by omega)) ⟨Nat.le_of_ble_eq_true rfl, Nat.le_of_ble_eq_true rfl⟩ (hrec) (hM) hl.1 rfl rfl (Nat.le_of_ble_eq_true rfl) dX5_claimed_63 ⟨Nat.le_of_ble_eq_true rfl, Nat.le_of_ble_eq_true rfl⟩) (fun r63 q63 => ?_)
            subst q63
            refine b_ifeq (tgt := 73) C dX5_claimed_66 (by decide) (fun c66 => ?_) (fun c66 => ?_)
            · skip
              refine lv_iconst (v := 0) hx hb dX5_claimed_73 (by decide) ?_
              refine lv_goto (tgt := 78) hx hb dX5_claimed_74 (by decide) ?_
              exact r_wi C hr hlk hS (⟨sv (by rw [claimedT, hin, if_pos rfl, ecl, if_neg c27, if_neg c34, if_pos c58, c66]; rfl), φ1, α, hM, hR⟩) dX5_claimed_78
            · skip
              refine lv_iconst (v := 1) hx hb dX5_claimed_69 (by decide) ?_
              refine lv_goto (tgt := 78) hx hb dX5_claimed_70 (by decide) ?_
              exact r_wi C hr hlk hS (⟨sv (by rw [claimedT, hin, if_pos rfl, ecl, if_neg c27, if_neg c34, if_pos c58, c66]; rfl), φ1, α, hM, hR⟩) dX5_claimed_78
        · skip
          refine lv_aload_n hx hb dX5_claimed_37 rfl (lv_at hl 1 rfl) ?_
          refine q_get C f_X5_43 hM 0 rw_0 ro_14 dX5_claimed_38 ?_
          refine lv_bipush (v := nI 16) hx hb dX5_claimed_41 (by decide) ?_
          refine lv_iload_n hx hb dX5_claimed_43 rfl (lv_at hl 0 rfl) ?_
          refine n_imul C dX5_claimed_44 ?_
          refine lv_aload_n hx hb dX5_claimed_45 rfl (lv_at hl 1 rfl) ?_
          refine q_get C f_X5_40 hM 0 rw_0 ro_13 dX5_claimed_46 ?_
          refine lv_iload_n hx hb dX5_claimed_49 rfl (lv_at hl 0 rfl) ?_
          refine n_iald C hM 11 rw_13 (by omega) (by decide) dX5_claimed_50 ?_
          refine w_topi (y := (nI ((rRow (tRun τ ((tClm τ).getD i1 0))).length))) (R_c.nrow) ?_
          refine n_iadd C dX5_claimed_51 ?_
          refine lv_iconst (v := nI 1) hx hb dX5_claimed_52 (by decide) ?_
          refine n_isub C (by omega) dX5_claimed_53 ?_
          refine n_iald C hM 12 rw_14 (by omega) (by decide) dX5_claimed_54 ?_
          refine w_topi (y := ((rRow (tRun τ ((tClm τ).getD i1 0))).getD (rTk (tRun τ ((tClm τ).getD i1 0)) - 1) 0)) (by rw [show 16 * ((tClm τ).getD i1 0) + (rRow (tRun τ ((tClm τ).getD i1 0))).length - 1 = 16 * ((tClm τ).getD i1 0) + (rTk (tRun τ ((tClm τ).getD i1 0)) - 1) by omega]; exact R_c.row (by omega)) ?_
          exact r_wi C hr hlk hS (⟨sv (by rw [claimedT, hin, if_pos rfl, ecl, if_neg c27, if_pos c34]), φ1, α, hM, hR⟩) dX5_claimed_55
      · skip
        refine lv_iload_n hx hb dX5_claimed_30 rfl (lv_at hl 0 rfl) ?_
        exact r_wi C hr hlk hS (⟨sv (by rw [claimedT, hin, if_pos rfl, ecl, if_pos c27]), φ1, α, hM, hR⟩) dX5_claimed_31
    · skip
      refine lv_iconst (v := (-1)) hx hb dX5_claimed_17 (by decide) ?_
      exact r_wi C hr hlk hS (⟨sv (by rw [claimedT, show inR i 0 ((tClm τ).length - 1) = false from Bool.eq_false_iff.mpr (fun hz => by have hz := inR_iff.mp hz; have hc20 := hT.2.2.2.2.1; simp only [fa_lt, li_0, nI_toInt (show (tClm τ).length < 2 ^ 31 by omega)] at c6 c14; omega)]; rfl), φ1, α, hM, hR⟩) dX5_claimed_18

/-! THE REFERENCE: run, fork, again -/
set_option maxHeartbeats 4000000 in
set_option maxRecDepth 100000 in
theorem c5_run (l : Launch) (g : GG) (h : Nat) (ad : Nat → Nat) (τ : TB) (hT : TOK τ) (hD : wD (wA g h ad) g h ad) (k all own t : Int32) : Met l yX5_run (.code yX5_run cX5_run 7 (some .int) :: wsL_law) ({ frames := 3, cells := 0, slots := 0, locals := 78 } : Room) (mP g [.ref (h), .int (k), .int (all), .int (own), .int (t)] (MdH g h ad τ)) (mQ (wA g h ad) (fun z H => z = some (.int (runA τ k all own t)) ∧ MdH g h ad (runT τ k all own t) H)) 0 0 (wA g h ad) := by
  refine mMet (by decide) (Nat.le_of_ble_eq_true rfl) ?_
  intro p e s m below meth c C hr hlk hnm hM ls hl
  have hx := C.1.1
  have hb := C.1.2.1
  have hl : lv_has ls 7 [(0, .ref (h)), (1, .int (k)), (2, .int (all)), (3, .int (own)), (4, .int (t))] := hl
  obtain ⟨φ, α, hM, hR⟩ := hM
  have hS : va_S (wA g h ad) s.heap s.heap [] := va_S.rf
  have h40 := hT.2.2.1
  refine lv_aload_n hx hb dX5_run_0 rfl (lv_at hl 0 rfl) ?_
  refine lv_iconst (v := 0) hx hb dX5_run_1 (by decide) ?_
  refine rp_0 C hM hD hS dX5_run_2 (fun H locs hM hS => ?_)
  have hR : MdR (upd φ 0 0) α τ := hR
  generalize upd φ 0 0 = φ1 at hM hR
  have hrec := q_recv C hM 0 rw_0 rfl
  refine lv_aload_n hx hb dX5_run_5 rfl (lv_at hl 0 rfl) ?_
  refine lv_iload_n hx hb dX5_run_6 rfl (lv_at hl 1 rfl) ?_
  refine k_i (c_V (As := [.int (k)]) (rest := []) C v_X5_81 (c5_isCode l g h (k)) ⟨Nat.le_of_ble_eq_true rfl, Nat.le_of_ble_eq_true rfl⟩ (hrec) (trivial) hl.1 rfl rfl (Nat.le_of_ble_eq_true rfl) dX5_run_7 ⟨Nat.le_of_ble_eq_true rfl, Nat.le_of_ble_eq_true rfl⟩) (fun r7 q7 => ?_)
  subst q7
  refine b_ifeq (tgt := 47) C dX5_run_10 (by decide) (fun c10 => ?_) (fun c10 => ?_)
  · skip
    refine lv_iconst (v := (-1)) hx hb dX5_run_47 (by decide) ?_
    exact r_wi C hr hlk hS (⟨sv (by rw [runA, show canRunN τ k all own t = false by simp [canRunN, canRunB, c10]]; rfl), φ1, α, hM, by rw [runT, show canRunN τ k all own t = false by simp [canRunN, canRunB, c10]]; exact hR⟩) dX5_run_48
  · skip
    refine lv_aload_n hx hb dX5_run_13 rfl (lv_at hl 0 rfl) ?_
    refine lv_iload_n hx hb dX5_run_14 rfl (lv_at hl 2 rfl) ?_
    refine k_i (c_V (As := [.int (all)]) (rest := []) C v_X5_125 (c5_areSettings l g h ad φ1 α (all)) ⟨Nat.le_of_ble_eq_true rfl, Nat.le_of_ble_eq_true rfl⟩ (hrec) (hM) hl.1 rfl rfl (Nat.le_of_ble_eq_true rfl) dX5_run_15 ⟨Nat.le_of_ble_eq_true rfl, Nat.le_of_ble_eq_true rfl⟩) (fun r15 q15 => ?_)
    subst q15
    refine b_ifeq (tgt := 47) C dX5_run_18 (by decide) (fun c18 => ?_) (fun c18 => ?_)
    · skip
      refine lv_iconst (v := (-1)) hx hb dX5_run_47 (by decide) ?_
      exact r_wi C hr hlk hS (⟨sv (by rw [runA, show canRunN τ k all own t = false by simp [canRunN, canRunB, c10, c18]]; rfl), φ1, α, hM, by rw [runT, show canRunN τ k all own t = false by simp [canRunN, canRunB, c10, c18]]; exact hR⟩) dX5_run_48
    · skip
      refine lv_aload_n hx hb dX5_run_21 rfl (lv_at hl 0 rfl) ?_
      refine lv_iload_n hx hb dX5_run_22 rfl (lv_at hl 3 rfl) ?_
      refine k_i (c_V (As := [.int (own)]) (rest := []) C v_X5_128 (c5_isSeed l g h (own)) ⟨Nat.le_of_ble_eq_true rfl, Nat.le_of_ble_eq_true rfl⟩ (hrec) (trivial) hl.1 rfl rfl (Nat.le_of_ble_eq_true rfl) dX5_run_23 ⟨Nat.le_of_ble_eq_true rfl, Nat.le_of_ble_eq_true rfl⟩) (fun r23 q23 => ?_)
      subst q23
      refine b_ifeq (tgt := 47) C dX5_run_26 (by decide) (fun c26 => ?_) (fun c26 => ?_)
      · skip
        refine lv_iconst (v := (-1)) hx hb dX5_run_47 (by decide) ?_
        exact r_wi C hr hlk hS (⟨sv (by rw [runA, show canRunN τ k all own t = false by simp [canRunN, canRunB, c10, c18, c26]]; rfl), φ1, α, hM, by rw [runT, show canRunN τ k all own t = false by simp [canRunN, canRunB, c10, c18, c26]]; exact hR⟩) dX5_run_48
      · skip
        refine lv_aload_n hx hb dX5_run_29 rfl (lv_at hl 0 rfl) ?_
        refine lv_iload hx hb dX5_run_30 (lv_at hl 4 rfl) ?_
        refine k_i (c_V (As := [.int (t)]) (rest := []) C v_X5_131 (c5_areTicks l g h (t)) ⟨Nat.le_of_ble_eq_true rfl, Nat.le_of_ble_eq_true rfl⟩ (hrec) (trivial) hl.1 rfl rfl (Nat.le_of_ble_eq_true rfl) dX5_run_32 ⟨Nat.le_of_ble_eq_true rfl, Nat.le_of_ble_eq_true rfl⟩) (fun r32 q32 => ?_)
        subst q32
        refine b_ifeq (tgt := 47) C dX5_run_35 (by decide) (fun c35 => ?_) (fun c35 => ?_)
        · skip
          refine lv_iconst (v := (-1)) hx hb dX5_run_47 (by decide) ?_
          exact r_wi C hr hlk hS (⟨sv (by rw [runA, show canRunN τ k all own t = false by simp [canRunN, canRunB, c10, c18, c26, c35]]; rfl), φ1, α, hM, by rw [runT, show canRunN τ k all own t = false by simp [canRunN, canRunB, c10, c18, c26, c35]]; exact hR⟩) dX5_run_48
        · skip
          refine lv_aload_n hx hb dX5_run_38 rfl (lv_at hl 0 rfl) ?_
          refine q_get C f_X5_90 hM 0 rw_0 ro_6 dX5_run_39 ?_
          refine w_topi (y := (nI (tN τ))) (hR.n) ?_
          refine lv_bipush (v := nI 40) hx hb dX5_run_42 (by decide) ?_
          refine n_icmp_ne (tgt := 49) C (by omega) (by omega) dX5_run_44 (by decide) (fun c44 => ?_) (fun c44 => ?_)
          · skip
            obtain ⟨k1, hk1, rfl⟩ := inR_nI (hi := 3) c10
            obtain ⟨t1, ht0, ht1, rfl⟩ := inR1_nI (hi := 16) c35
            have hcan : canRunN τ (nI k1) all own (nI t1) = true := by rw [canRunN, canRunB, c10, c18, c26, c35, decide_eq_true c44]; rfl
            have CL := (hT.1 k1 (by omega)).1
            have CQ : ∀ jq, jq < (tCode τ k1).length → (tCode τ k1).getD jq 0 < 256 := fun jq hj => (hT.1 k1 (by omega)).2 _ (getD_mem hj)
            have hfr := hR.fresh (r := tN τ) (Nat.le_refl _) (by omega)
            obtain ⟨G, hG⟩ : ∃ G : XS × List Int32, G = xRun (tDat τ) (tClk τ + 1) all own (tCode τ k1) t1 [] := ⟨_, rfl⟩
            have gl := xG_len (tDat τ) (tClk τ + 1) all own (tCode τ k1) (t1 - 0) 0 (0, 0, 0, false, false, false) [] rfl
            have hGl : G.2.length ≤ 16 := by rw [hG]; have := gl.2.1; exact Nat.le_trans this (by omega)
            refine lv_aload_n hx hb dX5_run_49 rfl (lv_at hl 0 rfl) ?_
            refine q_get C f_X5_90 hM 0 rw_0 ro_6 dX5_run_50 ?_
            refine w_topi (y := (nI (tN τ))) (hR.n) ?_
            refine lv_istore (lv' := [(5, .int (nI (tN τ))), (0, .ref (h)), (1, .int (nI (k1))), (2, .int (all)), (3, .int (own)), (4, .int (nI (t1)))]) hx hb dX5_run_53 hl (by decide) rfl (fun ls hl => ?_)
            refine lv_aload_n hx hb dX5_run_55 rfl (lv_at hl 1 rfl) ?_
            refine lv_aload_n hx hb dX5_run_56 rfl (lv_at hl 1 rfl) ?_
            refine q_get C f_X5_90 hM 0 rw_0 ro_6 dX5_run_57 ?_
            refine w_topi (y := (nI (tN τ))) (hR.n) ?_
            refine lv_iconst (v := nI 1) hx hb dX5_run_60 (by decide) ?_
            refine n_iadd C dX5_run_61 ?_
            refine rp_6 C hM hD hS dX5_run_62 (fun H locs hM hS => ?_)
            refine lv_aload_n hx hb dX5_run_65 rfl (lv_at hl 1 rfl) ?_
            refine lv_aload_n hx hb dX5_run_66 rfl (lv_at hl 1 rfl) ?_
            refine q_get (v := .int (φ1 5)) C f_X5_109 hM 0 rw_0 rfl dX5_run_67 ?_
            refine w_topi (y := (tClk τ)) (hR.clk) ?_
            refine lv_iconst (v := 1) hx hb dX5_run_70 (by decide) ?_
            refine lv_iadd hx hb dX5_run_71 ?_
            refine rp_5 C hM hD hS dX5_run_72 (fun H locs hM hS => ?_)
            refine lv_aload_n hx hb dX5_run_75 rfl (lv_at hl 1 rfl) ?_
            refine q_get C f_X5_22 hM 0 rw_0 ro_7 dX5_run_76 ?_
            refine lv_iload hx hb dX5_run_79 (lv_at hl 0 rfl) ?_
            refine lv_iload_n hx hb dX5_run_81 rfl (lv_at hl 2 rfl) ?_
            refine ra_7 C hM hD hS (by omega) dX5_run_82 (fun H locs hM hS => ?_)
            refine lv_aload_n hx hb dX5_run_83 rfl (lv_at hl 1 rfl) ?_
            refine q_get C f_X5_25 hM 0 rw_0 ro_8 dX5_run_84 ?_
            refine lv_iload hx hb dX5_run_87 (lv_at hl 0 rfl) ?_
            refine lv_aload_n hx hb dX5_run_89 rfl (lv_at hl 1 rfl) ?_
            refine q_get C f_X5_7 hM 0 rw_0 ro_1 dX5_run_90 ?_
            refine lv_iload_n hx hb dX5_run_93 rfl (lv_at hl 2 rfl) ?_
            refine n_iald C hM 1 rw_1 (by omega) (by decide) dX5_run_94 ?_
            refine w_topi (y := (nI ((tCode τ k1).length))) (hR.cl (by omega)) ?_
            refine ra_8 C hM hD hS (by omega) dX5_run_95 (fun H locs hM hS => ?_)
            obtain ⟨α1, hα1⟩ : ∃ b : Nat → Nat → Int32, b = (aset (aset α 7 (tN τ) (nI (k1))) 8 (tN τ) (nI ((tCode τ k1).length))) := ⟨_, rfl⟩
            rw [← hα1] at hM
            have a1n : ∀ k, k ≠ 7 → k ≠ 8 → α1 k = α k := fun k h1 h2 => by rw [hα1, asetN _ _ _ h2, asetN _ _ _ h1]
            have a17 : α1 7 (tN τ) = nI k1 := by rw [hα1, asetN _ _ _ (by decide), asetV]
            have a18 : α1 8 (tN τ) = nI (tCode τ k1).length := by rw [hα1, asetV]
            have O1 : Off (tN τ) α α1 := by rw [hα1]; exact (Off.one (by decide)).tr (Off.one (by decide))
            refine lv_iconst (v := nI 0) hx hb dX5_run_96 (by decide) ?_
            refine lv_istore (lv' := [(6, .int (nI (0))), (5, .int (nI (tN τ))), (0, .ref (h)), (1, .int (nI (k1))), (2, .int (all)), (3, .int (own)), (4, .int (nI (t1)))]) hx hb dX5_run_97 hl (by decide) rfl (fun ls hl => ?_)
            have la : ∀ (n_la : Nat) (i : Nat) (β : Nat → Nat → Int32) (H : Heap) (locs : List Loc) (ls : Array Slot), (i ≤ 8) → (8 + 1 ≤ i + n_la) → (va_P g.1 vwCl (wM g h ad (upd (upd φ1 6 (nI (tN τ + 1))) 5 ((tClk τ) + (1))) β) H) → (va_S (wA g h ad) s.heap H locs) → (∀ k, k ≠ 9 → β k = α1 k) → (∀ j, j < i → β 9 (8 * tN τ + j) = α 2 (8 * k1 + j)) → (∀ q, (∀ j, j < i → q ≠ 8 * tN τ + j) → β 9 q = α1 9 q) → lv_has ls 7 [(0, .ref (h)), (1, .int (nI (k1))), (2, .int (all)), (3, .int (own)), (4, .int (nI (t1))), (5, .int (nI (tN τ))), (6, .int (nI (i)))] → W p l e ({ frames := 3, cells := 0, slots := 0, locals := 78 } : Room) s m ([.ref (h), .int (nI (k1)), .int (all), .int (own), .int (nI (t1))] : List Value).toArray below meth c H locs 0 0 (MQ below (mQ (wA g h ad) (fun z H => z = some (.int (runA τ (nI k1) all own (nI t1))) ∧ MdH g h ad (runT τ (nI k1) all own (nI t1)) H)) (([.ref (h), .int (nI (k1)), .int (all), .int (own), .int (nI (t1))] : List Value).toArray) s 0 0 (wA g h ad)) (F0 m 99 ls []) := by
              intro n_la
              induction n_la with
              | zero =>
                intro i β H locs ls hi hnla hM hS h1e hin hou
                exact absurd hnla (by omega)
              | succ n_la ih_la =>
                intro i β H locs ls hi hnla hM hS h1e hin hou hl
                refine lv_iload hx hb dX5_run_99 (lv_at hl 6 rfl) ?_
                refine lv_bipush (v := nI 8) hx hb dX5_run_101 (by decide) ?_
                refine n_icmp_ge (tgt := 137) C (by omega) (by omega) dX5_run_103 (by decide) (fun c103 => ?_) (fun c103 => ?_)
                · skip
                  have O2 : Off (tN τ) α1 β := Off.of9 h1e (fun q hq => hou q (fun j hj => hq j (by omega)))
                  refine lv_aload_n hx hb dX5_run_137 rfl (lv_at hl 0 rfl) ?_
                  refine q_get C f_X5_31 hM 0 rw_0 ro_10 dX5_run_138 ?_
                  refine lv_iload hx hb dX5_run_141 (lv_at hl 5 rfl) ?_
                  refine lv_iload_n hx hb dX5_run_143 rfl (lv_at hl 2 rfl) ?_
                  refine ra_10 C hM hD hS (by omega) dX5_run_144 (fun H locs hM hS => ?_)
                  refine lv_aload_n hx hb dX5_run_145 rfl (lv_at hl 0 rfl) ?_
                  refine q_get C f_X5_34 hM 0 rw_0 ro_11 dX5_run_146 ?_
                  refine lv_iload hx hb dX5_run_149 (lv_at hl 5 rfl) ?_
                  refine lv_iload_n hx hb dX5_run_151 rfl (lv_at hl 3 rfl) ?_
                  refine ra_11 C hM hD hS (by omega) dX5_run_152 (fun H locs hM hS => ?_)
                  refine lv_aload_n hx hb dX5_run_153 rfl (lv_at hl 0 rfl) ?_
                  refine q_get C f_X5_37 hM 0 rw_0 ro_12 dX5_run_154 ?_
                  refine lv_iload hx hb dX5_run_157 (lv_at hl 5 rfl) ?_
                  refine lv_iload hx hb dX5_run_159 (lv_at hl 4 rfl) ?_
                  refine ra_12 C hM hD hS (by omega) dX5_run_161 (fun H locs hM hS => ?_)
                  refine lv_aload_n hx hb dX5_run_162 rfl (lv_at hl 0 rfl) ?_
                  refine q_get C f_X5_50 hM 0 rw_0 ro_16 dX5_run_163 ?_
                  refine lv_iload hx hb dX5_run_166 (lv_at hl 5 rfl) ?_
                  refine lv_iconst (v := (-1)) hx hb dX5_run_168 (by decide) ?_
                  refine ra_16 C hM hD hS (by omega) dX5_run_169 (fun H locs hM hS => ?_)
                  refine lv_aload_n hx hb dX5_run_170 rfl (lv_at hl 0 rfl) ?_
                  refine q_get C f_X5_53 hM 0 rw_0 ro_17 dX5_run_171 ?_
                  refine lv_iload hx hb dX5_run_174 (lv_at hl 5 rfl) ?_
                  refine lv_iconst (v := (-1)) hx hb dX5_run_176 (by decide) ?_
                  refine ra_17 C hM hD hS (by omega) dX5_run_177 (fun H locs hM hS => ?_)
                  obtain ⟨α2, hα2⟩ : ∃ b : Nat → Nat → Int32, b = (aset (aset (aset (aset (aset β 10 (tN τ) (all)) 11 (tN τ) (own)) 12 (tN τ) (nI (t1))) 16 (tN τ) ((-1))) 17 (tN τ) ((-1))) := ⟨_, rfl⟩
                  rw [← hα2] at hM
                  have a2n : ∀ k, k ≠ 10 → k ≠ 11 → k ≠ 12 → k ≠ 16 → k ≠ 17 → α2 k = β k := fun k h1 h2 h3 h4 h5 => by rw [hα2, asetN _ _ _ h5, asetN _ _ _ h4, asetN _ _ _ h3, asetN _ _ _ h2, asetN _ _ _ h1]
                  have a2r : α2 10 (tN τ) = all ∧ α2 11 (tN τ) = own ∧ α2 12 (tN τ) = nI t1 ∧ α2 16 (tN τ) = (-1) ∧ α2 17 (tN τ) = (-1) := by rw [hα2]; simp [aset, upd]
                  have O3 : Off (tN τ) β α2 := by rw [hα2]; exact (Off.one (by decide)).tr ((Off.one (by decide)).tr ((Off.one (by decide)).tr ((Off.one (by decide)).tr (Off.one (by decide)))))
                  have b18 : α2 8 (tN τ) = nI (tCode τ k1).length := by rw [a2n 8 (by decide) (by decide) (by decide) (by decide) (by decide), h1e 8 (by decide)]; exact a18
                  have b19 : ∀ j, j < (tCode τ k1).length → α2 9 (8 * tN τ + j) = nI ((tCode τ k1).getD j 0) := fun j hj => by rw [a2n 9 (by decide) (by decide) (by decide) (by decide) (by decide), hin j (by omega)]; exact hR.cs (by omega) hj
                  have b13 : α2 3 = α 3 := by rw [a2n 3 (by decide) (by decide) (by decide) (by decide) (by decide), h1e 3 (by decide), a1n 3 (by decide) (by decide)]
                  refine lv_aload_n hx hb dX5_run_178 rfl (lv_at hl 0 rfl) ?_
                  refine lv_iload hx hb dX5_run_179 (lv_at hl 5 rfl) ?_
                  refine lv_iconst (v := nI 0) hx hb dX5_run_181 (by decide) ?_
                  refine lv_iconst (v := 0) hx hb dX5_run_182 (by decide) ?_
                  refine lv_iload_n hx hb dX5_run_183 rfl (lv_at hl 2 rfl) ?_
                  refine lv_iload_n hx hb dX5_run_184 rfl (lv_at hl 3 rfl) ?_
                  refine lv_iload hx hb dX5_run_185 (lv_at hl 4 rfl) ?_
                  refine k_w (c_V (As := [.int (nI (tN τ)), .int (nI (0)), .int (0), .int (all), .int (own), .int (nI (t1))]) (rest := []) C v_X5_134 (c5_goes l g h ad (upd (upd φ1 6 (nI (tN τ + 1))) 5 ((tClk τ) + (1))) α2 hD (tDat τ) (tClk τ + 1) all own (tCode τ k1) (tN τ) 0 t1 0 [] (by omega) CL CQ b18 b19 (by omega) (by omega) rfl (fun i hi => by rw [b13]; exact hR.dat hi) rfl) ⟨Nat.le_of_ble_eq_true rfl, Nat.le_of_ble_eq_true rfl⟩ (q_recv C hM 0 rw_0 rfl) (hM) hl.1 rfl rfl (Nat.le_of_ble_eq_true rfl) dX5_run_187 ⟨Nat.le_of_ble_eq_true rfl, Nat.le_of_ble_eq_true rfl⟩) hS (fun _ hq => hq) (fun r187 H1 locs q187 hz187 hk187 hS => ?_)
                  obtain ⟨rfl, ψ, γ, hM, o, hk, hg, hrow⟩ := q187
                  have o : ψ 24 = nI G.2.length ∧ ψ 25 = bI (xSt G.1) ∧ ψ 26 = xRS G.1 ∧ ψ 27 = xRW G.1 ∧ ψ 28 = bI (xSd G.1) ∧ ψ 29 = bI (xCk G.1) := by rw [hG]; exact o
                  have hrow : ∀ j, 0 ≤ j → j < G.2.length → γ 23 j = G.2.getD j 0 := by rw [hG]; exact hrow
                  have cr : ∀ k, k ≠ 23 → k ≠ 10 → k ≠ 11 → k ≠ 12 → k ≠ 16 → k ≠ 17 → k ≠ 9 → γ k = α1 k := fun k h0 h1 h2 h3 h4 h5 h6 => by rw [hg k h0, a2n k h1 h2 h3 h4 h5, h1e k h6]
                  have cf : ∀ k, k ≠ 7 → k ≠ 8 → k ≠ 23 → k ≠ 10 → k ≠ 11 → k ≠ 12 → k ≠ 16 → k ≠ 17 → k ≠ 9 → γ k = α k := fun k g1 g2 h0 h1 h2 h3 h4 h5 h6 => by rw [cr k h0 h1 h2 h3 h4 h5 h6, a1n k g1 g2]
                  have g21 : γ 21 (tN τ) = bI false := by rw [cf 21 (by decide) (by decide) (by decide) (by decide) (by decide) (by decide) (by decide) (by decide) (by decide) ]; exact hfr.2.2.1
                  have g22 : γ 22 (tN τ) = bI false := by rw [cf 22 (by decide) (by decide) (by decide) (by decide) (by decide) (by decide) (by decide) (by decide) (by decide) ]; exact hfr.2.2.2
                  refine W.eq (g2 := F0 m 190 ls []) rfl ?_
                  refine lv_aload_n hx hb dX5_run_190 rfl (lv_at hl 0 rfl) ?_
                  refine lv_iload hx hb dX5_run_191 (lv_at hl 5 rfl) ?_
                  refine lv_iconst (v := nI 0) hx hb dX5_run_193 (by decide) ?_
                  refine k_w (c_V (As := [.int (nI (tN τ)), .int (nI (0))]) (rest := []) C v_X5_138 (c5_takes l g h ad ψ γ hD (tN τ) 0 G.2.length (xSt G.1) (xSd G.1) (xCk G.1) false false (by omega) hGl (by omega) o.1 o.2.1 o.2.2.2.2.1 o.2.2.2.2.2 g21 g22) ⟨Nat.le_of_ble_eq_true rfl, Nat.le_of_ble_eq_true rfl⟩ (q_recv C hM 0 rw_0 rfl) (hM) hl.1 rfl rfl (Nat.le_of_ble_eq_true rfl) dX5_run_194 ⟨Nat.le_of_ble_eq_true rfl, Nat.le_of_ble_eq_true rfl⟩) hS (fun _ hq => hq) (fun r194 H1 locs q194 hz194 hk194 hS => ?_)
                  obtain ⟨rfl, δ, hM, tk⟩ := q194
                  have O5 : Off (tN τ) α δ := O1.tr (O2.tr (O3.tr ((Off.of23 hg).tr (Off.ofTK tk hGl))))
                  have tn := tk.1
                  have tr := tk.2.2.1
                  have hN : RunR δ (tN τ) (newRun τ k1 all own t1) := by
                    have eG : xRun (tDat τ) (tClk τ + 1) all own (tCode τ k1) t1 [] = G := hG.symm
                    refine ⟨?_, ?_, fun j hj => ?_, ?_, ?_, ?_, ?_, fun t ht => ?_, ?_, ?_, ?_, ?_, ?_, fun i hi hb => ?_, ?_, ?_⟩
                    · rw [tn 7 (by decide) (by decide) (by decide) (by decide) (by decide) (by decide) (by decide) (by decide) , cr 7 (by decide) (by decide) (by decide) (by decide) (by decide) (by decide) (by decide)]; exact a17
                    · rw [tn 8 (by decide) (by decide) (by decide) (by decide) (by decide) (by decide) (by decide) (by decide) , cr 8 (by decide) (by decide) (by decide) (by decide) (by decide) (by decide) (by decide)]; exact a18
                    · rw [tn 9 (by decide) (by decide) (by decide) (by decide) (by decide) (by decide) (by decide) (by decide) , hg 9 (by decide)]; exact b19 j hj
                    · rw [tn 10 (by decide) (by decide) (by decide) (by decide) (by decide) (by decide) (by decide) (by decide) , hg 10 (by decide)]; exact a2r.1
                    · rw [tn 11 (by decide) (by decide) (by decide) (by decide) (by decide) (by decide) (by decide) (by decide) , hg 11 (by decide)]; exact a2r.2.1
                    · rw [tn 12 (by decide) (by decide) (by decide) (by decide) (by decide) (by decide) (by decide) (by decide) , hg 12 (by decide)]; exact a2r.2.2.1
                    · rw [tr.1, ← eG]; rfl
                    · replace ht : t < G.2.length := by rw [← eG]; exact ht
                      rw [tk.2.2.2.1 t (by omega) ht, hrow t (by omega) ht, ← eG]; rfl
                    · rw [tr.2.1, ← eG]; rfl
                    · rw [tn 16 (by decide) (by decide) (by decide) (by decide) (by decide) (by decide) (by decide) (by decide) , hg 16 (by decide)]; exact a2r.2.2.2.1
                    · rw [tn 17 (by decide) (by decide) (by decide) (by decide) (by decide) (by decide) (by decide) (by decide) , hg 17 (by decide)]; exact a2r.2.2.2.2
                    · rw [tr.2.2.1, cf 18 (by decide) (by decide) (by decide) (by decide) (by decide) (by decide) (by decide) (by decide) (by decide) , hfr.1, o.2.2.1, ← eG]; rfl
                    · rw [tr.2.2.2.1, cf 19 (by decide) (by decide) (by decide) (by decide) (by decide) (by decide) (by decide) (by decide) (by decide) , hfr.2.1, o.2.2.2.1, ← eG]; rfl
                    · replace hb : hasB (0 ||| xRW G.1) i = true := by rw [← eG]; exact hb
                      rw [or0] at hb
                      rw [tk.2.2.2.2.2.1 i hi, o.2.2.2.1, if_pos hb, hg 3 (by decide), b13, hR.dat hi]
                      show _ = if hasB (xRW (xRun (tDat τ) (tClk τ + 1) all own (tCode τ k1) t1 []).1) i then tDat τ i else _
                      rw [eG, if_pos hb]
                    · rw [tr.2.2.2.2.1, ← eG]; rfl
                    · rw [tr.2.2.2.2.2, ← eG]; rfl
                  refine W.eq (g2 := F0 m 197 ls []) rfl ?_
                  refine lv_iload hx hb dX5_run_197 (lv_at hl 5 rfl) ?_
                  exact r_wi C hr hlk hS (⟨sv (by rw [runA, hcan, if_pos rfl]), ψ, δ, hM, by rw [runT, hcan, if_pos rfl, nI_clamp (by omega), nI_clamp (by omega)]; exact hR.push hT (by rw [hk 5 (by omega)]; rfl) (by rw [hk 6 (by omega)]; rfl) (hk 35 (by omega)) O5 hN⟩) dX5_run_199
                · skip
                  refine lv_aload_n hx hb dX5_run_106 rfl (lv_at hl 0 rfl) ?_
                  refine q_get C f_X5_28 hM 0 rw_0 ro_9 dX5_run_107 ?_
                  refine lv_bipush (v := nI 8) hx hb dX5_run_110 (by decide) ?_
                  refine lv_iload hx hb dX5_run_112 (lv_at hl 5 rfl) ?_
                  refine n_imul C dX5_run_114 ?_
                  refine lv_iload hx hb dX5_run_115 (lv_at hl 6 rfl) ?_
                  refine n_iadd C dX5_run_117 ?_
                  refine lv_aload_n hx hb dX5_run_118 rfl (lv_at hl 0 rfl) ?_
                  refine q_get C f_X5_13 hM 0 rw_0 ro_2 dX5_run_119 ?_
                  refine lv_bipush (v := nI 8) hx hb dX5_run_122 (by decide) ?_
                  refine lv_iload_n hx hb dX5_run_124 rfl (lv_at hl 1 rfl) ?_
                  refine n_imul C dX5_run_125 ?_
                  refine lv_iload hx hb dX5_run_126 (lv_at hl 6 rfl) ?_
                  refine n_iadd C dX5_run_128 ?_
                  refine n_iald C hM 2 rw_2 (by omega) (by decide) dX5_run_129 ?_
                  refine w_topi (y := (α 2 (8 * k1 + i))) (congrFun ((h1e 2 (by decide)).trans (a1n 2 (by decide) (by decide))) _) ?_
                  refine ra_9 C hM hD hS (by omega) dX5_run_130 (fun H locs hM hS => ?_)
                  refine n_iinc (d := 1) (lv' := [(6, .int (nI (i + 1))), (0, .ref (h)), (1, .int (nI (k1))), (2, .int (all)), (3, .int (own)), (4, .int (nI (t1))), (5, .int (nI (tN τ)))]) C dX5_run_131 (by decide) hl (k := 6) rfl (by decide) rfl (fun ls hl => ?_)
                  refine lv_goto (tgt := 99) hx hb dX5_run_134 (by decide) ?_
                  exact ih_la (i + 1) ((aset β 9 ((8 * (tN τ)) + i) (α 2 (8 * k1 + i)))) (H) (locs) ls (by omega) (by omega) (hM) (hS) (fun k hk => (asetN _ _ _ hk).trans (h1e k hk)) (fun j h2 => by
                               rcases Nat.lt_or_ge j i with h3 | h3
                               · rw [asetO _ _ _ (by omega)]; exact hin j h3
                               · rw [show j = i by omega, asetV]) (fun q hq => (asetO _ _ _ (hq i (by omega))).trans (hou q (fun j hj => hq j (by omega)))) (lv_sub hl [1, 2, 3, 4, 5, 6, 0] rfl)
            exact la (9) (0) (α1) (H) (locs) ls (by omega) (by omega) (hM) (hS) (fun _ _ => rfl) (fun j h2 => absurd h2 (by omega)) (fun _ _ => rfl) (lv_sub hl [2, 3, 4, 5, 6, 1, 0] rfl)
          · skip
            refine lv_iconst (v := (-1)) hx hb dX5_run_47 (by decide) ?_
            exact r_wi C hr hlk hS (⟨sv (by rw [runA, show canRunN τ k all own t = false by simp [canRunN, canRunB, c10, c18, c26, c35, c44]]; rfl), φ1, α, hM, by rw [runT, show canRunN τ k all own t = false by simp [canRunN, canRunB, c10, c18, c26, c35, c44]]; exact hR⟩) dX5_run_48

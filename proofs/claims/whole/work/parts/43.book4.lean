/-! THE CLASS TrialBook: holes -/
section LY8
variable {p : Program} {l : Launch} {e : Env} {R : Room} {s : State} {m : MethodId} {args : Array Value} {below : List Frame} {meth : Method} {c : Code} {H : Heap} {locs : List Loc} {cells slots : Nat} {Q : State → Prop} {pc : Nat} {ls : Array Slot} {rest : List Value}
theorem w_topq {x : Option Nat} {a : Nat} (h : x = some a) (k : W p l e R s m args below meth c H locs cells slots Q (F0 m pc ls (.ref a :: rest))) : W p l e R s m args below meth c H locs cells slots Q (F0 m pc ls (va_rf x :: rest)) := by rw [h]; exact k
end LY8
def flN (τ : TB) (qs : List Nat) (tk r : Nat) : List Nat := (List.range r).filter (fun o => usB (tDat τ) (tRun τ o) qs tk)
theorem flN_len (τ : TB) (qs : List Nat) (tk r : Nat) : (flN τ qs tk r).length ≤ r := by
  have h := List.length_filter_le (fun o => usB (tDat τ) (tRun τ o) qs tk) (List.range r)
  rw [List.length_range] at h
  exact h
theorem flN_yes {τ : TB} {qs : List Nat} {tk r : Nat} (h : usB (tDat τ) (tRun τ r) qs tk = true) : flN τ qs tk (r + 1) = flN τ qs tk r ++ [r] := by
  unfold flN
  rw [List.range_succ, List.filter_append]
  simp [h]
theorem flN_no {τ : TB} {qs : List Nat} {tk r : Nat} (h : usB (tDat τ) (tRun τ r) qs tk = false) : flN τ qs tk (r + 1) = flN τ qs tk r := by
  unfold flN
  rw [List.range_succ, List.filter_append]
  simp [h]
theorem flN_mem {τ : TB} {qs : List Nat} {tk r o : Nat} : o ∈ flN τ qs tk r ↔ o < r ∧ usB (tDat τ) (tRun τ o) qs tk = true := by
  unfold flN
  rw [List.mem_filter, List.mem_range]
theorem fl_u {rad : Nat → Nat} {f : Nat → Option Nat} {ks : List Nat} {x : Nat} (h : ∀ j, j < ks.length → f j = some (rad (ks.getD j 0))) : ∀ j, j < (ks ++ [x]).length → va_up f ks.length (some (rad x)) j = some (rad ((ks ++ [x]).getD j 0)) := by
  intro j hj
  rw [List.length_append, List.length_singleton] at hj
  rcases Nat.lt_or_ge j ks.length with h1 | h1
  · rw [show va_up f ks.length (some (rad x)) j = f j from if_neg (by omega), h j h1, List.getD_eq_getElem?_getD, List.getD_eq_getElem?_getD, List.getElem?_append_left h1]
  · have e : j = ks.length := by omega
    subst e
    rw [show va_up f ks.length (some (rad x)) ks.length = some (rad x) from if_pos rfl, List.getD_eq_getElem?_getD, List.getElem?_append_right (Nat.le_refl _)]
    simp
set_option maxHeartbeats 4000000 in
set_option maxRecDepth 100000 in
theorem c4_gatherFillers (l : Launch) (g : GG) (b : Nat → Nat) (Z : Nat → Prop) (τ : TB) (hT : TOK τ) (hbi : ∀ i j, i < 9 → j < 9 → b i = b j → i = j) (hZ : ∀ q, bA b q → Z q) (nf : Int32) (fc : Nat → Option Nat) (fb d : Nat → Int32) (fr : Nat → Option Nat) (f1 f2 : Nat → Int32) (ff : Nat → Option Nat) (cad rad : Nat → Nat) (hB : BaseR τ cad rad fc fb d fr f1 f2) (k1 tk : Nat) (hk4 : k1 < 4) (htk : tk ≤ 16) : Met l yX4_gatherFillers (.code yX4_gatherFillers cX4_gatherFillers 5 none :: wsL_law) ({ frames := 3, cells := 0, slots := 0, locals := 67 } : Room) (mP g [.ref (b 0), .ref (cad k1), .int (nI (tk))] (fun H => va_P g.1 vwCl [(b 0, .inr (4, [.ref (b 1), .ref (b 2), .ref (b 3), .ref (b 5), .int (nI (tN τ)), .ref (b 6), .ref (b 7), .int (nI ((tClm τ).length)), .ref (b 8), .int (nf)])), (b 1, aC g 4 fc), (b 2, aI g 4 fb), (b 3, .inr (3, [.ref (b 4), .int (tClk τ)])), (b 4, aI g 8 d), (b 5, aR g 40 fr), (b 6, aI g 20 f1), (b 7, aI g 20 f2), (b 8, aR g 40 ff)] H ∧ Froz g Z τ cad rad H)) (mQ (bA b) (fun z H => z = none ∧ ∃ ff1 : Nat → Option Nat, (∀ f, f < (flN τ (tCode τ k1) tk (tN τ)).length → ff1 f = some (rad ((flN τ (tCode τ k1) tk (tN τ)).getD f 0))) ∧ va_P g.1 vwCl [(b 0, .inr (4, [.ref (b 1), .ref (b 2), .ref (b 3), .ref (b 5), .int (nI (tN τ)), .ref (b 6), .ref (b 7), .int (nI ((tClm τ).length)), .ref (b 8), .int (nI ((flN τ (tCode τ k1) tk (tN τ)).length))])), (b 1, aC g 4 fc), (b 2, aI g 4 fb), (b 3, .inr (3, [.ref (b 4), .int (tClk τ)])), (b 4, aI g 8 d), (b 5, aR g 40 fr), (b 6, aI g 20 f1), (b 7, aI g 20 f2), (b 8, aR g 40 ff1)] H)) 0 0 ((bA b)) := by
  refine mMet (by decide) (Nat.le_of_ble_eq_true rfl) ?_
  intro p e s m below meth c C hr hlk hnm hP ls hl
  have hx := C.1.1
  have hb := C.1.2.1
  have hl : lv_has ls 5 [(0, .ref (b 0)), (1, .ref (cad k1)), (2, .int (nI (tk)))] := hl
  obtain ⟨hP, hF⟩ := hP
  have hS : va_S (bA b) s.heap s.heap [] := va_S.rf
  have hD : va_D (bA b) [(b 0, .inr (4, [.ref (b 1), .ref (b 2), .ref (b 3), .ref (b 5), .int (nI (tN τ)), .ref (b 6), .ref (b 7), .int (nI ((tClm τ).length)), .ref (b 8), .int (nf)])), (b 1, aC g 4 fc), (b 2, aI g 4 fb), (b 3, .inr (3, [.ref (b 4), .int (tClk τ)])), (b 4, aI g 8 d), (b 5, aR g 40 fr), (b 6, aI g 20 f1), (b 7, aI g 20 f2), (b 8, aR g 40 ff)] := base_D hbi
  have hc4 := hT.1 k1 hk4
  have h40 := hT.2.2.1
  refine lv_aload_n hx hb dX4_gatherFillers_0 rfl (lv_at hl 0 rfl) ?_
  refine lv_iconst (v := nI 0) hx hb dX4_gatherFillers_1 (by decide) ?_
  refine q_put C fp_X4_263 hP hD hS 0 rfl rfl rfl (Nat.le_of_ble_eq_true rfl) dX4_gatherFillers_2 (fun H locs hP hD hS => ?_)
  have hP : va_P g.1 vwCl [(b 0, .inr (4, [.ref (b 1), .ref (b 2), .ref (b 3), .ref (b 5), .int (nI (tN τ)), .ref (b 6), .ref (b 7), .int (nI ((tClm τ).length)), .ref (b 8), .int (nI (0))])), (b 1, aC g 4 fc), (b 2, aI g 4 fb), (b 3, .inr (3, [.ref (b 4), .int (tClk τ)])), (b 4, aI g 8 d), (b 5, aR g 40 fr), (b 6, aI g 20 f1), (b 7, aI g 20 f2), (b 8, aR g 40 ff)] H := hP
  have hD : va_D (bA b) [(b 0, .inr (4, [.ref (b 1), .ref (b 2), .ref (b 3), .ref (b 5), .int (nI (tN τ)), .ref (b 6), .ref (b 7), .int (nI ((tClm τ).length)), .ref (b 8), .int (nI (0))])), (b 1, aC g 4 fc), (b 2, aI g 4 fb), (b 3, .inr (3, [.ref (b 4), .int (tClk τ)])), (b 4, aI g 8 d), (b 5, aR g 40 fr), (b 6, aI g 20 f1), (b 7, aI g 20 f2), (b 8, aR g 40 ff)] := hD
  refine lv_iconst (v := nI 0) hx hb dX4_gatherFillers_5 (by decide) ?_
  refine lv_istore_n (lv' := [(3, .int (nI (0))), (0, .ref (b 0)), (1, .ref (cad k1)), (2, .int (nI (tk)))]) hx hb dX4_gatherFillers_6 rfl hl (by decide) rfl (fun ls hl => ?_)
  have lp : ∀ (n_lp : Nat) (r : Nat) (ff1 : Nat → Option Nat) (H : Heap) (locs : List Loc) (ls : Array Slot), (r ≤ tN τ) → (tN τ + 1 ≤ r + n_lp) → (va_P g.1 vwCl [(b 0, .inr (4, [.ref (b 1), .ref (b 2), .ref (b 3), .ref (b 5), .int (nI (tN τ)), .ref (b 6), .ref (b 7), .int (nI ((tClm τ).length)), .ref (b 8), .int (nI ((flN τ (tCode τ k1) tk r).length))])), (b 1, aC g 4 fc), (b 2, aI g 4 fb), (b 3, .inr (3, [.ref (b 4), .int (tClk τ)])), (b 4, aI g 8 d), (b 5, aR g 40 fr), (b 6, aI g 20 f1), (b 7, aI g 20 f2), (b 8, aR g 40 ff1)] H) → (va_S (bA b) s.heap H locs) → (∀ f, f < (flN τ (tCode τ k1) tk r).length → ff1 f = some (rad ((flN τ (tCode τ k1) tk r).getD f 0))) → lv_has ls 5 [(0, .ref (b 0)), (1, .ref (cad k1)), (2, .int (nI (tk))), (3, .int (nI (r)))] → W p l e ({ frames := 3, cells := 0, slots := 0, locals := 67 } : Room) s m ([.ref (b 0), .ref (cad k1), .int (nI (tk))] : List Value).toArray below meth c H locs 0 0 (MQ below (mQ (bA b) (fun z H => z = none ∧ ∃ ff1 : Nat → Option Nat, (∀ f, f < (flN τ (tCode τ k1) tk (tN τ)).length → ff1 f = some (rad ((flN τ (tCode τ k1) tk (tN τ)).getD f 0))) ∧ va_P g.1 vwCl [(b 0, .inr (4, [.ref (b 1), .ref (b 2), .ref (b 3), .ref (b 5), .int (nI (tN τ)), .ref (b 6), .ref (b 7), .int (nI ((tClm τ).length)), .ref (b 8), .int (nI ((flN τ (tCode τ k1) tk (tN τ)).length))])), (b 1, aC g 4 fc), (b 2, aI g 4 fb), (b 3, .inr (3, [.ref (b 4), .int (tClk τ)])), (b 4, aI g 8 d), (b 5, aR g 40 fr), (b 6, aI g 20 f1), (b 7, aI g 20 f2), (b 8, aR g 40 ff1)] H)) (([.ref (b 0), .ref (cad k1), .int (nI (tk))] : List Value).toArray) s 0 0 ((bA b))) (F0 m 7 ls []) := by
    intro n_lp
    induction n_lp with
    | zero =>
      intro r ff1 H locs ls hrN hn hP hS hff
      exact absurd hn (by omega)
    | succ n_lp ih_lp =>
      intro r ff1 H locs ls hrN hn hP hS hff hl
      have hD : va_D (bA b) [(b 0, .inr (4, [.ref (b 1), .ref (b 2), .ref (b 3), .ref (b 5), .int (nI (tN τ)), .ref (b 6), .ref (b 7), .int (nI ((tClm τ).length)), .ref (b 8), .int (nI ((flN τ (tCode τ k1) tk r).length))])), (b 1, aC g 4 fc), (b 2, aI g 4 fb), (b 3, .inr (3, [.ref (b 4), .int (tClk τ)])), (b 4, aI g 8 d), (b 5, aR g 40 fr), (b 6, aI g 20 f1), (b 7, aI g 20 f2), (b 8, aR g 40 ff1)] := base_D hbi
      have hF := hF.keep hS (fun q _ hq => hZ q hq)
      have hW : WorldAt g (tDat τ) (tClk τ) (b 3) H := ⟨b 4, d, hB.2.2.1, hP.sub [3, 4] rfl⟩
      have hfl := flN_len τ (tCode τ k1) tk r
      refine lv_iload_n hx hb dX4_gatherFillers_7 rfl (lv_at hl 3 rfl) ?_
      refine lv_aload_n hx hb dX4_gatherFillers_8 rfl (lv_at hl 0 rfl) ?_
      refine q_get C f_X4_144 (hP) 0 rfl rfl dX4_gatherFillers_9 ?_
      refine n_icmp_ge (tgt := 80) C (by omega) (by omega) dX4_gatherFillers_12 (by decide) (fun c12 => ?_) (fun c12 => ?_)
      · skip
        exact r_wv C hr hlk hS (⟨rfl, ff1, by rw [show tN τ = r by omega]; exact hff, by have e : tN τ = r := (by omega); have hP9 : va_P g.1 vwCl [(b 0, .inr (4, [.ref (b 1), .ref (b 2), .ref (b 3), .ref (b 5), .int (nI (tN τ)), .ref (b 6), .ref (b 7), .int (nI ((tClm τ).length)), .ref (b 8), .int (nI ((flN τ (tCode τ k1) tk (tN τ)).length))])), (b 1, aC g 4 fc), (b 2, aI g 4 fb), (b 3, .inr (3, [.ref (b 4), .int (tClk τ)])), (b 4, aI g 8 d), (b 5, aR g 40 fr), (b 6, aI g 20 f1), (b 7, aI g 20 f2), (b 8, aR g 40 ff1)] H := (by rw [e]; rw [e] at hP; exact hP); exact hP9⟩) dX4_gatherFillers_80
      · skip
        refine lv_aload_n hx hb dX4_gatherFillers_15 rfl (lv_at hl 0 rfl) ?_
        refine lv_iload_n hx hb dX4_gatherFillers_16 rfl (lv_at hl 3 rfl) ?_
        refine k_q (c_V (As := [.int (nI (r))]) (rest := []) C v_X4_69 (c4_runAt l g b τ hT (nI (flN τ (tCode τ k1) tk r).length) fc fb d fr f1 f2 ff1 (nI (r))) ⟨Nat.le_of_ble_eq_true rfl, Nat.le_of_ble_eq_true rfl⟩ (q_recv C hP 0 rfl rfl) (hP) hl.1 rfl rfl (Nat.le_of_ble_eq_true rfl) dX4_gatherFillers_17 ⟨Nat.le_of_ble_eq_true rfl, Nat.le_of_ble_eq_true rfl⟩) (fun r17 q17 => ?_)
        obtain rfl : r17 = some (rad r) := q17.trans (rn_in (c12) h40 (hB.2.2.2.1 _ (c12)))
        refine W.eq (g2 := F0 m 20 ls [.ref (rad r)]) rfl ?_
        refine lv_astore (lv' := [(4, .ref (rad r)), (0, .ref (b 0)), (1, .ref (cad k1)), (2, .int (nI (tk))), (3, .int (nI (r)))]) hx hb dX4_gatherFillers_20 hl (by decide) rfl (fun ls hl => ?_)
        refine lv_aload hx hb dX4_gatherFillers_22 (lv_at hl 0 rfl) ?_
        refine lv_ifnull hx hb dX4_gatherFillers_24 ?_
        have hRA := (hF.2 r c12).run
        obtain ⟨ca, na, va, ra, vv, ww, hv, hPr⟩ := id hRA
        have hNA := note_at hv hPr
        have hO := hT.2.2.2.1 r c12
        have h16 := Nat.le_trans hO.2.2.2.2.2.2.2.1 hO.2.2.2.2.2.2.1
        refine lv_aload hx hb dX4_gatherFillers_27 (lv_at hl 0 rfl) ?_
        refine lv_aload_n hx hb dX4_gatherFillers_29 rfl (lv_at hl 2 rfl) ?_
        refine lv_iload_n hx hb dX4_gatherFillers_30 rfl (lv_at hl 3 rfl) ?_
        refine lv_aload_n hx hb dX4_gatherFillers_31 rfl (lv_at hl 1 rfl) ?_
        refine q_get C f_X4_22 (hP) 0 rfl rfl dX4_gatherFillers_32 ?_
        refine k_i (c_V (As := [.ref (cad k1), .int (nI (tk)), .ref (b 3)]) (rest := []) C v_X4_168 (c2_isUsable l g (rad r) (tRun τ r) (cntB τ r) (hT.2.2.2.1 r c12) (cad k1) (b 3) (tk) (tCode τ k1) (tDat τ) (tClk τ) hc4.2 hc4.1 (by omega)) ⟨Nat.le_of_ble_eq_true rfl, Nat.le_of_ble_eq_true rfl⟩ (run_recv C (hF.2 r c12).run) (⟨(hF.2 r c12).run, (hF.1 k1 hk4).1, hW⟩) hl.1 rfl rfl (Nat.le_of_ble_eq_true rfl) dX4_gatherFillers_35 ⟨Nat.le_of_ble_eq_true rfl, Nat.le_of_ble_eq_true rfl⟩) (fun r35 q35 => ?_)
        subst q35
        refine b_ifeq (tgt := 74) C dX4_gatherFillers_38 (by decide) (fun c38 => ?_) (fun c38 => ?_)
        · skip
          refine n_iinc (d := 1) (lv' := [(3, .int (nI (r + 1))), (4, .ref (rad r)), (0, .ref (b 0)), (1, .ref (cad k1)), (2, .int (nI (tk)))]) C dX4_gatherFillers_74 (by decide) hl (k := 4) rfl (by decide) rfl (fun ls hl => ?_)
          refine lv_goto (tgt := 7) hx hb dX4_gatherFillers_77 (by decide) ?_
          exact ih_lp (r + 1) (ff1) (H) (locs) ls (by omega) (by omega) (by rw [flN_no c38]; exact hP) (hS) (by rw [flN_no c38]; exact hff) (lv_sub hl [2, 3, 4, 0] rfl)
        · skip
          refine lv_aload_n hx hb dX4_gatherFillers_41 rfl (lv_at hl 1 rfl) ?_
          refine q_get C f_X4_263 (hP) 0 rfl rfl dX4_gatherFillers_42 ?_
          refine lv_aload_n hx hb dX4_gatherFillers_45 rfl (lv_at hl 1 rfl) ?_
          refine q_get C f_X4_38 (hP) 0 rfl rfl dX4_gatherFillers_46 ?_
          refine va_alen (v := nI 40) hx hb C.2.1 (hP) 8 3 rfl rfl rfl dX4_gatherFillers_49 ?_
          refine n_icmp_ge (tgt := 74) C (by omega) (by omega) dX4_gatherFillers_50 (by decide) (fun c50 => by exfalso; omega) (fun c50 => ?_)
          refine lv_aload_n hx hb dX4_gatherFillers_53 rfl (lv_at hl 1 rfl) ?_
          refine q_get C f_X4_38 (hP) 0 rfl rfl dX4_gatherFillers_54 ?_
          refine lv_aload_n hx hb dX4_gatherFillers_57 rfl (lv_at hl 1 rfl) ?_
          refine q_get C f_X4_263 (hP) 0 rfl rfl dX4_gatherFillers_58 ?_
          refine lv_aload hx hb dX4_gatherFillers_61 (lv_at hl 0 rfl) ?_
          refine n_qast2 C hP hD hS 8 3 rfl rfl (hPr) 0 rfl rfl (by omega) (by decide) dX4_gatherFillers_63 (fun H locs hP hD hS => ?_)
          have hP : va_P g.1 vwCl [(b 0, .inr (4, [.ref (b 1), .ref (b 2), .ref (b 3), .ref (b 5), .int (nI (tN τ)), .ref (b 6), .ref (b 7), .int (nI ((tClm τ).length)), .ref (b 8), .int (nI ((flN τ (tCode τ k1) tk r).length))])), (b 1, aC g 4 fc), (b 2, aI g 4 fb), (b 3, .inr (3, [.ref (b 4), .int (tClk τ)])), (b 4, aI g 8 d), (b 5, aR g 40 fr), (b 6, aI g 20 f1), (b 7, aI g 20 f2), (b 8, aR g 40 (va_up ff1 ((flN τ (tCode τ k1) tk r).length) (some (rad r))))] H := hP
          have hD : va_D (bA b) [(b 0, .inr (4, [.ref (b 1), .ref (b 2), .ref (b 3), .ref (b 5), .int (nI (tN τ)), .ref (b 6), .ref (b 7), .int (nI ((tClm τ).length)), .ref (b 8), .int (nI ((flN τ (tCode τ k1) tk r).length))])), (b 1, aC g 4 fc), (b 2, aI g 4 fb), (b 3, .inr (3, [.ref (b 4), .int (tClk τ)])), (b 4, aI g 8 d), (b 5, aR g 40 fr), (b 6, aI g 20 f1), (b 7, aI g 20 f2), (b 8, aR g 40 (va_up ff1 ((flN τ (tCode τ k1) tk r).length) (some (rad r))))] := hD
          refine lv_aload_n hx hb dX4_gatherFillers_64 rfl (lv_at hl 1 rfl) ?_
          refine lv_dup hx hb dX4_gatherFillers_65 rfl ?_
          refine q_get C f_X4_263 (hP) 0 rfl rfl dX4_gatherFillers_66 ?_
          refine lv_iconst (v := nI 1) hx hb dX4_gatherFillers_69 (by decide) ?_
          refine n_iadd C dX4_gatherFillers_70 ?_
          refine q_put C fp_X4_263 hP hD hS 0 rfl rfl rfl (Nat.le_of_ble_eq_true rfl) dX4_gatherFillers_71 (fun H locs hP hD hS => ?_)
          have hP : va_P g.1 vwCl [(b 0, .inr (4, [.ref (b 1), .ref (b 2), .ref (b 3), .ref (b 5), .int (nI (tN τ)), .ref (b 6), .ref (b 7), .int (nI ((tClm τ).length)), .ref (b 8), .int (nI (((flN τ (tCode τ k1) tk r).length) + 1))])), (b 1, aC g 4 fc), (b 2, aI g 4 fb), (b 3, .inr (3, [.ref (b 4), .int (tClk τ)])), (b 4, aI g 8 d), (b 5, aR g 40 fr), (b 6, aI g 20 f1), (b 7, aI g 20 f2), (b 8, aR g 40 (va_up ff1 ((flN τ (tCode τ k1) tk r).length) (some (rad r))))] H := hP
          have hD : va_D (bA b) [(b 0, .inr (4, [.ref (b 1), .ref (b 2), .ref (b 3), .ref (b 5), .int (nI (tN τ)), .ref (b 6), .ref (b 7), .int (nI ((tClm τ).length)), .ref (b 8), .int (nI (((flN τ (tCode τ k1) tk r).length) + 1))])), (b 1, aC g 4 fc), (b 2, aI g 4 fb), (b 3, .inr (3, [.ref (b 4), .int (tClk τ)])), (b 4, aI g 8 d), (b 5, aR g 40 fr), (b 6, aI g 20 f1), (b 7, aI g 20 f2), (b 8, aR g 40 (va_up ff1 ((flN τ (tCode τ k1) tk r).length) (some (rad r))))] := hD
          refine n_iinc (d := 1) (lv' := [(3, .int (nI (r + 1))), (4, .ref (rad r)), (0, .ref (b 0)), (1, .ref (cad k1)), (2, .int (nI (tk)))]) C dX4_gatherFillers_74 (by decide) hl (k := 4) rfl (by decide) rfl (fun ls hl => ?_)
          refine lv_goto (tgt := 7) hx hb dX4_gatherFillers_77 (by decide) ?_
          exact ih_lp (r + 1) (va_up ff1 (flN τ (tCode τ k1) tk r).length (some (rad r))) (H) (locs) ls (by omega) (by omega) (by rw [flN_yes c38, List.length_append]; exact hP) (hS) (by rw [flN_yes c38]; exact fl_u hff) (lv_sub hl [2, 3, 4, 0] rfl)
  exact lp (tN τ + 1) (0) (ff) (H) (locs) ls (by omega) (by omega) (hP) (hS) (fun f hf => absurd hf (by simp [flN])) (lv_sub hl [1, 2, 3, 0] rfl)
def opM (τ : TB) (ks : List Nat) (all : Int32) : Nat → Int32
  | 0 => 0
  | f + 1 => if fitB (tRun τ (ks.getD f 0)) all then opM τ ks all f ||| gsI (tRun τ (ks.getD f 0)) else opM τ ks all f
def opI (τ : TB) (ks : List Nat) (all : Int32) (w : Nat) : Int32 := (opM τ ks all ks.length ^^^ (-1)) &&& (((1 : Int32) <<< ((nI w) &&& 31)) - 1)
set_option maxHeartbeats 4000000 in
set_option maxRecDepth 100000 in
theorem c4_openSeeds (l : Launch) (g : GG) (b : Nat → Nat) (Z : Nat → Prop) (τ : TB) (hT : TOK τ) (fc : Nat → Option Nat) (fb d : Nat → Int32) (fr : Nat → Option Nat) (f1 f2 : Nat → Int32) (ff1 : Nat → Option Nat) (cad rad : Nat → Nat) (k1 tk : Nat) (hff : ∀ f, f < (flN τ (tCode τ k1) tk (tN τ)).length → ff1 f = some (rad ((flN τ (tCode τ k1) tk (tN τ)).getD f 0))) (all : Int32) (w : Nat) (hw : w ≤ 8) : Met l yX4_openSeeds (.code yX4_openSeeds cX4_openSeeds 6 (some .int) :: wsL_law) ({ frames := 2, cells := 0, slots := 0, locals := 43 } : Room) (mP g [.ref (b 0), .int (all), .int (nI (w))] (fun H => va_P g.1 vwCl [(b 0, .inr (4, [.ref (b 1), .ref (b 2), .ref (b 3), .ref (b 5), .int (nI (tN τ)), .ref (b 6), .ref (b 7), .int (nI ((tClm τ).length)), .ref (b 8), .int (nI ((flN τ (tCode τ k1) tk (tN τ)).length))])), (b 1, aC g 4 fc), (b 2, aI g 4 fb), (b 3, .inr (3, [.ref (b 4), .int (tClk τ)])), (b 4, aI g 8 d), (b 5, aR g 40 fr), (b 6, aI g 20 f1), (b 7, aI g 20 f2), (b 8, aR g 40 ff1)] H ∧ Froz g Z τ cad rad H)) (vp_Si (fun z => z = opI τ (flN τ (tCode τ k1) tk (tN τ)) all w)) 0 0 ((fun _ => False)) := by
  refine mMet (by decide) (Nat.le_of_ble_eq_true rfl) ?_
  intro p e s m below meth c C hr hlk hnm hP ls hl
  have hx := C.1.1
  have hb := C.1.2.1
  have hl : lv_has ls 6 [(0, .ref (b 0)), (1, .int (all)), (2, .int (nI (w)))] := hl
  obtain ⟨hP, hF⟩ := hP
  have hfl := flN_len τ (tCode τ k1) tk (tN τ)
  have h40 := hT.2.2.1
  refine lv_iconst (v := 0) hx hb dX4_openSeeds_0 (by decide) ?_
  refine lv_istore_n (lv' := [(3, .int (0)), (0, .ref (b 0)), (1, .int (all)), (2, .int (nI (w)))]) hx hb dX4_openSeeds_1 rfl hl (by decide) rfl (fun ls hl => ?_)
  refine lv_iconst (v := nI 0) hx hb dX4_openSeeds_2 (by decide) ?_
  refine lv_istore (lv' := [(4, .int (nI (0))), (3, .int (0)), (0, .ref (b 0)), (1, .int (all)), (2, .int (nI (w)))]) hx hb dX4_openSeeds_3 hl (by decide) rfl (fun ls hl => ?_)
  have lp : ∀ (n_lp : Nat) (f : Nat) (x : Int32) (ls : Array Slot), (f ≤ (flN τ (tCode τ k1) tk (tN τ)).length) → ((flN τ (tCode τ k1) tk (tN τ)).length + 1 ≤ f + n_lp) → (x = opM τ (flN τ (tCode τ k1) tk (tN τ)) all f) → lv_has ls 6 [(0, .ref (b 0)), (1, .int (all)), (2, .int (nI (w))), (3, .int (x)), (4, .int (nI (f)))] → W p l e ({ frames := 2, cells := 0, slots := 0, locals := 43 } : Room) s m ([.ref (b 0), .int (all), .int (nI (w))] : List Value).toArray below meth c s.heap [] 0 0 (MQ below (vp_Si (fun z => z = opI τ (flN τ (tCode τ k1) tk (tN τ)) all w)) (([.ref (b 0), .int (all), .int (nI (w))] : List Value).toArray) s 0 0 ((fun _ => False))) (F0 m 5 ls []) := by
    intro n_lp
    induction n_lp with
    | zero =>
      intro f x ls hfN hn hx2
      exact absurd hn (by omega)
    | succ n_lp ih_lp =>
      intro f x ls hfN hn hx2 hl
      refine lv_iload hx hb dX4_openSeeds_5 (lv_at hl 4 rfl) ?_
      refine lv_aload_n hx hb dX4_openSeeds_7 rfl (lv_at hl 0 rfl) ?_
      refine q_get C f_X4_263 (hP) 0 rfl rfl dX4_openSeeds_8 ?_
      refine n_icmp_ge (tgt := 61) C (by omega) (by omega) dX4_openSeeds_11 (by decide) (fun c11 => ?_) (fun c11 => ?_)
      · skip
        refine lv_iload_n hx hb dX4_openSeeds_61 rfl (lv_at hl 3 rfl) ?_
        refine lv_iconst (v := (-1)) hx hb dX4_openSeeds_62 (by decide) ?_
        refine lv_ixor hx hb dX4_openSeeds_63 ?_
        refine lv_iconst (v := 1) hx hb dX4_openSeeds_64 (by decide) ?_
        refine lv_iload_n hx hb dX4_openSeeds_65 rfl (lv_at hl 2 rfl) ?_
        refine lv_ishl hx hb dX4_openSeeds_66 ?_
        refine lv_iconst (v := 1) hx hb dX4_openSeeds_67 (by decide) ?_
        refine lv_isub hx hb dX4_openSeeds_68 ?_
        refine lv_iand hx hb dX4_openSeeds_69 ?_
        exact r_i C hr hlk (by rw [hx2, show f = (flN τ (tCode τ k1) tk (tN τ)).length by omega]; rfl) dX4_openSeeds_70
      · skip
        refine lv_iload hx hb dX4_openSeeds_14 (lv_at hl 4 rfl) ?_
        refine lv_aload_n hx hb dX4_openSeeds_16 rfl (lv_at hl 0 rfl) ?_
        refine q_get C f_X4_38 (hP) 0 rfl rfl dX4_openSeeds_17 ?_
        refine va_alen (v := nI 40) hx hb C.2.1 (hP) 8 3 rfl rfl rfl dX4_openSeeds_20 ?_
        refine n_icmp_ge (tgt := 61) C (by omega) (by omega) dX4_openSeeds_21 (by decide) (fun c21 => by exfalso; omega) (fun c21 => ?_)
        refine lv_aload_n hx hb dX4_openSeeds_24 rfl (lv_at hl 0 rfl) ?_
        refine q_get C f_X4_38 (hP) 0 rfl rfl dX4_openSeeds_25 ?_
        refine lv_iload hx hb dX4_openSeeds_28 (lv_at hl 4 rfl) ?_
        refine n_rald C (hP) 8 rfl (by omega) (by decide) dX4_openSeeds_30 ?_
        refine w_topq (a := rad ((flN τ (tCode τ k1) tk (tN τ)).getD f 0)) (hff f c11) ?_
        refine lv_astore (lv' := [(5, .ref (rad ((flN τ (tCode τ k1) tk (tN τ)).getD f 0))), (0, .ref (b 0)), (1, .int (all)), (2, .int (nI (w))), (3, .int (x)), (4, .int (nI (f)))]) hx hb dX4_openSeeds_31 hl (by decide) rfl (fun ls hl => ?_)
        refine lv_aload hx hb dX4_openSeeds_33 (lv_at hl 0 rfl) ?_
        refine lv_ifnull hx hb dX4_openSeeds_35 ?_
        have ho : ((flN τ (tCode τ k1) tk (tN τ)).getD f 0) < tN τ := (flN_mem.mp (getD_mem c11)).1
        refine lv_aload hx hb dX4_openSeeds_38 (lv_at hl 0 rfl) ?_
        refine lv_iload_n hx hb dX4_openSeeds_40 rfl (lv_at hl 2 rfl) ?_
        refine k_i (c_V (As := [.int (all)]) (rest := []) C v_X4_162 (c2_fitsSettings l g (rad ((flN τ (tCode τ k1) tk (tN τ)).getD f 0)) (tRun τ ((flN τ (tCode τ k1) tk (tN τ)).getD f 0)) (cntB τ ((flN τ (tCode τ k1) tk (tN τ)).getD f 0)) (hT.2.2.2.1 ((flN τ (tCode τ k1) tk (tN τ)).getD f 0) ho) (all)) ⟨Nat.le_of_ble_eq_true rfl, Nat.le_of_ble_eq_true rfl⟩ (run_recv C (hF.2 ((flN τ (tCode τ k1) tk (tN τ)).getD f 0) ho).run) ((hF.2 ((flN τ (tCode τ k1) tk (tN τ)).getD f 0) ho).run) hl.1 rfl rfl (Nat.le_of_ble_eq_true rfl) dX4_openSeeds_41 ⟨Nat.le_of_ble_eq_true rfl, Nat.le_of_ble_eq_true rfl⟩) (fun r41 q41 => ?_)
        subst q41
        refine b_ifeq (tgt := 55) C dX4_openSeeds_44 (by decide) (fun c44 => ?_) (fun c44 => ?_)
        · skip
          refine n_iinc (d := 1) (lv' := [(4, .int (nI (f + 1))), (5, .ref (rad ((flN τ (tCode τ k1) tk (tN τ)).getD f 0))), (0, .ref (b 0)), (1, .int (all)), (2, .int (nI (w))), (3, .int (x))]) C dX4_openSeeds_55 (by decide) hl (k := 5) rfl (by decide) rfl (fun ls hl => ?_)
          refine lv_goto (tgt := 5) hx hb dX4_openSeeds_58 (by decide) ?_
          exact ih_lp (f + 1) (x) ls (by omega) (by omega) (by rw [opM, if_neg (by rw [c44]; decide)]; exact hx2) (lv_sub hl [2, 3, 4, 5, 0] rfl)
        · skip
          refine lv_iload_n hx hb dX4_openSeeds_47 rfl (lv_at hl 4 rfl) ?_
          refine lv_aload hx hb dX4_openSeeds_48 (lv_at hl 0 rfl) ?_
          refine k_i (c_V (As := []) (rest := [.int (x)]) C v_X4_266 (c2_gridSeeds l g (rad ((flN τ (tCode τ k1) tk (tN τ)).getD f 0)) (tRun τ ((flN τ (tCode τ k1) tk (tN τ)).getD f 0)) (cntB τ ((flN τ (tCode τ k1) tk (tN τ)).getD f 0)) (hT.2.2.2.1 ((flN τ (tCode τ k1) tk (tN τ)).getD f 0) ho)) ⟨Nat.le_of_ble_eq_true rfl, Nat.le_of_ble_eq_true rfl⟩ (run_recv C (hF.2 ((flN τ (tCode τ k1) tk (tN τ)).getD f 0) ho).run) ((hF.2 ((flN τ (tCode τ k1) tk (tN τ)).getD f 0) ho).run) hl.1 rfl rfl (Nat.le_of_ble_eq_true rfl) dX4_openSeeds_50 ⟨Nat.le_of_ble_eq_true rfl, Nat.le_of_ble_eq_true rfl⟩) (fun r50 q50 => ?_)
          subst q50
          refine lv_ior hx hb dX4_openSeeds_53 ?_
          refine lv_istore_n (lv' := [(3, .int ((x) ||| (gsI (tRun τ ((flN τ (tCode τ k1) tk (tN τ)).getD f 0))))), (5, .ref (rad ((flN τ (tCode τ k1) tk (tN τ)).getD f 0))), (0, .ref (b 0)), (1, .int (all)), (2, .int (nI (w))), (4, .int (nI (f)))]) hx hb dX4_openSeeds_54 rfl hl (by decide) rfl (fun ls hl => ?_)
          refine n_iinc (d := 1) (lv' := [(4, .int (nI (f + 1))), (3, .int ((x) ||| (gsI (tRun τ ((flN τ (tCode τ k1) tk (tN τ)).getD f 0))))), (5, .ref (rad ((flN τ (tCode τ k1) tk (tN τ)).getD f 0))), (0, .ref (b 0)), (1, .int (all)), (2, .int (nI (w)))]) C dX4_openSeeds_55 (by decide) hl (k := 5) rfl (by decide) rfl (fun ls hl => ?_)
          refine lv_goto (tgt := 5) hx hb dX4_openSeeds_58 (by decide) ?_
          exact ih_lp (f + 1) ((x) ||| (gsI (tRun τ ((flN τ (tCode τ k1) tk (tN τ)).getD f 0)))) ls (by omega) (by omega) (by rw [opM, if_pos c44, hx2]) (lv_sub hl [3, 4, 5, 1, 0] rfl)
  exact lp ((flN τ (tCode τ k1) tk (tN τ)).length + 1) (0) (0) ls (by omega) (by omega) (rfl) (lv_sub hl [2, 3, 4, 1, 0] rfl)
section NX
variable {τ : TB} {n : Nat}
theorem nx_3 (hT : TOK τ) (hn : n < gridN τ) (h : n % tBnd τ 3 + 1 < tBnd τ 3) : nI (sN (n % tBnd τ 3 + 1) (n / tBnd τ 3 % tBnd τ 2) (n / tBnd τ 3 / tBnd τ 2 % tBnd τ 1) (n / tBnd τ 3 / tBnd τ 2 / tBnd τ 1 % tBnd τ 0)) = nxI τ n := by
  obtain ⟨e1, e2⟩ := inc_lt (by omega) h
  rw [nxI, if_pos ((grid_dv hT _).mpr (by rw [e2]; exact (grid_dv hT n).mp hn)), set_e hT, e1, e2]
theorem nx_2 (hT : TOK τ) (hn : n < gridN τ) (h3 : ¬ n % tBnd τ 3 + 1 < tBnd τ 3) (h : n / tBnd τ 3 % tBnd τ 2 + 1 < tBnd τ 2) : nI (sN 0 (n / tBnd τ 3 % tBnd τ 2 + 1) (n / tBnd τ 3 / tBnd τ 2 % tBnd τ 1) (n / tBnd τ 3 / tBnd τ 2 / tBnd τ 1 % tBnd τ 0)) = nxI τ n := by
  have b3 := hT.2.1 3 (by omega)
  obtain ⟨e1, e2⟩ := inc_ge (by omega) h3
  obtain ⟨e3, e4⟩ := inc_lt (by omega) h
  rw [nxI, if_pos ((grid_dv hT _).mpr (by rw [e2, e4]; exact (grid_dv hT n).mp hn)), set_e hT, e1, e2, e3, e4]
theorem nx_1 (hT : TOK τ) (hn : n < gridN τ) (h3 : ¬ n % tBnd τ 3 + 1 < tBnd τ 3) (h2 : ¬ n / tBnd τ 3 % tBnd τ 2 + 1 < tBnd τ 2) (h : n / tBnd τ 3 / tBnd τ 2 % tBnd τ 1 + 1 < tBnd τ 1) : nI (sN 0 0 (n / tBnd τ 3 / tBnd τ 2 % tBnd τ 1 + 1) (n / tBnd τ 3 / tBnd τ 2 / tBnd τ 1 % tBnd τ 0)) = nxI τ n := by
  have b3 := hT.2.1 3 (by omega); have b2 := hT.2.1 2 (by omega)
  obtain ⟨e1, e2⟩ := inc_ge (by omega) h3
  obtain ⟨e3, e4⟩ := inc_ge (by omega) h2
  obtain ⟨e5, e6⟩ := inc_lt (by omega) h
  rw [nxI, if_pos ((grid_dv hT _).mpr (by rw [e2, e4, e6]; exact (grid_dv hT n).mp hn)), set_e hT, e1, e2, e3, e4, e5, e6]
theorem nx_0 (hT : TOK τ) (hn : n < gridN τ) (h3 : ¬ n % tBnd τ 3 + 1 < tBnd τ 3) (h2 : ¬ n / tBnd τ 3 % tBnd τ 2 + 1 < tBnd τ 2) (h1 : ¬ n / tBnd τ 3 / tBnd τ 2 % tBnd τ 1 + 1 < tBnd τ 1) (h : n / tBnd τ 3 / tBnd τ 2 / tBnd τ 1 % tBnd τ 0 + 1 < tBnd τ 0) : nI (sN 0 0 0 (n / tBnd τ 3 / tBnd τ 2 / tBnd τ 1 % tBnd τ 0 + 1)) = nxI τ n := by
  have b3 := hT.2.1 3 (by omega); have b2 := hT.2.1 2 (by omega); have b1 := hT.2.1 1 (by omega)
  obtain ⟨e1, e2⟩ := inc_ge (by omega) h3
  obtain ⟨e3, e4⟩ := inc_ge (by omega) h2
  obtain ⟨e5, e6⟩ := inc_ge (by omega) h1
  have hn2 := (grid_dv hT n).mp hn
  have h' := h
  rw [Nat.mod_eq_of_lt hn2] at h'
  rw [nxI, if_pos ((grid_dv hT _).mpr (by rw [e2, e4, e6]; exact h')), set_e hT, e1, e2, e3, e4, e5, e6, (inc_lt (by omega) h).1]
theorem nx_e (hT : TOK τ) (hn : n < gridN τ) (h3 : ¬ n % tBnd τ 3 + 1 < tBnd τ 3) (h2 : ¬ n / tBnd τ 3 % tBnd τ 2 + 1 < tBnd τ 2) (h1 : ¬ n / tBnd τ 3 / tBnd τ 2 % tBnd τ 1 + 1 < tBnd τ 1) (h : ¬ n / tBnd τ 3 / tBnd τ 2 / tBnd τ 1 % tBnd τ 0 + 1 < tBnd τ 0) : (-1) = nxI τ n := by
  have b3 := hT.2.1 3 (by omega); have b2 := hT.2.1 2 (by omega); have b1 := hT.2.1 1 (by omega)
  obtain ⟨e1, e2⟩ := inc_ge (by omega) h3
  obtain ⟨e3, e4⟩ := inc_ge (by omega) h2
  obtain ⟨e5, e6⟩ := inc_ge (by omega) h1
  have hn2 := (grid_dv hT n).mp hn
  rw [Nat.mod_eq_of_lt hn2] at h
  rw [nxI, if_neg (fun q => h (by have := (grid_dv hT _).mp q; rw [e2, e4, e6] at this; exact this))]
end NX
set_option maxHeartbeats 4000000 in
set_option maxRecDepth 100000 in
theorem c4_nextSettings (l : Launch) (g : GG) (b : Nat → Nat) (τ : TB) (hT : TOK τ) (nf : Int32) (fc : Nat → Option Nat) (fb d : Nat → Int32) (fr : Nat → Option Nat) (f1 f2 : Nat → Int32) (ff : Nat → Option Nat) (cad rad : Nat → Nat) (hB : BaseR τ cad rad fc fb d fr f1 f2) (n : Nat) (hn : n < gridN τ) : Met l yX4_nextSettings (.code yX4_nextSettings cX4_nextSettings 5 (some .int) :: wsL_law) ({ frames := 1, cells := 0, slots := 0, locals := 21 } : Room) (mP g [.ref (b 0), .int (setAt τ n)] (fun H => va_P g.1 vwCl [(b 0, .inr (4, [.ref (b 1), .ref (b 2), .ref (b 3), .ref (b 5), .int (nI (tN τ)), .ref (b 6), .ref (b 7), .int (nI ((tClm τ).length)), .ref (b 8), .int (nf)])), (b 1, aC g 4 fc), (b 2, aI g 4 fb), (b 3, .inr (3, [.ref (b 4), .int (tClk τ)])), (b 4, aI g 8 d), (b 5, aR g 40 fr), (b 6, aI g 20 f1), (b 7, aI g 20 f2), (b 8, aR g 40 ff)] H)) (vp_Si (fun z => z = nxI τ n)) 0 0 ((fun _ => False)) := by
  refine mMet (by decide) (Nat.le_of_ble_eq_true rfl) ?_
  intro p e s m below meth c C hr hlk hnm hP ls hl
  have hx := C.1.1
  have hb := C.1.2.1
  have hl : lv_has ls 5 [(0, .ref (b 0)), (1, .int (setAt τ n))] := hl
  have b0 := hT.2.1 0 (by omega)
  have b1 := hT.2.1 1 (by omega)
  have b2 := hT.2.1 2 (by omega)
  have b3 := hT.2.1 3 (by omega)
  have m0 := Nat.mod_lt (n / tBnd τ 3 / tBnd τ 2 / tBnd τ 1) (show 0 < tBnd τ 0 by omega)
  have m1 := Nat.mod_lt (n / tBnd τ 3 / tBnd τ 2) (show 0 < tBnd τ 1 by omega)
  have m2 := Nat.mod_lt (n / tBnd τ 3) (show 0 < tBnd τ 2 by omega)
  have m3 := Nat.mod_lt n (show 0 < tBnd τ 3 by omega)
  obtain ⟨d3, e3⟩ : ∃ d, d = n % tBnd τ 3 := ⟨_, rfl⟩
  obtain ⟨d2, e2⟩ : ∃ d, d = n / tBnd τ 3 % tBnd τ 2 := ⟨_, rfl⟩
  obtain ⟨d1, e1⟩ : ∃ d, d = n / tBnd τ 3 / tBnd τ 2 % tBnd τ 1 := ⟨_, rfl⟩
  obtain ⟨d0, e0⟩ : ∃ d, d = n / tBnd τ 3 / tBnd τ 2 / tBnd τ 1 % tBnd τ 0 := ⟨_, rfl⟩
  rw [← e0] at m0
  rw [← e1] at m1
  rw [← e2] at m2
  rw [← e3] at m3
  have h40 := hT.2.2.1
  refine lv_iload_n hx hb dX4_nextSettings_0 rfl (lv_at hl 1 rfl) ?_
  refine w_topi (y := (nI (sN d3 d2 d1 d0))) (by rw [set_e hT n, e3, e2, e1, e0]) ?_
  refine lv_istore_n (lv' := [(2, .int (nI (sN d3 d2 d1 d0))), (0, .ref (b 0)), (1, .int (setAt τ n))]) hx hb dX4_nextSettings_1 rfl hl (by decide) rfl (fun ls hl => ?_)
  refine lv_iconst (v := nI 3) hx hb dX4_nextSettings_2 (by decide) ?_
  refine lv_istore_n (lv' := [(3, .int (nI (3))), (2, .int (nI (sN d3 d2 d1 d0))), (0, .ref (b 0)), (1, .int (setAt τ n))]) hx hb dX4_nextSettings_3 rfl hl (by decide) rfl (fun ls hl => ?_)
  refine lv_iload_n hx hb dX4_nextSettings_4 rfl (lv_at hl 0 rfl) ?_
  refine lv_if_lt (tgt := 50) hx hb dX4_nextSettings_5 (by decide) (fun c5 => by exfalso; exact absurd c5 (by decide)) (fun c5 => ?_)
  refine lv_iload_n hx hb dX4_nextSettings_8 rfl (lv_at hl 1 rfl) ?_
  refine lv_iload_n hx hb dX4_nextSettings_9 rfl (lv_at hl 0 rfl) ?_
  refine k_i (c_S (As := [.int (nI (sN d3 d2 d1 d0)), .int (nI (3))]) (rest := []) C v_X4_252 (c4_settingOf l g (nI (sN d3 d2 d1 d0)) 3) ⟨Nat.le_of_ble_eq_true rfl, Nat.le_of_ble_eq_true rfl⟩ (trivial) hl.1 rfl rfl (Nat.le_of_ble_eq_true rfl) dX4_nextSettings_10 ⟨Nat.le_of_ble_eq_true rfl, Nat.le_of_ble_eq_true rfl⟩) (fun r10 q10 => ?_)
  subst q10
  refine w_topi (y := (nI (d3))) (sg_3 d3 (by omega) d2 (by omega) d1 (by omega) d0 (by omega)) ?_
  refine lv_istore (lv' := [(4, .int (nI (d3))), (3, .int (nI (3))), (2, .int (nI (sN d3 d2 d1 d0))), (0, .ref (b 0)), (1, .int (setAt τ n))]) hx hb dX4_nextSettings_13 hl (by decide) rfl (fun ls hl => ?_)
  refine lv_iload hx hb dX4_nextSettings_15 (lv_at hl 0 rfl) ?_
  refine lv_iconst (v := nI 1) hx hb dX4_nextSettings_17 (by decide) ?_
  refine n_iadd C dX4_nextSettings_18 ?_
  refine lv_aload_n hx hb dX4_nextSettings_19 rfl (lv_at hl 3 rfl) ?_
  refine lv_iload_n hx hb dX4_nextSettings_20 rfl (lv_at hl 1 rfl) ?_
  refine k_i (c_V (As := [.int (nI (3))]) (rest := [.int (nI (d3 + 1))]) C v_X4_198 (c4_boundOf l g b τ hT nf fc fb d fr f1 f2 ff cad rad hB 3 (by omega)) ⟨Nat.le_of_ble_eq_true rfl, Nat.le_of_ble_eq_true rfl⟩ (q_recv C hP 0 rfl rfl) (hP) hl.1 rfl rfl (Nat.le_of_ble_eq_true rfl) dX4_nextSettings_21 ⟨Nat.le_of_ble_eq_true rfl, Nat.le_of_ble_eq_true rfl⟩) (fun r21 q21 => ?_)
  subst q21
  refine n_icmp_ge (tgt := 35) C (by omega) (by omega) dX4_nextSettings_24 (by decide) (fun c24 => ?_) (fun c24 => ?_)
  · skip
    have g3 := c24
    refine lv_iload_n hx hb dX4_nextSettings_35 rfl (lv_at hl 2 rfl) ?_
    refine lv_iload hx hb dX4_nextSettings_36 (lv_at hl 0 rfl) ?_
    refine lv_iconst (v := nI 4) hx hb dX4_nextSettings_38 (by decide) ?_
    refine lv_iload_n hx hb dX4_nextSettings_39 rfl (lv_at hl 1 rfl) ?_
    refine n_imul C dX4_nextSettings_40 ?_
    refine lv_ishl hx hb dX4_nextSettings_41 ?_
    refine lv_isub hx hb dX4_nextSettings_42 ?_
    refine w_topi (y := (nI (sN 0 d2 d1 d0))) (sb_3 d3 (by omega) d2 (by omega) d1 (by omega) d0 (by omega)) ?_
    refine lv_istore_n (lv' := [(2, .int (nI (sN 0 d2 d1 d0))), (4, .int (nI (d3))), (3, .int (nI (3))), (0, .ref (b 0)), (1, .int (setAt τ n))]) hx hb dX4_nextSettings_43 rfl hl (by decide) rfl (fun ls hl => ?_)
    refine lv_iinc (v := (nI (2))) (lv' := [(3, .int (nI (2))), (2, .int (nI (sN 0 d2 d1 d0))), (4, .int (nI (d3))), (0, .ref (b 0)), (1, .int (setAt τ n))]) hx hb dX4_nextSettings_44 hl (k := 2) rfl (by decide) (by decide) rfl (fun ls hl => ?_)
    refine lv_goto (tgt := 4) hx hb dX4_nextSettings_47 (by decide) ?_
    refine lv_iload_n hx hb dX4_nextSettings_4 rfl (lv_at hl 0 rfl) ?_
    refine lv_if_lt (tgt := 50) hx hb dX4_nextSettings_5 (by decide) (fun c5 => by exfalso; exact absurd c5 (by decide)) (fun c5 => ?_)
    refine lv_iload_n hx hb dX4_nextSettings_8 rfl (lv_at hl 1 rfl) ?_
    refine lv_iload_n hx hb dX4_nextSettings_9 rfl (lv_at hl 0 rfl) ?_
    refine k_i (c_S (As := [.int (nI (sN 0 d2 d1 d0)), .int (nI (2))]) (rest := []) C v_X4_252 (c4_settingOf l g (nI (sN 0 d2 d1 d0)) 2) ⟨Nat.le_of_ble_eq_true rfl, Nat.le_of_ble_eq_true rfl⟩ (trivial) hl.1 rfl rfl (Nat.le_of_ble_eq_true rfl) dX4_nextSettings_10 ⟨Nat.le_of_ble_eq_true rfl, Nat.le_of_ble_eq_true rfl⟩) (fun r10 q10 => ?_)
    subst q10
    refine w_topi (y := (nI (d2))) (sg_2 d2 (by omega) d1 (by omega) d0 (by omega)) ?_
    refine lv_istore (lv' := [(4, .int (nI (d2))), (3, .int (nI (2))), (2, .int (nI (sN 0 d2 d1 d0))), (0, .ref (b 0)), (1, .int (setAt τ n))]) hx hb dX4_nextSettings_13 hl (by decide) rfl (fun ls hl => ?_)
    refine lv_iload hx hb dX4_nextSettings_15 (lv_at hl 0 rfl) ?_
    refine lv_iconst (v := nI 1) hx hb dX4_nextSettings_17 (by decide) ?_
    refine n_iadd C dX4_nextSettings_18 ?_
    refine lv_aload_n hx hb dX4_nextSettings_19 rfl (lv_at hl 3 rfl) ?_
    refine lv_iload_n hx hb dX4_nextSettings_20 rfl (lv_at hl 1 rfl) ?_
    refine k_i (c_V (As := [.int (nI (2))]) (rest := [.int (nI (d2 + 1))]) C v_X4_198 (c4_boundOf l g b τ hT nf fc fb d fr f1 f2 ff cad rad hB 2 (by omega)) ⟨Nat.le_of_ble_eq_true rfl, Nat.le_of_ble_eq_true rfl⟩ (q_recv C hP 0 rfl rfl) (hP) hl.1 rfl rfl (Nat.le_of_ble_eq_true rfl) dX4_nextSettings_21 ⟨Nat.le_of_ble_eq_true rfl, Nat.le_of_ble_eq_true rfl⟩) (fun r21 q21 => ?_)
    subst q21
    refine n_icmp_ge (tgt := 35) C (by omega) (by omega) dX4_nextSettings_24 (by decide) (fun c24 => ?_) (fun c24 => ?_)
    · skip
      have g2 := c24
      refine lv_iload_n hx hb dX4_nextSettings_35 rfl (lv_at hl 2 rfl) ?_
      refine lv_iload hx hb dX4_nextSettings_36 (lv_at hl 0 rfl) ?_
      refine lv_iconst (v := nI 4) hx hb dX4_nextSettings_38 (by decide) ?_
      refine lv_iload_n hx hb dX4_nextSettings_39 rfl (lv_at hl 1 rfl) ?_
      refine n_imul C dX4_nextSettings_40 ?_
      refine lv_ishl hx hb dX4_nextSettings_41 ?_
      refine lv_isub hx hb dX4_nextSettings_42 ?_
      refine w_topi (y := (nI (sN 0 0 d1 d0))) (sb_2 d2 (by omega) d1 (by omega) d0 (by omega)) ?_
      refine lv_istore_n (lv' := [(2, .int (nI (sN 0 0 d1 d0))), (4, .int (nI (d2))), (3, .int (nI (2))), (0, .ref (b 0)), (1, .int (setAt τ n))]) hx hb dX4_nextSettings_43 rfl hl (by decide) rfl (fun ls hl => ?_)
      refine lv_iinc (v := (nI (1))) (lv' := [(3, .int (nI (1))), (2, .int (nI (sN 0 0 d1 d0))), (4, .int (nI (d2))), (0, .ref (b 0)), (1, .int (setAt τ n))]) hx hb dX4_nextSettings_44 hl (k := 2) rfl (by decide) (by decide) rfl (fun ls hl => ?_)
      refine lv_goto (tgt := 4) hx hb dX4_nextSettings_47 (by decide) ?_
      refine lv_iload_n hx hb dX4_nextSettings_4 rfl (lv_at hl 0 rfl) ?_
      refine lv_if_lt (tgt := 50) hx hb dX4_nextSettings_5 (by decide) (fun c5 => by exfalso; exact absurd c5 (by decide)) (fun c5 => ?_)
      refine lv_iload_n hx hb dX4_nextSettings_8 rfl (lv_at hl 1 rfl) ?_
      refine lv_iload_n hx hb dX4_nextSettings_9 rfl (lv_at hl 0 rfl) ?_
      refine k_i (c_S (As := [.int (nI (sN 0 0 d1 d0)), .int (nI (1))]) (rest := []) C v_X4_252 (c4_settingOf l g (nI (sN 0 0 d1 d0)) 1) ⟨Nat.le_of_ble_eq_true rfl, Nat.le_of_ble_eq_true rfl⟩ (trivial) hl.1 rfl rfl (Nat.le_of_ble_eq_true rfl) dX4_nextSettings_10 ⟨Nat.le_of_ble_eq_true rfl, Nat.le_of_ble_eq_true rfl⟩) (fun r10 q10 => ?_)
      subst q10
      refine w_topi (y := (nI (d1))) (sg_1 d1 (by omega) d0 (by omega)) ?_
      refine lv_istore (lv' := [(4, .int (nI (d1))), (3, .int (nI (1))), (2, .int (nI (sN 0 0 d1 d0))), (0, .ref (b 0)), (1, .int (setAt τ n))]) hx hb dX4_nextSettings_13 hl (by decide) rfl (fun ls hl => ?_)
      refine lv_iload hx hb dX4_nextSettings_15 (lv_at hl 0 rfl) ?_
      refine lv_iconst (v := nI 1) hx hb dX4_nextSettings_17 (by decide) ?_
      refine n_iadd C dX4_nextSettings_18 ?_
      refine lv_aload_n hx hb dX4_nextSettings_19 rfl (lv_at hl 3 rfl) ?_
      refine lv_iload_n hx hb dX4_nextSettings_20 rfl (lv_at hl 1 rfl) ?_
      refine k_i (c_V (As := [.int (nI (1))]) (rest := [.int (nI (d1 + 1))]) C v_X4_198 (c4_boundOf l g b τ hT nf fc fb d fr f1 f2 ff cad rad hB 1 (by omega)) ⟨Nat.le_of_ble_eq_true rfl, Nat.le_of_ble_eq_true rfl⟩ (q_recv C hP 0 rfl rfl) (hP) hl.1 rfl rfl (Nat.le_of_ble_eq_true rfl) dX4_nextSettings_21 ⟨Nat.le_of_ble_eq_true rfl, Nat.le_of_ble_eq_true rfl⟩) (fun r21 q21 => ?_)
      subst q21
      refine n_icmp_ge (tgt := 35) C (by omega) (by omega) dX4_nextSettings_24 (by decide) (fun c24 => ?_) (fun c24 => ?_)
      · skip
        have g1 := c24
        refine lv_iload_n hx hb dX4_nextSettings_35 rfl (lv_at hl 2 rfl) ?_
        refine lv_iload hx hb dX4_nextSettings_36 (lv_at hl 0 rfl) ?_
        refine lv_iconst (v := nI 4) hx hb dX4_nextSettings_38 (by decide) ?_
        refine lv_iload_n hx hb dX4_nextSettings_39 rfl (lv_at hl 1 rfl) ?_
        refine n_imul C dX4_nextSettings_40 ?_
        refine lv_ishl hx hb dX4_nextSettings_41 ?_
        refine lv_isub hx hb dX4_nextSettings_42 ?_
        refine w_topi (y := (nI (sN 0 0 0 d0))) (sb_1 d1 (by omega) d0 (by omega)) ?_
        refine lv_istore_n (lv' := [(2, .int (nI (sN 0 0 0 d0))), (4, .int (nI (d1))), (3, .int (nI (1))), (0, .ref (b 0)), (1, .int (setAt τ n))]) hx hb dX4_nextSettings_43 rfl hl (by decide) rfl (fun ls hl => ?_)
        refine lv_iinc (v := (nI (0))) (lv' := [(3, .int (nI (0))), (2, .int (nI (sN 0 0 0 d0))), (4, .int (nI (d1))), (0, .ref (b 0)), (1, .int (setAt τ n))]) hx hb dX4_nextSettings_44 hl (k := 2) rfl (by decide) (by decide) rfl (fun ls hl => ?_)
        refine lv_goto (tgt := 4) hx hb dX4_nextSettings_47 (by decide) ?_
        refine lv_iload_n hx hb dX4_nextSettings_4 rfl (lv_at hl 0 rfl) ?_
        refine lv_if_lt (tgt := 50) hx hb dX4_nextSettings_5 (by decide) (fun c5 => by exfalso; exact absurd c5 (by decide)) (fun c5 => ?_)
        refine lv_iload_n hx hb dX4_nextSettings_8 rfl (lv_at hl 1 rfl) ?_
        refine lv_iload_n hx hb dX4_nextSettings_9 rfl (lv_at hl 0 rfl) ?_
        refine k_i (c_S (As := [.int (nI (sN 0 0 0 d0)), .int (nI (0))]) (rest := []) C v_X4_252 (c4_settingOf l g (nI (sN 0 0 0 d0)) 0) ⟨Nat.le_of_ble_eq_true rfl, Nat.le_of_ble_eq_true rfl⟩ (trivial) hl.1 rfl rfl (Nat.le_of_ble_eq_true rfl) dX4_nextSettings_10 ⟨Nat.le_of_ble_eq_true rfl, Nat.le_of_ble_eq_true rfl⟩) (fun r10 q10 => ?_)
        subst q10
        refine w_topi (y := (nI (d0))) (sg_0 d0 (by omega)) ?_
        refine lv_istore (lv' := [(4, .int (nI (d0))), (3, .int (nI (0))), (2, .int (nI (sN 0 0 0 d0))), (0, .ref (b 0)), (1, .int (setAt τ n))]) hx hb dX4_nextSettings_13 hl (by decide) rfl (fun ls hl => ?_)
        refine lv_iload hx hb dX4_nextSettings_15 (lv_at hl 0 rfl) ?_
        refine lv_iconst (v := nI 1) hx hb dX4_nextSettings_17 (by decide) ?_
        refine n_iadd C dX4_nextSettings_18 ?_
        refine lv_aload_n hx hb dX4_nextSettings_19 rfl (lv_at hl 3 rfl) ?_
        refine lv_iload_n hx hb dX4_nextSettings_20 rfl (lv_at hl 1 rfl) ?_
        refine k_i (c_V (As := [.int (nI (0))]) (rest := [.int (nI (d0 + 1))]) C v_X4_198 (c4_boundOf l g b τ hT nf fc fb d fr f1 f2 ff cad rad hB 0 (by omega)) ⟨Nat.le_of_ble_eq_true rfl, Nat.le_of_ble_eq_true rfl⟩ (q_recv C hP 0 rfl rfl) (hP) hl.1 rfl rfl (Nat.le_of_ble_eq_true rfl) dX4_nextSettings_21 ⟨Nat.le_of_ble_eq_true rfl, Nat.le_of_ble_eq_true rfl⟩) (fun r21 q21 => ?_)
        subst q21
        refine n_icmp_ge (tgt := 35) C (by omega) (by omega) dX4_nextSettings_24 (by decide) (fun c24 => ?_) (fun c24 => ?_)
        · skip
          have g0 := c24
          refine lv_iload_n hx hb dX4_nextSettings_35 rfl (lv_at hl 2 rfl) ?_
          refine lv_iload hx hb dX4_nextSettings_36 (lv_at hl 0 rfl) ?_
          refine lv_iconst (v := nI 4) hx hb dX4_nextSettings_38 (by decide) ?_
          refine lv_iload_n hx hb dX4_nextSettings_39 rfl (lv_at hl 1 rfl) ?_
          refine n_imul C dX4_nextSettings_40 ?_
          refine lv_ishl hx hb dX4_nextSettings_41 ?_
          refine lv_isub hx hb dX4_nextSettings_42 ?_
          refine w_topi (y := (nI (0))) (sb_0 d0 (by omega)) ?_
          refine lv_istore_n (lv' := [(2, .int (nI (0))), (4, .int (nI (d0))), (3, .int (nI (0))), (0, .ref (b 0)), (1, .int (setAt τ n))]) hx hb dX4_nextSettings_43 rfl hl (by decide) rfl (fun ls hl => ?_)
          refine lv_iinc (v := (-1 : Int32)) (lv' := [(3, .int ((-1))), (2, .int (nI (0))), (4, .int (nI (d0))), (0, .ref (b 0)), (1, .int (setAt τ n))]) hx hb dX4_nextSettings_44 hl (k := 2) rfl (by decide) (by decide) rfl (fun ls hl => ?_)
          refine lv_goto (tgt := 4) hx hb dX4_nextSettings_47 (by decide) ?_
          refine lv_iload_n hx hb dX4_nextSettings_4 rfl (lv_at hl 0 rfl) ?_
          refine lv_if_lt (tgt := 50) hx hb dX4_nextSettings_5 (by decide) (fun c5 => ?_) (fun c5 => by exfalso; exact c5 (by decide))
          refine lv_iconst (v := (-1)) hx hb dX4_nextSettings_50 (by decide) ?_
          exact r_i C hr hlk (by subst e0 e1 e2 e3; exact nx_e hT hn (Nat.not_lt.mpr g3) (Nat.not_lt.mpr g2) (Nat.not_lt.mpr g1) (Nat.not_lt.mpr g0)) dX4_nextSettings_51
        · skip
          refine lv_iload_n hx hb dX4_nextSettings_27 rfl (lv_at hl 2 rfl) ?_
          refine lv_iconst (v := 1) hx hb dX4_nextSettings_28 (by decide) ?_
          refine lv_iconst (v := nI 4) hx hb dX4_nextSettings_29 (by decide) ?_
          refine lv_iload_n hx hb dX4_nextSettings_30 rfl (lv_at hl 1 rfl) ?_
          refine n_imul C dX4_nextSettings_31 ?_
          refine lv_ishl hx hb dX4_nextSettings_32 ?_
          refine lv_iadd hx hb dX4_nextSettings_33 ?_
          exact r_i C hr hlk (by have k24 := c24; rw [sa_0 d0 (by omega)]; subst e0 e1 e2 e3; exact nx_0 hT hn (Nat.not_lt.mpr g3) (Nat.not_lt.mpr g2) (Nat.not_lt.mpr g1) k24) dX4_nextSettings_34
      · skip
        refine lv_iload_n hx hb dX4_nextSettings_27 rfl (lv_at hl 2 rfl) ?_
        refine lv_iconst (v := 1) hx hb dX4_nextSettings_28 (by decide) ?_
        refine lv_iconst (v := nI 4) hx hb dX4_nextSettings_29 (by decide) ?_
        refine lv_iload_n hx hb dX4_nextSettings_30 rfl (lv_at hl 1 rfl) ?_
        refine n_imul C dX4_nextSettings_31 ?_
        refine lv_ishl hx hb dX4_nextSettings_32 ?_
        refine lv_iadd hx hb dX4_nextSettings_33 ?_
        exact r_i C hr hlk (by have k24 := c24; rw [sa_1 d1 (by omega) d0 (by omega)]; subst e0 e1 e2 e3; exact nx_1 hT hn (Nat.not_lt.mpr g3) (Nat.not_lt.mpr g2) k24) dX4_nextSettings_34
    · skip
      refine lv_iload_n hx hb dX4_nextSettings_27 rfl (lv_at hl 2 rfl) ?_
      refine lv_iconst (v := 1) hx hb dX4_nextSettings_28 (by decide) ?_
      refine lv_iconst (v := nI 4) hx hb dX4_nextSettings_29 (by decide) ?_
      refine lv_iload_n hx hb dX4_nextSettings_30 rfl (lv_at hl 1 rfl) ?_
      refine n_imul C dX4_nextSettings_31 ?_
      refine lv_ishl hx hb dX4_nextSettings_32 ?_
      refine lv_iadd hx hb dX4_nextSettings_33 ?_
      exact r_i C hr hlk (by have k24 := c24; rw [sa_2 d2 (by omega) d1 (by omega) d0 (by omega)]; subst e0 e1 e2 e3; exact nx_2 hT hn (Nat.not_lt.mpr g3) k24) dX4_nextSettings_34
  · skip
    refine lv_iload_n hx hb dX4_nextSettings_27 rfl (lv_at hl 2 rfl) ?_
    refine lv_iconst (v := 1) hx hb dX4_nextSettings_28 (by decide) ?_
    refine lv_iconst (v := nI 4) hx hb dX4_nextSettings_29 (by decide) ?_
    refine lv_iload_n hx hb dX4_nextSettings_30 rfl (lv_at hl 1 rfl) ?_
    refine n_imul C dX4_nextSettings_31 ?_
    refine lv_ishl hx hb dX4_nextSettings_32 ?_
    refine lv_iadd hx hb dX4_nextSettings_33 ?_
    exact r_i C hr hlk (by have k24 := c24; rw [sa_3 d3 (by omega) d2 (by omega) d1 (by omega) d0 (by omega)]; subst e0 e1 e2 e3; exact nx_3 hT hn  k24) dX4_nextSettings_34

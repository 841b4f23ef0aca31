/-! THE CLASS TrialBook: what is read -/
def BaseR (τ : TB) (cad rad : Nat → Nat) (fc : Nat → Option Nat) (fb d : Nat → Int32) (fr : Nat → Option Nat) (f1 f2 : Nat → Int32) : Prop := (∀ k, k < 4 → fc k = some (cad k)) ∧ (∀ i, i < 4 → fb i = nI (tBnd τ i)) ∧ (∀ i, i < 8 → d i = tDat τ i) ∧ (∀ r, r < tN τ → fr r = some (rad r)) ∧ (∀ j, j < (tClm τ).length → f1 j = nI ((tClm τ).getD j 0)) ∧ (∀ j, j < (tClm τ).length → f2 j = lastR (rRow (tRun τ ((tClm τ).getD j 0))))
def Base (g : GG) (b : Nat → Nat) (τ : TB) (cad rad : Nat → Nat) (H : Heap) : Prop := ∃ (nf : Int32) (fc : Nat → Option Nat) (fb d : Nat → Int32) (fr : Nat → Option Nat) (f1 f2 : Nat → Int32) (ff : Nat → Option Nat), BaseR τ cad rad fc fb d fr f1 f2 ∧ va_P g.1 vwCl [(b 0, .inr (4, [.ref (b 1), .ref (b 2), .ref (b 3), .ref (b 5), .int (nI (tN τ)), .ref (b 6), .ref (b 7), .int (nI ((tClm τ).length)), .ref (b 8), .int (nf)])), (b 1, aC g 4 fc), (b 2, aI g 4 fb), (b 3, .inr (3, [.ref (b 4), .int (tClk τ)])), (b 4, aI g 8 d), (b 5, aR g 40 fr), (b 6, aI g 20 f1), (b 7, aI g 20 f2), (b 8, aR g 40 ff)] H
def Froz (g : GG) (Z : Nat → Prop) (τ : TB) (cad rad : Nat → Nat) (H : Heap) : Prop := (∀ k, k < 4 → CodeAt g (tCode τ k) (cad k) H ∧ ¬ Z (cad k)) ∧ (∀ r, r < tN τ → RunF g Z (tRun τ r) (cntB τ r) (rad r) H)
def Bk (g : GG) (b : Nat → Nat) (Z : Nat → Prop) (τ : TB) (H : Heap) : Prop := ∃ (cad rad : Nat → Nat), Base g b τ cad rad H ∧ Froz g Z τ cad rad H
def rnI (τ : TB) (fr : Nat → Option Nat) (r : Int32) : Option Nat := if inR r 0 (tN τ - 1) then fr r.toNatClampNeg else none
def cdI (fc : Nat → Option Nat) (k : Int32) : Option Nat := if inR k 0 3 then fc k.toNatClampNeg else none
theorem rn_in {τ : TB} {fr : Nat → Option Nat} {r a : Nat} (hr : r < tN τ) (h40 : tN τ ≤ 40) (h : fr r = some a) : rnI τ fr (nI r) = some a := by
  rw [rnI, if_pos (inR_iff.mpr (by rw [nI_toInt (by omega)]; omega)), nI_clamp (by omega)]; exact h
theorem cd_in {fc : Nat → Option Nat} {k a : Nat} (hk : k < 4) (h : fc k = some a) : cdI fc (nI k) = some a := by
  rw [cdI, if_pos (inR_iff.mpr (by rw [nI_toInt (by omega)]; omega)), nI_clamp (by omega)]; exact h
theorem note_at {g : GG} {ρ : RunT} {cnt : Bool} {a ca na va ra : Nat} {v w : Nat → Int32} {H : Heap} (hv : RV ρ v w) (h : va_P g.1 vwCl [(a, .inr (2, [.int (nI (rCode ρ)), .ref (ca), .int (rSet ρ), .int (rSeed ρ), .int (nI (rTk ρ)), .ref (na), .ref (ra), .int (nI ((rRow ρ).length)), .int (bI (rBr ρ)), .int (bI (cnt)), .int (rOrg ρ), .int (rAt ρ)])), (ca, .inr (0, [.int (nI ((rStp ρ).length)), .long (lN (packN (rStp ρ)))])), (na, .inr (1, [.int (rRS ρ), .int (rRW ρ), .int (bI (rSd ρ)), .int (bI (rCk ρ)), .ref (va)])), (va, aI g 8 v), (ra, aI g 16 w)] H) : NoteAt g ρ na H := ⟨va, v, hv.1, h.sub [2, 3] rfl⟩
set_option maxHeartbeats 4000000 in
set_option maxRecDepth 100000 in
theorem c4_codeAt (l : Launch) (g : GG) (b : Nat → Nat) (τ : TB) (hT : TOK τ) (nf : Int32) (fc : Nat → Option Nat) (fb d : Nat → Int32) (fr : Nat → Option Nat) (f1 f2 : Nat → Int32) (ff : Nat → Option Nat) (k : Int32) : Met l yX4_codeAt (.code yX4_codeAt cX4_codeAt 2 (some (.object "TrialBook$Code")) :: wsL_law) ({ frames := 0, cells := 0, slots := 0, locals := 0 } : Room) (mP g [.ref (b 0), .int (k)] (fun H => va_P g.1 vwCl [(b 0, .inr (4, [.ref (b 1), .ref (b 2), .ref (b 3), .ref (b 5), .int (nI (tN τ)), .ref (b 6), .ref (b 7), .int (nI ((tClm τ).length)), .ref (b 8), .int (nf)])), (b 1, aC g 4 fc), (b 2, aI g 4 fb), (b 3, .inr (3, [.ref (b 4), .int (tClk τ)])), (b 4, aI g 8 d), (b 5, aR g 40 fr), (b 6, aI g 20 f1), (b 7, aI g 20 f2), (b 8, aR g 40 ff)] H)) (va_Sq (fun z => z = cdI fc k)) 0 0 ((fun _ => False)) := by
  refine mMet (by decide) (Nat.le_of_ble_eq_true rfl) ?_
  intro p e s m below meth c C hr hlk hnm hP ls hl
  have hx := C.1.1
  have hb := C.1.2.1
  have hl : lv_has ls 2 [(0, .ref (b 0)), (1, .int (k))] := hl
  have h40 := hT.2.2.1
  refine lv_iload_n hx hb dX4_codeAt_0 rfl (lv_at hl 1 rfl) ?_
  refine lv_if_lt (tgt := 22) hx hb dX4_codeAt_1 (by decide) (fun c1 => ?_) (fun c1 => ?_)
  · skip
    refine lv_null hx hb dX4_codeAt_22 ?_
    exact r_q (v := none) C hr hlk (by rw [cdI, if_neg (by rw [inR_iff]; simp only [nI_toInt (show tN τ < 2 ^ 31 by omega), nI_toInt (show 4 < 2 ^ 31 by omega), fa_lt, fa_le, fa_eq, li_0, li_1, li_2, li_3, li_4, li_5, li_6, li_7, li_8, li_12, li_15, li_16, li_20, li_30, li_40, li_100, li_1000, li_65535, li_65536, li_1000000, li_m1] at c1; omega)]) dX4_codeAt_23
  · skip
    refine lv_iload_n hx hb dX4_codeAt_4 rfl (lv_at hl 1 rfl) ?_
    refine lv_aload_n hx hb dX4_codeAt_5 rfl (lv_at hl 0 rfl) ?_
    refine q_get C f_X4_11 (hP) 0 rfl rfl dX4_codeAt_6 ?_
    refine va_alen (v := nI 4) hx hb C.2.1 (hP) 1 2 rfl rfl rfl dX4_codeAt_9 ?_
    refine lv_icmp_ge (tgt := 22) hx hb dX4_codeAt_10 (by decide) (fun c10 => ?_) (fun c10 => ?_)
    · skip
      refine lv_null hx hb dX4_codeAt_22 ?_
      exact r_q (v := none) C hr hlk (by rw [cdI, if_neg (by rw [inR_iff]; simp only [nI_toInt (show tN τ < 2 ^ 31 by omega), nI_toInt (show 4 < 2 ^ 31 by omega), fa_lt, fa_le, fa_eq, li_0, li_1, li_2, li_3, li_4, li_5, li_6, li_7, li_8, li_12, li_15, li_16, li_20, li_30, li_40, li_100, li_1000, li_65535, li_65536, li_1000000, li_m1] at c1 c10; omega)]) dX4_codeAt_23
    · skip
      obtain ⟨j, hj, rfl⟩ := ge_nI c1 c10 (by omega)
      refine lv_aload_n hx hb dX4_codeAt_13 rfl (lv_at hl 0 rfl) ?_
      refine q_get C f_X4_11 (hP) 0 rfl rfl dX4_codeAt_14 ?_
      refine lv_iload_n hx hb dX4_codeAt_17 rfl (lv_at hl 1 rfl) ?_
      refine n_cald C (hP) 1 rfl (by omega) (by decide) dX4_codeAt_18 ?_
      refine lv_goto (tgt := 23) hx hb dX4_codeAt_19 (by decide) ?_
      exact r_q (v := (fc j)) C hr hlk (by rw [cdI, if_pos (inR_iff.mpr (by rw [nI_toInt (by omega)]; omega)), nI_clamp (by omega)]) dX4_codeAt_23
set_option maxHeartbeats 4000000 in
set_option maxRecDepth 100000 in
theorem c4_runAt (l : Launch) (g : GG) (b : Nat → Nat) (τ : TB) (hT : TOK τ) (nf : Int32) (fc : Nat → Option Nat) (fb d : Nat → Int32) (fr : Nat → Option Nat) (f1 f2 : Nat → Int32) (ff : Nat → Option Nat) (r : Int32) : Met l yX4_runAt (.code yX4_runAt cX4_runAt 2 (some (.object "TrialBook$Run")) :: wsL_law) ({ frames := 0, cells := 0, slots := 0, locals := 0 } : Room) (mP g [.ref (b 0), .int (r)] (fun H => va_P g.1 vwCl [(b 0, .inr (4, [.ref (b 1), .ref (b 2), .ref (b 3), .ref (b 5), .int (nI (tN τ)), .ref (b 6), .ref (b 7), .int (nI ((tClm τ).length)), .ref (b 8), .int (nf)])), (b 1, aC g 4 fc), (b 2, aI g 4 fb), (b 3, .inr (3, [.ref (b 4), .int (tClk τ)])), (b 4, aI g 8 d), (b 5, aR g 40 fr), (b 6, aI g 20 f1), (b 7, aI g 20 f2), (b 8, aR g 40 ff)] H)) (va_Sq (fun z => z = rnI τ fr r)) 0 0 ((fun _ => False)) := by
  refine mMet (by decide) (Nat.le_of_ble_eq_true rfl) ?_
  intro p e s m below meth c C hr hlk hnm hP ls hl
  have hx := C.1.1
  have hb := C.1.2.1
  have hl : lv_has ls 2 [(0, .ref (b 0)), (1, .int (r))] := hl
  have h40 := hT.2.2.1
  refine lv_iload_n hx hb dX4_runAt_0 rfl (lv_at hl 1 rfl) ?_
  refine lv_if_lt (tgt := 30) hx hb dX4_runAt_1 (by decide) (fun c1 => ?_) (fun c1 => ?_)
  · skip
    refine lv_null hx hb dX4_runAt_30 ?_
    exact r_q (v := none) C hr hlk (by rw [rnI, if_neg (by rw [inR_iff]; simp only [nI_toInt (show tN τ < 2 ^ 31 by omega), nI_toInt (show 4 < 2 ^ 31 by omega), fa_lt, fa_le, fa_eq, li_0, li_1, li_2, li_3, li_4, li_5, li_6, li_7, li_8, li_12, li_15, li_16, li_20, li_30, li_40, li_100, li_1000, li_65535, li_65536, li_1000000, li_m1] at c1; omega)]) dX4_runAt_31
  · skip
    refine lv_iload_n hx hb dX4_runAt_4 rfl (lv_at hl 1 rfl) ?_
    refine lv_aload_n hx hb dX4_runAt_5 rfl (lv_at hl 0 rfl) ?_
    refine q_get C f_X4_144 (hP) 0 rfl rfl dX4_runAt_6 ?_
    refine lv_icmp_ge (tgt := 30) hx hb dX4_runAt_9 (by decide) (fun c9 => ?_) (fun c9 => ?_)
    · skip
      refine lv_null hx hb dX4_runAt_30 ?_
      exact r_q (v := none) C hr hlk (by rw [rnI, if_neg (by rw [inR_iff]; simp only [nI_toInt (show tN τ < 2 ^ 31 by omega), nI_toInt (show 4 < 2 ^ 31 by omega), fa_lt, fa_le, fa_eq, li_0, li_1, li_2, li_3, li_4, li_5, li_6, li_7, li_8, li_12, li_15, li_16, li_20, li_30, li_40, li_100, li_1000, li_65535, li_65536, li_1000000, li_m1] at c1 c9; omega)]) dX4_runAt_31
    · skip
      obtain ⟨j, hj, rfl⟩ := ge_nI c1 c9 (by omega)
      refine lv_iload_n hx hb dX4_runAt_12 rfl (lv_at hl 1 rfl) ?_
      refine lv_aload_n hx hb dX4_runAt_13 rfl (lv_at hl 0 rfl) ?_
      refine q_get C f_X4_28 (hP) 0 rfl rfl dX4_runAt_14 ?_
      refine va_alen (v := nI 40) hx hb C.2.1 (hP) 5 3 rfl rfl rfl dX4_runAt_17 ?_
      refine n_icmp_ge (tgt := 30) C (by omega) (by omega) dX4_runAt_18 (by decide) (fun c18 => by exfalso; omega) (fun c18 => ?_)
      refine lv_aload_n hx hb dX4_runAt_21 rfl (lv_at hl 0 rfl) ?_
      refine q_get C f_X4_28 (hP) 0 rfl rfl dX4_runAt_22 ?_
      refine lv_iload_n hx hb dX4_runAt_25 rfl (lv_at hl 1 rfl) ?_
      refine n_rald C (hP) 5 rfl (by omega) (by decide) dX4_runAt_26 ?_
      refine lv_goto (tgt := 31) hx hb dX4_runAt_27 (by decide) ?_
      exact r_q (v := (fr j)) C hr hlk (by rw [rnI, if_pos (inR_iff.mpr (by rw [nI_toInt (by omega)]; omega)), nI_clamp (by omega)]) dX4_runAt_31
set_option maxHeartbeats 4000000 in
set_option maxRecDepth 100000 in
theorem c4_boundOf (l : Launch) (g : GG) (b : Nat → Nat) (τ : TB) (hT : TOK τ) (nf : Int32) (fc : Nat → Option Nat) (fb d : Nat → Int32) (fr : Nat → Option Nat) (f1 f2 : Nat → Int32) (ff : Nat → Option Nat) (cad rad : Nat → Nat) (hB : BaseR τ cad rad fc fb d fr f1 f2) (i : Nat) (hi : i < 4) : Met l yX4_boundOf (.code yX4_boundOf cX4_boundOf 2 (some .int) :: wsL_law) ({ frames := 0, cells := 0, slots := 0, locals := 0 } : Room) (mP g [.ref (b 0), .int (nI (i))] (fun H => va_P g.1 vwCl [(b 0, .inr (4, [.ref (b 1), .ref (b 2), .ref (b 3), .ref (b 5), .int (nI (tN τ)), .ref (b 6), .ref (b 7), .int (nI ((tClm τ).length)), .ref (b 8), .int (nf)])), (b 1, aC g 4 fc), (b 2, aI g 4 fb), (b 3, .inr (3, [.ref (b 4), .int (tClk τ)])), (b 4, aI g 8 d), (b 5, aR g 40 fr), (b 6, aI g 20 f1), (b 7, aI g 20 f2), (b 8, aR g 40 ff)] H)) (vp_Si (fun z => z = nI (tBnd τ i))) 0 0 ((fun _ => False)) := by
  refine mMet (by decide) (Nat.le_of_ble_eq_true rfl) ?_
  intro p e s m below meth c C hr hlk hnm hP ls hl
  have hx := C.1.1
  have hb := C.1.2.1
  have hl : lv_has ls 2 [(0, .ref (b 0)), (1, .int (nI (i)))] := hl
  have h40 := hT.2.2.1
  refine lv_iload_n hx hb dX4_boundOf_0 rfl (lv_at hl 1 rfl) ?_
  refine lv_if_lt (tgt := 22) hx hb dX4_boundOf_1 (by decide) (fun c1 => by exfalso; exact absurd c1 (nI_pos (by omega))) (fun c1 => ?_)
  refine lv_iload_n hx hb dX4_boundOf_4 rfl (lv_at hl 1 rfl) ?_
  refine lv_aload_n hx hb dX4_boundOf_5 rfl (lv_at hl 0 rfl) ?_
  refine q_get C f_X4_15 (hP) 0 rfl rfl dX4_boundOf_6 ?_
  refine va_alen (v := nI 4) hx hb C.2.1 (hP) 2 0 rfl rfl rfl dX4_boundOf_9 ?_
  refine n_icmp_ge (tgt := 22) C (by omega) (by omega) dX4_boundOf_10 (by decide) (fun c10 => by exfalso; omega) (fun c10 => ?_)
  refine lv_aload_n hx hb dX4_boundOf_13 rfl (lv_at hl 0 rfl) ?_
  refine q_get C f_X4_15 (hP) 0 rfl rfl dX4_boundOf_14 ?_
  refine lv_iload_n hx hb dX4_boundOf_17 rfl (lv_at hl 1 rfl) ?_
  refine n_iald C (hP) 2 rfl (by omega) (by decide) dX4_boundOf_18 ?_
  refine lv_goto (tgt := 23) hx hb dX4_boundOf_19 (by decide) ?_
  exact r_i C hr hlk (hB.2.1 i hi) dX4_boundOf_23
set_option maxHeartbeats 4000000 in
set_option maxRecDepth 100000 in
theorem c4_isStale (l : Launch) (g : GG) (b : Nat → Nat) (Z : Nat → Prop) (τ : TB) (hT : TOK τ) (a j : Nat) (hj : j < tN τ) : Met l yX4_isStale (.code yX4_isStale cX4_isStale 2 (some .boolean) :: wsL_law) ({ frames := 2, cells := 0, slots := 0, locals := 44 } : Room) (mP g [.ref (b 0), .ref (a)] (fun H => Bk g b Z τ H ∧ RunAt g (tRun τ j) (cntB τ j) a H)) (vp_Si (fun z => z = bI (staleB τ (tRun τ j)))) 0 0 ((fun _ => False)) := by
  refine mMet (by decide) (Nat.le_of_ble_eq_true rfl) ?_
  intro p e s m below meth c C hr hlk hnm hP ls hl
  have hx := C.1.1
  have hb := C.1.2.1
  have hl : lv_has ls 2 [(0, .ref (b 0)), (1, .ref (a))] := hl
  obtain ⟨hP, hRA⟩ := hP
  have hBk := hP
  obtain ⟨cad, rad, ⟨nf, fc, fb, d, fr, f1, f2, ff, hB, hP⟩, hF⟩ := hP
  have hW : WorldAt g (tDat τ) (tClk τ) (b 3) s.heap := ⟨b 4, d, hB.2.2.1, hP.sub [3, 4] rfl⟩
  obtain ⟨ca, na, va, ra, vv, ww, hv, hPr⟩ := id hRA
  have hNA := note_at hv hPr
  have hO := hT.2.2.2.1 j hj
  have h40 := hT.2.2.1
  refine lv_aload_n hx hb dX4_isStale_0 rfl (lv_at hl 1 rfl) ?_
  refine lv_ifnonnull (tgt := 6) hx hb dX4_isStale_1 (by decide) ?_
  refine lv_aload_n hx hb dX4_isStale_6 rfl (lv_at hl 1 rfl) ?_
  refine q_get C f_X4_84 (hPr) 0 rfl rfl dX4_isStale_7 ?_
  refine lv_aload_n hx hb dX4_isStale_10 rfl (lv_at hl 0 rfl) ?_
  refine lv_aload_n hx hb dX4_isStale_11 rfl (lv_at hl 1 rfl) ?_
  refine q_get C f_X4_81 (hPr) 0 rfl rfl dX4_isStale_12 ?_
  refine k_q (c_V (As := [.int (nI (rCode (tRun τ j)))]) (rest := [.ref (ca)]) C v_X4_48 (c4_codeAt l g b τ hT nf fc fb d fr f1 f2 ff (nI (rCode (tRun τ j)))) ⟨Nat.le_of_ble_eq_true rfl, Nat.le_of_ble_eq_true rfl⟩ (q_recv C hP 0 rfl rfl) (hP) hl.1 rfl rfl (Nat.le_of_ble_eq_true rfl) dX4_isStale_15 ⟨Nat.le_of_ble_eq_true rfl, Nat.le_of_ble_eq_true rfl⟩) (fun r15 q15 => ?_)
  obtain rfl : r15 = some (cad (rCode (tRun τ j))) := q15.trans (cd_in hO.1 (hB.1 _ hO.1))
  refine W.eq (g2 := F0 m 18 ls [.ref (cad (rCode (tRun τ j))), .ref (ca)]) rfl ?_
  refine k_i (c_V (As := [.ref (cad (rCode (tRun τ j)))]) (rest := []) C v_X4_246 (c0_isLike l g ca (cad (rCode (tRun τ j))) (rStp (tRun τ j)) (tCode τ (rCode (tRun τ j))) hO.2.2.1 (hT.1 _ hO.1).2 hO.2.1 (hT.1 _ hO.1).1) ⟨Nat.le_of_ble_eq_true rfl, Nat.le_of_ble_eq_true rfl⟩ (q_recv C hPr 1 rfl rfl) (⟨hPr.sub [1] rfl, (hF.1 _ hO.1).1⟩) hl.1 rfl rfl (Nat.le_of_ble_eq_true rfl) dX4_isStale_18 ⟨Nat.le_of_ble_eq_true rfl, Nat.le_of_ble_eq_true rfl⟩) (fun r18 q18 => ?_)
  subst q18
  refine b_ifeq (tgt := 38) C dX4_isStale_21 (by decide) (fun c21 => ?_) (fun c21 => ?_)
  · skip
    refine lv_iconst (v := 1) hx hb dX4_isStale_38 (by decide) ?_
    refine lv_goto (tgt := 43) hx hb dX4_isStale_39 (by decide) ?_
    exact r_z C hr hlk (by first | exact Or.inl rfl | exact Or.inr rfl | exact bI_or _) (bit1 (by simp only [decide_eq_true_eq, decide_eq_false_iff_not] at c21; rw [stale_e]; simp [c21])) dX4_isStale_43
  · skip
    refine lv_aload_n hx hb dX4_isStale_24 rfl (lv_at hl 1 rfl) ?_
    refine q_get C f_X4_99 (hPr) 0 rfl rfl dX4_isStale_25 ?_
    refine lv_aload_n hx hb dX4_isStale_28 rfl (lv_at hl 0 rfl) ?_
    refine q_get C f_X4_22 (hP) 0 rfl rfl dX4_isStale_29 ?_
    refine k_i (c_V (As := [.ref (b 3)]) (rest := []) C v_X4_158 (c1_changedWords l g na (b 3) (tRun τ j) (tDat τ) (tClk τ)) ⟨Nat.le_of_ble_eq_true rfl, Nat.le_of_ble_eq_true rfl⟩ (q_recv C hPr 2 rfl rfl) (⟨hNA, hW⟩) hl.1 rfl rfl (Nat.le_of_ble_eq_true rfl) dX4_isStale_32 ⟨Nat.le_of_ble_eq_true rfl, Nat.le_of_ble_eq_true rfl⟩) (fun r32 q32 => ?_)
    subst q32
    refine lv_if_eq (tgt := 42) hx hb dX4_isStale_35 (by decide) (fun c35 => ?_) (fun c35 => ?_)
    · skip
      refine lv_iconst (v := 0) hx hb dX4_isStale_42 (by decide) ?_
      exact r_z C hr hlk (by first | exact Or.inl rfl | exact Or.inr rfl | exact bI_or _) (bif0 (by simp only [decide_eq_true_eq, decide_eq_false_iff_not] at c21; rw [stale_e]; simp [c21, c35])) dX4_isStale_43
    · skip
      refine lv_iconst (v := 1) hx hb dX4_isStale_38 (by decide) ?_
      refine lv_goto (tgt := 43) hx hb dX4_isStale_39 (by decide) ?_
      exact r_z C hr hlk (by first | exact Or.inl rfl | exact Or.inr rfl | exact bI_or _) (bit1 (by simp only [decide_eq_true_eq, decide_eq_false_iff_not] at c21; rw [stale_e]; simp [c21, c35])) dX4_isStale_43
theorem of_row {ρ : RunT} {w : Int32} (c : ¬ w < 100) (h16 : (rRow ρ).length ≤ 16) : rowI ρ (w - 100) = if 100 ≤ w.toInt ∧ w.toInt - 100 < ((rRow ρ).length : Int) then (rRow ρ).getD (w.toInt - 100).toNat 0 else -1 := by
  simp only [fa_lt, li_100] at c
  have wr := fb_rng w
  rw [rowI, fb_subI (by rw [li_100]; omega) (by rw [li_100]; omega), li_100]
  by_cases h : w.toInt - 100 < ((rRow ρ).length : Int)
  · rw [if_pos ⟨by omega, h⟩, if_pos ⟨by omega, h⟩]
  · rw [if_neg (fun q => h q.2), if_neg (fun q => h q.2)]
set_option maxHeartbeats 4000000 in
set_option maxRecDepth 100000 in
theorem c4_of (l : Launch) (g : GG) (b : Nat → Nat) (Z : Nat → Prop) (τ : TB) (hT : TOK τ) (r wh : Int32) : Met l yX4_of (.code yX4_of cX4_of 4 (some .int) :: wsL_law) ({ frames := 3, cells := 0, slots := 0, locals := 65 } : Room) (mP g [.ref (b 0), .int (r), .int (wh)] (Bk g b Z τ)) (vp_Si (fun z => z = ofT τ r wh)) 0 0 ((fun _ => False)) := by
  refine mMet (by decide) (Nat.le_of_ble_eq_true rfl) ?_
  intro p e s m below meth c C hr hlk hnm hP ls hl
  have hx := C.1.1
  have hb := C.1.2.1
  have hl : lv_has ls 4 [(0, .ref (b 0)), (1, .int (r)), (2, .int (wh))] := hl
  have hBk := hP
  obtain ⟨cad, rad, ⟨nf, fc, fb, d, fr, f1, f2, ff, hB, hP⟩, hF⟩ := hP
  have hW : WorldAt g (tDat τ) (tClk τ) (b 3) s.heap := ⟨b 4, d, hB.2.2.1, hP.sub [3, 4] rfl⟩
  have h40 := hT.2.2.1
  refine lv_aload_n hx hb dX4_of_0 rfl (lv_at hl 0 rfl) ?_
  refine lv_iload_n hx hb dX4_of_1 rfl (lv_at hl 1 rfl) ?_
  refine k_q (c_V (As := [.int (r)]) (rest := []) C v_X4_69 (c4_runAt l g b τ hT nf fc fb d fr f1 f2 ff (r)) ⟨Nat.le_of_ble_eq_true rfl, Nat.le_of_ble_eq_true rfl⟩ (q_recv C hP 0 rfl rfl) (hP) hl.1 rfl rfl (Nat.le_of_ble_eq_true rfl) dX4_of_2 ⟨Nat.le_of_ble_eq_true rfl, Nat.le_of_ble_eq_true rfl⟩) (fun r2 q2 => ?_)
  by_cases h2 : inR r 0 (tN τ - 1) = true
  · skip
    obtain ⟨j, hj, rfl⟩ := isRun_nI h2 h40
    obtain rfl : r2 = some (rad j) := q2.trans (rn_in hj h40 (hB.2.2.2.1 _ hj))
    refine W.eq (g2 := F0 m 5 ls [.ref (rad j)]) rfl ?_
    have hRA := (hF.2 j hj).run
    obtain ⟨ca, na, va, ra, vv, ww, hv, hPr⟩ := id hRA
    have hNA := note_at hv hPr
    have hO := hT.2.2.2.1 j hj
    have h16 := Nat.le_trans hO.2.2.2.2.2.2.2.1 hO.2.2.2.2.2.2.1
    have ecl : (nI j).toNatClampNeg = j := nI_clamp (by omega)
    refine lv_astore_n (lv' := [(3, .ref (rad j)), (0, .ref (b 0)), (1, .int (nI (j))), (2, .int (wh))]) hx hb dX4_of_5 rfl hl (by decide) rfl (fun ls hl => ?_)
    refine lv_aload_n hx hb dX4_of_6 rfl (lv_at hl 0 rfl) ?_
    refine lv_ifnonnull (tgt := 12) hx hb dX4_of_7 (by decide) ?_
    refine lv_iload_n hx hb dX4_of_12 rfl (lv_at hl 3 rfl) ?_
    refine lv_bipush (v := 100) hx hb dX4_of_13 (by decide) ?_
    refine lv_icmp_lt (tgt := 27) hx hb dX4_of_15 (by decide) (fun c15 => ?_) (fun c15 => ?_)
    · skip
      refine lv_iload_n hx hb dX4_of_27 rfl (lv_at hl 3 rfl) ?_
      by_cases k28_0 : (wh) = 0
      · skip
        refine n_tabIn (tgt := 96) (off := 68) C (0) (k28_0) dX4_of_28 (by decide) (by decide) (by decide) (by decide) ?_
        refine lv_aload_n hx hb dX4_of_96 rfl (lv_at hl 0 rfl) ?_
        refine q_get C f_X4_81 (hPr) 0 rfl rfl dX4_of_97 ?_
        exact r_i C hr hlk (by rw [ofT, if_pos h2, ecl, ofR, if_pos k28_0]) dX4_of_100
      by_cases k28_1 : (wh) = 1
      · skip
        refine n_tabIn (tgt := 101) (off := 73) C (1) (k28_1) dX4_of_28 (by decide) (by decide) (by decide) (by decide) ?_
        refine lv_aload_n hx hb dX4_of_101 rfl (lv_at hl 0 rfl) ?_
        refine q_get C f_X4_113 (hPr) 0 rfl rfl dX4_of_102 ?_
        exact r_i C hr hlk (by rw [ofT, if_pos h2, ecl, ofR, if_neg k28_0, if_pos k28_1]) dX4_of_105
      by_cases k28_2 : (wh) = 2
      · skip
        refine n_tabIn (tgt := 106) (off := 78) C (2) (k28_2) dX4_of_28 (by decide) (by decide) (by decide) (by decide) ?_
        refine lv_aload_n hx hb dX4_of_106 rfl (lv_at hl 0 rfl) ?_
        refine q_get C f_X4_116 (hPr) 0 rfl rfl dX4_of_107 ?_
        exact r_i C hr hlk (by rw [ofT, if_pos h2, ecl, ofR, if_neg k28_0, if_neg k28_1, if_pos k28_2]) dX4_of_110
      by_cases k28_3 : (wh) = 3
      · skip
        refine n_tabIn (tgt := 111) (off := 83) C (3) (k28_3) dX4_of_28 (by decide) (by decide) (by decide) (by decide) ?_
        refine lv_aload_n hx hb dX4_of_111 rfl (lv_at hl 0 rfl) ?_
        refine q_get C f_X4_88 (hPr) 0 rfl rfl dX4_of_112 ?_
        exact r_i C hr hlk (by rw [ofT, if_pos h2, ecl, ofR, if_neg k28_0, if_neg k28_1, if_neg k28_2, if_pos k28_3]) dX4_of_115
      by_cases k28_4 : (wh) = 4
      · skip
        refine n_tabIn (tgt := 116) (off := 88) C (4) (k28_4) dX4_of_28 (by decide) (by decide) (by decide) (by decide) ?_
        refine lv_aload_n hx hb dX4_of_116 rfl (lv_at hl 0 rfl) ?_
        refine q_get C f_X4_77 (hPr) 0 rfl rfl dX4_of_117 ?_
        exact r_i C hr hlk (by rw [ofT, if_pos h2, ecl, ofR, if_neg k28_0, if_neg k28_1, if_neg k28_2, if_neg k28_3, if_pos k28_4]) dX4_of_120
      by_cases k28_5 : (wh) = 5
      · skip
        refine n_tabIn (tgt := 121) (off := 93) C (5) (k28_5) dX4_of_28 (by decide) (by decide) (by decide) (by decide) ?_
        refine lv_aload_n hx hb dX4_of_121 rfl (lv_at hl 0 rfl) ?_
        refine q_get C f_X4_73 (hPr) 0 rfl rfl dX4_of_122 ?_
        refine k_i (c_S (As := [.int (bI (rBr (tRun τ j)))]) (rest := []) C v_X4_119 (c4_asNumber l g (rBr (tRun τ j))) ⟨Nat.le_of_ble_eq_true rfl, Nat.le_of_ble_eq_true rfl⟩ (trivial) hl.1 rfl rfl (Nat.le_of_ble_eq_true rfl) dX4_of_125 ⟨Nat.le_of_ble_eq_true rfl, Nat.le_of_ble_eq_true rfl⟩) (fun r125 q125 => ?_)
        subst q125
        exact r_i C hr hlk (by rw [ofT, if_pos h2, ecl, ofR, if_neg k28_0, if_neg k28_1, if_neg k28_2, if_neg k28_3, if_neg k28_4, if_pos k28_5]) dX4_of_128
      by_cases k28_6 : (wh) = 6
      · skip
        refine n_tabIn (tgt := 129) (off := 101) C (6) (k28_6) dX4_of_28 (by decide) (by decide) (by decide) (by decide) ?_
        refine lv_aload_n hx hb dX4_of_129 rfl (lv_at hl 0 rfl) ?_
        refine q_get C f_X4_123 (hPr) 0 rfl rfl dX4_of_130 ?_
        exact r_i C hr hlk (by rw [ofT, if_pos h2, ecl, ofR, if_neg k28_0, if_neg k28_1, if_neg k28_2, if_neg k28_3, if_neg k28_4, if_neg k28_5, if_pos k28_6]) dX4_of_133
      by_cases k28_7 : (wh) = 7
      · skip
        refine n_tabIn (tgt := 134) (off := 106) C (7) (k28_7) dX4_of_28 (by decide) (by decide) (by decide) (by decide) ?_
        refine lv_aload_n hx hb dX4_of_134 rfl (lv_at hl 0 rfl) ?_
        refine q_get C f_X4_126 (hPr) 0 rfl rfl dX4_of_135 ?_
        exact r_i C hr hlk (by rw [ofT, if_pos h2, ecl, ofR, if_neg k28_0, if_neg k28_1, if_neg k28_2, if_neg k28_3, if_neg k28_4, if_neg k28_5, if_neg k28_6, if_pos k28_7]) dX4_of_138
      by_cases k28_8 : (wh) = 8
      · skip
        refine n_tabIn (tgt := 139) (off := 111) C (8) (k28_8) dX4_of_28 (by decide) (by decide) (by decide) (by decide) ?_
        refine lv_aload_n hx hb dX4_of_139 rfl (lv_at hl 0 rfl) ?_
        refine q_get C f_X4_99 (hPr) 0 rfl rfl dX4_of_140 ?_
        refine q_get C f_X4_129 (hPr) 2 rfl rfl dX4_of_143 ?_
        exact r_i C hr hlk (by rw [ofT, if_pos h2, ecl, ofR, if_neg k28_0, if_neg k28_1, if_neg k28_2, if_neg k28_3, if_neg k28_4, if_neg k28_5, if_neg k28_6, if_neg k28_7, if_pos k28_8]) dX4_of_146
      by_cases k28_9 : (wh) = 9
      · skip
        refine n_tabIn (tgt := 147) (off := 119) C (9) (k28_9) dX4_of_28 (by decide) (by decide) (by decide) (by decide) ?_
        refine lv_aload_n hx hb dX4_of_147 rfl (lv_at hl 0 rfl) ?_
        refine q_get C f_X4_99 (hPr) 0 rfl rfl dX4_of_148 ?_
        refine q_get C f_X4_130 (hPr) 2 rfl rfl dX4_of_151 ?_
        exact r_i C hr hlk (by rw [ofT, if_pos h2, ecl, ofR, if_neg k28_0, if_neg k28_1, if_neg k28_2, if_neg k28_3, if_neg k28_4, if_neg k28_5, if_neg k28_6, if_neg k28_7, if_neg k28_8, if_pos k28_9]) dX4_of_154
      by_cases k28_10 : (wh) = 10
      · skip
        refine n_tabIn (tgt := 155) (off := 127) C (10) (k28_10) dX4_of_28 (by decide) (by decide) (by decide) (by decide) ?_
        refine lv_aload_n hx hb dX4_of_155 rfl (lv_at hl 0 rfl) ?_
        refine q_get C f_X4_99 (hPr) 0 rfl rfl dX4_of_156 ?_
        refine q_get C f_X4_133 (hPr) 2 rfl rfl dX4_of_159 ?_
        refine k_i (c_S (As := [.int (bI (rSd (tRun τ j)))]) (rest := []) C v_X4_119 (c4_asNumber l g (rSd (tRun τ j))) ⟨Nat.le_of_ble_eq_true rfl, Nat.le_of_ble_eq_true rfl⟩ (trivial) hl.1 rfl rfl (Nat.le_of_ble_eq_true rfl) dX4_of_162 ⟨Nat.le_of_ble_eq_true rfl, Nat.le_of_ble_eq_true rfl⟩) (fun r162 q162 => ?_)
        subst q162
        exact r_i C hr hlk (by rw [ofT, if_pos h2, ecl, ofR, if_neg k28_0, if_neg k28_1, if_neg k28_2, if_neg k28_3, if_neg k28_4, if_neg k28_5, if_neg k28_6, if_neg k28_7, if_neg k28_8, if_neg k28_9, if_pos k28_10]) dX4_of_165
      by_cases k28_11 : (wh) = 11
      · skip
        refine n_tabIn (tgt := 166) (off := 138) C (11) (k28_11) dX4_of_28 (by decide) (by decide) (by decide) (by decide) ?_
        refine lv_aload_n hx hb dX4_of_166 rfl (lv_at hl 0 rfl) ?_
        refine q_get C f_X4_99 (hPr) 0 rfl rfl dX4_of_167 ?_
        refine q_get C f_X4_135 (hPr) 2 rfl rfl dX4_of_170 ?_
        refine k_i (c_S (As := [.int (bI (rCk (tRun τ j)))]) (rest := []) C v_X4_119 (c4_asNumber l g (rCk (tRun τ j))) ⟨Nat.le_of_ble_eq_true rfl, Nat.le_of_ble_eq_true rfl⟩ (trivial) hl.1 rfl rfl (Nat.le_of_ble_eq_true rfl) dX4_of_173 ⟨Nat.le_of_ble_eq_true rfl, Nat.le_of_ble_eq_true rfl⟩) (fun r173 q173 => ?_)
        subst q173
        exact r_i C hr hlk (by rw [ofT, if_pos h2, ecl, ofR, if_neg k28_0, if_neg k28_1, if_neg k28_2, if_neg k28_3, if_neg k28_4, if_neg k28_5, if_neg k28_6, if_neg k28_7, if_neg k28_8, if_neg k28_9, if_neg k28_10, if_pos k28_11]) dX4_of_176
      by_cases k28_12 : (wh) = 12
      · skip
        refine n_tabIn (tgt := 177) (off := 149) C (12) (k28_12) dX4_of_28 (by decide) (by decide) (by decide) (by decide) ?_
        refine lv_aload_n hx hb dX4_of_177 rfl (lv_at hl 1 rfl) ?_
        refine lv_aload_n hx hb dX4_of_178 rfl (lv_at hl 0 rfl) ?_
        refine k_i (c_V (As := [.ref (rad j)]) (rest := []) C v_X4_138 (c4_isStale l g b Z τ hT (rad j) j (hj)) ⟨Nat.le_of_ble_eq_true rfl, Nat.le_of_ble_eq_true rfl⟩ (q_recv C hP 0 rfl rfl) (⟨hBk, hRA⟩) hl.1 rfl rfl (Nat.le_of_ble_eq_true rfl) dX4_of_179 ⟨Nat.le_of_ble_eq_true rfl, Nat.le_of_ble_eq_true rfl⟩) (fun r179 q179 => ?_)
        subst q179
        refine k_i (c_S (As := [.int (bI (staleB τ (tRun τ j)))]) (rest := []) C v_X4_119 (c4_asNumber l g (staleB τ (tRun τ j))) ⟨Nat.le_of_ble_eq_true rfl, Nat.le_of_ble_eq_true rfl⟩ (trivial) hl.1 rfl rfl (Nat.le_of_ble_eq_true rfl) dX4_of_182 ⟨Nat.le_of_ble_eq_true rfl, Nat.le_of_ble_eq_true rfl⟩) (fun r182 q182 => ?_)
        subst q182
        exact r_i C hr hlk (by rw [ofT, if_pos h2, ecl, ofR, if_neg k28_0, if_neg k28_1, if_neg k28_2, if_neg k28_3, if_neg k28_4, if_neg k28_5, if_neg k28_6, if_neg k28_7, if_neg k28_8, if_neg k28_9, if_neg k28_10, if_neg k28_11, if_pos k28_12]) dX4_of_185
      refine n_tabOut (tgt := 186) C dX4_of_28 (by rcases Int.lt_or_le wh.toInt 0 with hz | hz; exact Or.inl hz; refine Or.inr (Int.not_le.mp (fun hz2 => ?_)); have e13 : wh.toInt = 0 ∨ wh.toInt = 1 ∨ wh.toInt = 2 ∨ wh.toInt = 3 ∨ wh.toInt = 4 ∨ wh.toInt = 5 ∨ wh.toInt = 6 ∨ wh.toInt = 7 ∨ wh.toInt = 8 ∨ wh.toInt = 9 ∨ wh.toInt = 10 ∨ wh.toInt = 11 ∨ wh.toInt = 12 := (by omega); rcases e13 with e | e | e | e | e | e | e | e | e | e | e | e | e; exact k28_0 ((fa_eq _ _).mpr (by rw [e]; decide)); exact k28_1 ((fa_eq _ _).mpr (by rw [e]; decide)); exact k28_2 ((fa_eq _ _).mpr (by rw [e]; decide)); exact k28_3 ((fa_eq _ _).mpr (by rw [e]; decide)); exact k28_4 ((fa_eq _ _).mpr (by rw [e]; decide)); exact k28_5 ((fa_eq _ _).mpr (by rw [e]; decide)); exact k28_6 ((fa_eq _ _).mpr (by rw [e]; decide)); exact k28_7 ((fa_eq _ _).mpr (by rw [e]; decide)); exact k28_8 ((fa_eq _ _).mpr (by rw [e]; decide)); exact k28_9 ((fa_eq _ _).mpr (by rw [e]; decide)); exact k28_10 ((fa_eq _ _).mpr (by rw [e]; decide)); exact k28_11 ((fa_eq _ _).mpr (by rw [e]; decide)); exact k28_12 ((fa_eq _ _).mpr (by rw [e]; decide))) (by decide) ?_
      refine lv_iconst (v := (-1)) hx hb dX4_of_186 (by decide) ?_
      exact r_i C hr hlk (by rw [ofT, if_pos h2, ecl, ofR, if_neg k28_0, if_neg k28_1, if_neg k28_2, if_neg k28_3, if_neg k28_4, if_neg k28_5, if_neg k28_6, if_neg k28_7, if_neg k28_8, if_neg k28_9, if_neg k28_10, if_neg k28_11, if_neg k28_12, if_neg (by simp only [fa_lt, li_100] at c15; omega)]) dX4_of_187
    · skip
      refine lv_aload_n hx hb dX4_of_18 rfl (lv_at hl 0 rfl) ?_
      refine lv_iload_n hx hb dX4_of_19 rfl (lv_at hl 3 rfl) ?_
      refine lv_bipush (v := 100) hx hb dX4_of_20 (by decide) ?_
      refine lv_isub hx hb dX4_of_22 ?_
      refine k_i (c_V (As := [.int ((wh) - (100 : Int32))]) (rest := []) C v_X4_109 (c2_rowAt l g (rad j) (tRun τ j) (cntB τ j) h16 (((wh) - (100 : Int32)))) ⟨Nat.le_of_ble_eq_true rfl, Nat.le_of_ble_eq_true rfl⟩ (q_recv C hPr 0 rfl rfl) (hRA) hl.1 rfl rfl (Nat.le_of_ble_eq_true rfl) dX4_of_23 ⟨Nat.le_of_ble_eq_true rfl, Nat.le_of_ble_eq_true rfl⟩) (fun r23 q23 => ?_)
      subst q23
      exact r_i C hr hlk (by rw [ofT, if_pos h2, ecl, ofR, if_neg (fun e => c15 (by rw [e]; decide)), if_neg (fun e => c15 (by rw [e]; decide)), if_neg (fun e => c15 (by rw [e]; decide)), if_neg (fun e => c15 (by rw [e]; decide)), if_neg (fun e => c15 (by rw [e]; decide)), if_neg (fun e => c15 (by rw [e]; decide)), if_neg (fun e => c15 (by rw [e]; decide)), if_neg (fun e => c15 (by rw [e]; decide)), if_neg (fun e => c15 (by rw [e]; decide)), if_neg (fun e => c15 (by rw [e]; decide)), if_neg (fun e => c15 (by rw [e]; decide)), if_neg (fun e => c15 (by rw [e]; decide)), if_neg (fun e => c15 (by rw [e]; decide))]; exact of_row c15 h16) dX4_of_26
  · skip
    obtain rfl : r2 = none := q2.trans (if_neg h2)
    refine W.eq (g2 := F0 m 5 ls [.null]) rfl ?_
    refine lv_astore_nN (lv' := [(3, .null), (0, .ref (b 0)), (1, .int (r)), (2, .int (wh))]) hx hb dX4_of_5 rfl hl (by decide) rfl (fun ls hl => ?_)
    refine lv_aload_nN hx hb dX4_of_6 rfl (lv_at hl 0 rfl) ?_
    refine lv_ifnonnullN hx hb dX4_of_7 ?_
    refine lv_iconst (v := (-1)) hx hb dX4_of_10 (by decide) ?_
    exact r_i C hr hlk (by rw [ofT, if_neg h2]) dX4_of_11
set_option maxHeartbeats 4000000 in
set_option maxRecDepth 100000 in
theorem c4_clock (l : Launch) (g : GG) (b : Nat → Nat) (Z : Nat → Prop) (τ : TB) (hT : TOK τ)  : Met l yX4_clock (.code yX4_clock cX4_clock 1 (some .int) :: wsL_law) ({ frames := 0, cells := 0, slots := 0, locals := 0 } : Room) (mP g [.ref (b 0)] (Bk g b Z τ)) (vp_Si (fun z => z = tClk τ)) 0 0 ((fun _ => False)) := by
  refine mMet (by decide) (Nat.le_of_ble_eq_true rfl) ?_
  intro p e s m below meth c C hr hlk hnm hP ls hl
  have hx := C.1.1
  have hb := C.1.2.1
  have hl : lv_has ls 1 [(0, .ref (b 0))] := hl
  have hBk := hP
  obtain ⟨cad, rad, ⟨nf, fc, fb, d, fr, f1, f2, ff, hB, hP⟩, hF⟩ := hP
  have hW : WorldAt g (tDat τ) (tClk τ) (b 3) s.heap := ⟨b 4, d, hB.2.2.1, hP.sub [3, 4] rfl⟩
  have h40 := hT.2.2.1
  refine lv_aload_n hx hb dX4_clock_0 rfl (lv_at hl 0 rfl) ?_
  refine q_get C f_X4_22 (hP) 0 rfl rfl dX4_clock_1 ?_
  refine q_get C f_X4_142 (hP) 3 rfl rfl dX4_clock_4 ?_
  exact r_i C hr hlk (rfl) dX4_clock_7
set_option maxHeartbeats 4000000 in
set_option maxRecDepth 100000 in
theorem c4_runs (l : Launch) (g : GG) (b : Nat → Nat) (Z : Nat → Prop) (τ : TB) (hT : TOK τ)  : Met l yX4_runs (.code yX4_runs cX4_runs 1 (some .int) :: wsL_law) ({ frames := 0, cells := 0, slots := 0, locals := 0 } : Room) (mP g [.ref (b 0)] (Bk g b Z τ)) (vp_Si (fun z => z = nI (tN τ))) 0 0 ((fun _ => False)) := by
  refine mMet (by decide) (Nat.le_of_ble_eq_true rfl) ?_
  intro p e s m below meth c C hr hlk hnm hP ls hl
  have hx := C.1.1
  have hb := C.1.2.1
  have hl : lv_has ls 1 [(0, .ref (b 0))] := hl
  have hBk := hP
  obtain ⟨cad, rad, ⟨nf, fc, fb, d, fr, f1, f2, ff, hB, hP⟩, hF⟩ := hP
  have hW : WorldAt g (tDat τ) (tClk τ) (b 3) s.heap := ⟨b 4, d, hB.2.2.1, hP.sub [3, 4] rfl⟩
  have h40 := hT.2.2.1
  refine lv_aload_n hx hb dX4_runs_0 rfl (lv_at hl 0 rfl) ?_
  refine q_get C f_X4_144 (hP) 0 rfl rfl dX4_runs_1 ?_
  exact r_i C hr hlk (rfl) dX4_runs_4
set_option maxHeartbeats 4000000 in
set_option maxRecDepth 100000 in
theorem c4_loose (l : Launch) (g : GG) (b : Nat → Nat) (Z : Nat → Prop) (τ : TB) (hT : TOK τ) (r : Int32) : Met l yX4_loose (.code yX4_loose cX4_loose 3 (some .int) :: wsL_law) ({ frames := 2, cells := 0, slots := 0, locals := 44 } : Room) (mP g [.ref (b 0), .int (r)] (Bk g b Z τ)) (vp_Si (fun z => z = looseT τ r)) 0 0 ((fun _ => False)) := by
  refine mMet (by decide) (Nat.le_of_ble_eq_true rfl) ?_
  intro p e s m below meth c C hr hlk hnm hP ls hl
  have hx := C.1.1
  have hb := C.1.2.1
  have hl : lv_has ls 3 [(0, .ref (b 0)), (1, .int (r))] := hl
  have hBk := hP
  obtain ⟨cad, rad, ⟨nf, fc, fb, d, fr, f1, f2, ff, hB, hP⟩, hF⟩ := hP
  have hW : WorldAt g (tDat τ) (tClk τ) (b 3) s.heap := ⟨b 4, d, hB.2.2.1, hP.sub [3, 4] rfl⟩
  have h40 := hT.2.2.1
  refine lv_aload_n hx hb dX4_loose_0 rfl (lv_at hl 0 rfl) ?_
  refine lv_iload_n hx hb dX4_loose_1 rfl (lv_at hl 1 rfl) ?_
  refine k_q (c_V (As := [.int (r)]) (rest := []) C v_X4_69 (c4_runAt l g b τ hT nf fc fb d fr f1 f2 ff (r)) ⟨Nat.le_of_ble_eq_true rfl, Nat.le_of_ble_eq_true rfl⟩ (q_recv C hP 0 rfl rfl) (hP) hl.1 rfl rfl (Nat.le_of_ble_eq_true rfl) dX4_loose_2 ⟨Nat.le_of_ble_eq_true rfl, Nat.le_of_ble_eq_true rfl⟩) (fun r2 q2 => ?_)
  by_cases h2 : inR r 0 (tN τ - 1) = true
  · skip
    obtain ⟨j, hj, rfl⟩ := isRun_nI h2 h40
    obtain rfl : r2 = some (rad j) := q2.trans (rn_in hj h40 (hB.2.2.2.1 _ hj))
    refine W.eq (g2 := F0 m 5 ls [.ref (rad j)]) rfl ?_
    have hRA := (hF.2 j hj).run
    obtain ⟨ca, na, va, ra, vv, ww, hv, hPr⟩ := id hRA
    have hNA := note_at hv hPr
    have hO := hT.2.2.2.1 j hj
    have h16 := Nat.le_trans hO.2.2.2.2.2.2.2.1 hO.2.2.2.2.2.2.1
    have ecl : (nI j).toNatClampNeg = j := nI_clamp (by omega)
    refine lv_astore_n (lv' := [(2, .ref (rad j)), (0, .ref (b 0)), (1, .int (nI (j)))]) hx hb dX4_loose_5 rfl hl (by decide) rfl (fun ls hl => ?_)
    refine lv_aload_n hx hb dX4_loose_6 rfl (lv_at hl 0 rfl) ?_
    refine lv_ifnonnull (tgt := 12) hx hb dX4_loose_7 (by decide) ?_
    refine lv_aload_n hx hb dX4_loose_12 rfl (lv_at hl 0 rfl) ?_
    refine q_get C f_X4_99 (hPr) 0 rfl rfl dX4_loose_13 ?_
    refine lv_aload_n hx hb dX4_loose_16 rfl (lv_at hl 1 rfl) ?_
    refine q_get C f_X4_22 (hP) 0 rfl rfl dX4_loose_17 ?_
    refine k_i (c_V (As := [.ref (b 3)]) (rest := []) C v_X4_158 (c1_changedWords l g na (b 3) (tRun τ j) (tDat τ) (tClk τ)) ⟨Nat.le_of_ble_eq_true rfl, Nat.le_of_ble_eq_true rfl⟩ (q_recv C hPr 2 rfl rfl) (⟨hNA, hW⟩) hl.1 rfl rfl (Nat.le_of_ble_eq_true rfl) dX4_loose_20 ⟨Nat.le_of_ble_eq_true rfl, Nat.le_of_ble_eq_true rfl⟩) (fun r20 q20 => ?_)
    subst q20
    refine lv_aload_n hx hb dX4_loose_23 rfl (lv_at hl 0 rfl) ?_
    refine q_get C f_X4_99 (hPr) 0 rfl rfl dX4_loose_24 ?_
    refine q_get C f_X4_135 (hPr) 2 rfl rfl dX4_loose_27 ?_
    refine b_ifeq (tgt := 39) C dX4_loose_30 (by decide) (fun c30 => ?_) (fun c30 => ?_)
    · skip
      refine lv_iconst (v := 0) hx hb dX4_loose_39 (by decide) ?_
      refine lv_iadd hx hb dX4_loose_40 ?_
      exact r_i C hr hlk (by rw [looseT, if_pos h2, ecl, c30]; rfl) dX4_loose_41
    · skip
      refine lv_sipush (v := 256) hx hb dX4_loose_33 (by decide) ?_
      refine lv_goto (tgt := 40) hx hb dX4_loose_36 (by decide) ?_
      refine lv_iadd hx hb dX4_loose_40 ?_
      exact r_i C hr hlk (by rw [looseT, if_pos h2, ecl, c30]; rfl) dX4_loose_41
  · skip
    obtain rfl : r2 = none := q2.trans (if_neg h2)
    refine W.eq (g2 := F0 m 5 ls [.null]) rfl ?_
    refine lv_astore_nN (lv' := [(2, .null), (0, .ref (b 0)), (1, .int (r))]) hx hb dX4_loose_5 rfl hl (by decide) rfl (fun ls hl => ?_)
    refine lv_aload_nN hx hb dX4_loose_6 rfl (lv_at hl 0 rfl) ?_
    refine lv_ifnonnullN hx hb dX4_loose_7 ?_
    refine lv_iconst (v := (-1)) hx hb dX4_loose_10 (by decide) ?_
    exact r_i C hr hlk (by rw [looseT, if_neg h2]) dX4_loose_11
set_option maxHeartbeats 4000000 in
set_option maxRecDepth 100000 in
theorem c4_saved (l : Launch) (g : GG) (b : Nat → Nat) (Z : Nat → Prop) (τ : TB) (hT : TOK τ) (k all own t : Int32) : Met l yX4_saved (.code yX4_saved cX4_saved 8 (some .int) :: wsL_law) ({ frames := 3, cells := 0, slots := 0, locals := 67 } : Room) (mP g [.ref (b 0), .int (k), .int (all), .int (own), .int (t)] (Bk g b Z τ)) (vp_Si (fun z => z = savedT τ k all own t)) 0 0 ((fun _ => False)) := by
  refine mMet (by decide) (Nat.le_of_ble_eq_true rfl) ?_
  intro p e s m below meth c C hr hlk hnm hP ls hl
  have hx := C.1.1
  have hb := C.1.2.1
  have hl : lv_has ls 8 [(0, .ref (b 0)), (1, .int (k)), (2, .int (all)), (3, .int (own)), (4, .int (t))] := hl
  have hBk := hP
  obtain ⟨cad, rad, ⟨nf, fc, fb, d, fr, f1, f2, ff, hB, hP⟩, hF⟩ := hP
  have hW : WorldAt g (tDat τ) (tClk τ) (b 3) s.heap := ⟨b 4, d, hB.2.2.1, hP.sub [3, 4] rfl⟩
  have h40 := hT.2.2.1
  refine lv_aload_n hx hb dX4_saved_0 rfl (lv_at hl 0 rfl) ?_
  refine lv_iload_n hx hb dX4_saved_1 rfl (lv_at hl 1 rfl) ?_
  refine k_q (c_V (As := [.int (k)]) (rest := []) C v_X4_48 (c4_codeAt l g b τ hT nf fc fb d fr f1 f2 ff (k)) ⟨Nat.le_of_ble_eq_true rfl, Nat.le_of_ble_eq_true rfl⟩ (q_recv C hP 0 rfl rfl) (hP) hl.1 rfl rfl (Nat.le_of_ble_eq_true rfl) dX4_saved_2 ⟨Nat.le_of_ble_eq_true rfl, Nat.le_of_ble_eq_true rfl⟩) (fun r2 q2 => ?_)
  by_cases h2 : inR k 0 3 = true
  · skip
    obtain ⟨k1, hk1, rfl⟩ := inR_nI (hi := 3) h2
    obtain rfl : r2 = some (cad k1) := q2.trans (cd_in (by omega) (hB.1 _ (by omega)))
    refine W.eq (g2 := F0 m 5 ls [.ref (cad k1)]) rfl ?_
    have ecl : (nI k1).toNatClampNeg = k1 := nI_clamp (by omega)
    have hk4 : k1 < 4 := by omega
    refine lv_astore (lv' := [(5, .ref (cad k1)), (0, .ref (b 0)), (1, .int (nI (k1))), (2, .int (all)), (3, .int (own)), (4, .int (t))]) hx hb dX4_saved_5 hl (by decide) rfl (fun ls hl => ?_)
    refine lv_aload hx hb dX4_saved_7 (lv_at hl 0 rfl) ?_
    refine lv_ifnull hx hb dX4_saved_9 ?_
    refine lv_iload_n hx hb dX4_saved_12 rfl (lv_at hl 3 rfl) ?_
    refine k_i (c_S (As := [.int (all)]) (rest := []) C v_X4_52 (c4_areSettings l g (all)) ⟨Nat.le_of_ble_eq_true rfl, Nat.le_of_ble_eq_true rfl⟩ (trivial) hl.1 rfl rfl (Nat.le_of_ble_eq_true rfl) dX4_saved_13 ⟨Nat.le_of_ble_eq_true rfl, Nat.le_of_ble_eq_true rfl⟩) (fun r13 q13 => ?_)
    subst q13
    refine b_ifeq (tgt := 34) C dX4_saved_16 (by decide) (fun c16 => ?_) (fun c16 => ?_)
    · skip
      refine lv_iconst (v := (-1)) hx hb dX4_saved_34 (by decide) ?_
      exact r_i C hr hlk (by rw [savedT, show canRunB (nI k1) all own t = false by simp [canRunB, c16]]; rfl) dX4_saved_35
    · skip
      refine lv_iload_n hx hb dX4_saved_19 rfl (lv_at hl 4 rfl) ?_
      refine k_i (c_S (As := [.int (own)]) (rest := []) C v_X4_56 (c4_isSeed l g (own)) ⟨Nat.le_of_ble_eq_true rfl, Nat.le_of_ble_eq_true rfl⟩ (trivial) hl.1 rfl rfl (Nat.le_of_ble_eq_true rfl) dX4_saved_20 ⟨Nat.le_of_ble_eq_true rfl, Nat.le_of_ble_eq_true rfl⟩) (fun r20 q20 => ?_)
      subst q20
      refine b_ifeq (tgt := 34) C dX4_saved_23 (by decide) (fun c23 => ?_) (fun c23 => ?_)
      · skip
        refine lv_iconst (v := (-1)) hx hb dX4_saved_34 (by decide) ?_
        exact r_i C hr hlk (by rw [savedT, show canRunB (nI k1) all own t = false by simp [canRunB, c16, c23]]; rfl) dX4_saved_35
      · skip
        refine lv_iload hx hb dX4_saved_26 (lv_at hl 5 rfl) ?_
        refine k_i (c_S (As := [.int (t)]) (rest := []) C v_X4_59 (c4_areTicks l g (t)) ⟨Nat.le_of_ble_eq_true rfl, Nat.le_of_ble_eq_true rfl⟩ (trivial) hl.1 rfl rfl (Nat.le_of_ble_eq_true rfl) dX4_saved_28 ⟨Nat.le_of_ble_eq_true rfl, Nat.le_of_ble_eq_true rfl⟩) (fun r28 q28 => ?_)
        subst q28
        refine b_ifne (tgt := 36) C dX4_saved_31 (by decide) (fun c31 => ?_) (fun c31 => ?_)
        · skip
          obtain ⟨t1, ht0, ht1, rfl⟩ := inR1_nI (hi := 16) c31
          obtain ⟨Y, hY⟩ : ∃ Y : Int32, Y = savedI τ k1 all own t1 := ⟨_, rfl⟩
          have hc4 := hT.1 k1 hk4
          have eT : savedT τ (nI k1) all own (nI t1) = Y := by rw [savedT, canRunB, h2, c16, c23, c31, ecl, nI_clamp (by omega), hY]; rfl
          refine lv_iconst (v := nI 0) hx hb dX4_saved_36 (by decide) ?_
          refine lv_istore (lv' := [(6, .int (nI (0))), (5, .ref (cad k1)), (0, .ref (b 0)), (1, .int (nI (k1))), (2, .int (all)), (3, .int (own)), (4, .int (nI (t1)))]) hx hb dX4_saved_37 hl (by decide) rfl (fun ls hl => ?_)
          have lp : ∀ (n_lp : Nat) (r : Nat) (ls : Array Slot), (r ≤ tN τ) → (tN τ + 1 ≤ r + n_lp) → (Y = fstI (fun r => savB τ (tCode τ k1) all own t1 (tRun τ r)) (tN τ - r) r) → lv_has ls 8 [(0, .ref (b 0)), (1, .int (nI (k1))), (2, .int (all)), (3, .int (own)), (4, .int (nI (t1))), (5, .ref (cad k1)), (6, .int (nI (r)))] → W p l e ({ frames := 3, cells := 0, slots := 0, locals := 67 } : Room) s m ([.ref (b 0), .int (nI (k1)), .int (all), .int (own), .int (nI (t1))] : List Value).toArray below meth c s.heap [] 0 0 (MQ below (vp_Si (fun z => z = savedT τ (nI k1) all own (nI t1))) (([.ref (b 0), .int (nI (k1)), .int (all), .int (own), .int (nI (t1))] : List Value).toArray) s 0 0 ((fun _ => False))) (F0 m 39 ls []) := by
            intro n_lp
            induction n_lp with
            | zero =>
              intro r ls hrN hn hz
              exact absurd hn (by omega)
            | succ n_lp ih_lp =>
              intro r ls hrN hn hz hl
              refine lv_iload hx hb dX4_saved_39 (lv_at hl 6 rfl) ?_
              refine lv_aload_n hx hb dX4_saved_41 rfl (lv_at hl 0 rfl) ?_
              refine q_get C f_X4_144 (hP) 0 rfl rfl dX4_saved_42 ?_
              refine n_icmp_ge (tgt := 104) C (by omega) (by omega) dX4_saved_45 (by decide) (fun c45 => ?_) (fun c45 => ?_)
              · skip
                refine lv_iconst (v := (-1)) hx hb dX4_saved_104 (by decide) ?_
                exact r_i C hr hlk (by rw [eT]; exact fst_end hz c45) dX4_saved_105
              · skip
                refine lv_aload_n hx hb dX4_saved_48 rfl (lv_at hl 0 rfl) ?_
                refine lv_iload hx hb dX4_saved_49 (lv_at hl 6 rfl) ?_
                refine k_q (c_V (As := [.int (nI (r))]) (rest := []) C v_X4_69 (c4_runAt l g b τ hT nf fc fb d fr f1 f2 ff (nI (r))) ⟨Nat.le_of_ble_eq_true rfl, Nat.le_of_ble_eq_true rfl⟩ (q_recv C hP 0 rfl rfl) (hP) hl.1 rfl rfl (Nat.le_of_ble_eq_true rfl) dX4_saved_51 ⟨Nat.le_of_ble_eq_true rfl, Nat.le_of_ble_eq_true rfl⟩) (fun r51 q51 => ?_)
                obtain rfl : r51 = some (rad r) := q51.trans (rn_in (c45) h40 (hB.2.2.2.1 _ (c45)))
                refine W.eq (g2 := F0 m 54 ls [.ref (rad r)]) rfl ?_
                refine lv_astore (lv' := [(7, .ref (rad r)), (0, .ref (b 0)), (1, .int (nI (k1))), (2, .int (all)), (3, .int (own)), (4, .int (nI (t1))), (5, .ref (cad k1)), (6, .int (nI (r)))]) hx hb dX4_saved_54 hl (by decide) rfl (fun ls hl => ?_)
                refine lv_aload hx hb dX4_saved_56 (lv_at hl 0 rfl) ?_
                refine lv_ifnull hx hb dX4_saved_58 ?_
                refine lv_aload hx hb dX4_saved_61 (lv_at hl 0 rfl) ?_
                refine lv_iload_n hx hb dX4_saved_63 rfl (lv_at hl 3 rfl) ?_
                refine k_i (c_V (As := [.int (all)]) (rest := []) C v_X4_162 (c2_fitsSettings l g (rad r) (tRun τ r) (cntB τ r) (hT.2.2.2.1 r c45) (all)) ⟨Nat.le_of_ble_eq_true rfl, Nat.le_of_ble_eq_true rfl⟩ (run_recv C (hF.2 r c45).run) ((hF.2 r c45).run) hl.1 rfl rfl (Nat.le_of_ble_eq_true rfl) dX4_saved_64 ⟨Nat.le_of_ble_eq_true rfl, Nat.le_of_ble_eq_true rfl⟩) (fun r64 q64 => ?_)
                subst q64
                refine b_ifeq (tgt := 98) C dX4_saved_67 (by decide) (fun c67 => ?_) (fun c67 => ?_)
                · skip
                  refine n_iinc (d := 1) (lv' := [(6, .int (nI (r + 1))), (7, .ref (rad r)), (0, .ref (b 0)), (1, .int (nI (k1))), (2, .int (all)), (3, .int (own)), (4, .int (nI (t1))), (5, .ref (cad k1))]) C dX4_saved_98 (by decide) hl (k := 7) rfl (by decide) rfl (fun ls hl => ?_)
                  refine lv_goto (tgt := 39) hx hb dX4_saved_101 (by decide) ?_
                  exact ih_lp (r + 1) ls (by omega) (by omega) (fst_no hz c45 (by rw [sav_e]; simp [c67])) (lv_sub hl [2, 3, 4, 5, 6, 7, 0] rfl)
                · skip
                  refine lv_aload hx hb dX4_saved_70 (lv_at hl 0 rfl) ?_
                  refine lv_iload_n hx hb dX4_saved_72 rfl (lv_at hl 4 rfl) ?_
                  refine k_i (c_V (As := [.int (own)]) (rest := []) C v_X4_165 (c2_fitsSeed l g (rad r) (tRun τ r) (cntB τ r) (hT.2.2.2.1 r c45) (own)) ⟨Nat.le_of_ble_eq_true rfl, Nat.le_of_ble_eq_true rfl⟩ (run_recv C (hF.2 r c45).run) ((hF.2 r c45).run) hl.1 rfl rfl (Nat.le_of_ble_eq_true rfl) dX4_saved_73 ⟨Nat.le_of_ble_eq_true rfl, Nat.le_of_ble_eq_true rfl⟩) (fun r73 q73 => ?_)
                  subst q73
                  refine b_ifeq (tgt := 98) C dX4_saved_76 (by decide) (fun c76 => ?_) (fun c76 => ?_)
                  · skip
                    refine n_iinc (d := 1) (lv' := [(6, .int (nI (r + 1))), (7, .ref (rad r)), (0, .ref (b 0)), (1, .int (nI (k1))), (2, .int (all)), (3, .int (own)), (4, .int (nI (t1))), (5, .ref (cad k1))]) C dX4_saved_98 (by decide) hl (k := 7) rfl (by decide) rfl (fun ls hl => ?_)
                    refine lv_goto (tgt := 39) hx hb dX4_saved_101 (by decide) ?_
                    exact ih_lp (r + 1) ls (by omega) (by omega) (fst_no hz c45 (by rw [sav_e]; simp [c67, c76])) (lv_sub hl [2, 3, 4, 5, 6, 7, 0] rfl)
                  · skip
                    refine lv_aload hx hb dX4_saved_79 (lv_at hl 0 rfl) ?_
                    refine lv_aload hx hb dX4_saved_81 (lv_at hl 6 rfl) ?_
                    refine lv_iload hx hb dX4_saved_83 (lv_at hl 5 rfl) ?_
                    refine lv_aload_n hx hb dX4_saved_85 rfl (lv_at hl 1 rfl) ?_
                    refine q_get C f_X4_22 (hP) 0 rfl rfl dX4_saved_86 ?_
                    refine k_i (c_V (As := [.ref (cad k1), .int (nI (t1)), .ref (b 3)]) (rest := []) C v_X4_168 (c2_isUsable l g (rad r) (tRun τ r) (cntB τ r) (hT.2.2.2.1 r c45) (cad k1) (b 3) (t1) (tCode τ k1) (tDat τ) (tClk τ) hc4.2 hc4.1 (by omega)) ⟨Nat.le_of_ble_eq_true rfl, Nat.le_of_ble_eq_true rfl⟩ (run_recv C (hF.2 r c45).run) (⟨(hF.2 r c45).run, (hF.1 k1 hk4).1, hW⟩) hl.1 rfl rfl (Nat.le_of_ble_eq_true rfl) dX4_saved_89 ⟨Nat.le_of_ble_eq_true rfl, Nat.le_of_ble_eq_true rfl⟩) (fun r89 q89 => ?_)
                    subst q89
                    refine b_ifeq (tgt := 98) C dX4_saved_92 (by decide) (fun c92 => ?_) (fun c92 => ?_)
                    · skip
                      refine n_iinc (d := 1) (lv' := [(6, .int (nI (r + 1))), (7, .ref (rad r)), (0, .ref (b 0)), (1, .int (nI (k1))), (2, .int (all)), (3, .int (own)), (4, .int (nI (t1))), (5, .ref (cad k1))]) C dX4_saved_98 (by decide) hl (k := 7) rfl (by decide) rfl (fun ls hl => ?_)
                      refine lv_goto (tgt := 39) hx hb dX4_saved_101 (by decide) ?_
                      exact ih_lp (r + 1) ls (by omega) (by omega) (fst_no hz c45 (by rw [sav_e]; simp [c67, c76, c92])) (lv_sub hl [2, 3, 4, 5, 6, 7, 0] rfl)
                    · skip
                      refine lv_iload hx hb dX4_saved_95 (lv_at hl 7 rfl) ?_
                      exact r_i C hr hlk (by rw [eT]; exact fst_yes hz c45 (by rw [sav_e]; simp [c67, c76, c92])) dX4_saved_97
          exact lp (tN τ + 1) (0) ls (by omega) (by omega) (hY) (lv_sub hl [2, 3, 4, 5, 6, 1, 0] rfl)
        · skip
          refine lv_iconst (v := (-1)) hx hb dX4_saved_34 (by decide) ?_
          exact r_i C hr hlk (by rw [savedT, show canRunB (nI k1) all own t = false by simp [canRunB, c16, c23, c31]]; rfl) dX4_saved_35
  · skip
    obtain rfl : r2 = none := q2.trans (if_neg h2)
    refine W.eq (g2 := F0 m 5 ls [.null]) rfl ?_
    refine lv_astoreN (lv' := [(5, .null), (0, .ref (b 0)), (1, .int (k)), (2, .int (all)), (3, .int (own)), (4, .int (t))]) hx hb dX4_saved_5 hl (by decide) rfl (fun ls hl => ?_)
    refine lv_aloadN hx hb dX4_saved_7 (lv_at hl 0 rfl) ?_
    refine lv_ifnullN (tgt := 34) hx hb dX4_saved_9 (by decide) ?_
    refine lv_iconst (v := (-1)) hx hb dX4_saved_34 (by decide) ?_
    exact r_i C hr hlk (by rw [savedT, show canRunB k all own t = false by simp [canRunB, h2]]; rfl) dX4_saved_35
def useM (τ : TB) : Nat → Int32
  | 0 => 0
  | n + 1 => useM τ n ||| rRS (tRun τ n)
theorem idle_e (τ : TB) : ∀ n, (15 : Int32) &&& (useM τ n ^^^ (-1)) = idleM τ n
  | 0 => (by decide : (15 : Int32) &&& (0 ^^^ (-1)) = 15)
  | n + 1 => by
    rw [useM, idleM, ← idle_e τ n]
    apply Int32.toBitVec_inj.mp
    simp only [Int32.toBitVec_and, Int32.toBitVec_or, Int32.toBitVec_xor]
    rw [show Int32.toBitVec (-1) = BitVec.allOnes 32 by decide]
    ext j hj
    simp only [BitVec.getElem_and, BitVec.getElem_or, BitVec.getElem_xor, BitVec.getElem_allOnes]
    cases (Int32.toBitVec 15)[j] <;> cases (useM τ n).toBitVec[j] <;> cases (rRS (tRun τ n)).toBitVec[j] <;> rfl
set_option maxHeartbeats 4000000 in
set_option maxRecDepth 100000 in
theorem c4_idle (l : Launch) (g : GG) (b : Nat → Nat) (Z : Nat → Prop) (τ : TB) (hT : TOK τ)  : Met l yX4_idle (.code yX4_idle cX4_idle 4 (some .int) :: wsL_law) ({ frames := 1, cells := 0, slots := 0, locals := 21 } : Room) (mP g [.ref (b 0)] (Bk g b Z τ)) (vp_Si (fun z => z = idleM τ (tN τ))) 0 0 ((fun _ => False)) := by
  refine mMet (by decide) (Nat.le_of_ble_eq_true rfl) ?_
  intro p e s m below meth c C hr hlk hnm hP ls hl
  have hx := C.1.1
  have hb := C.1.2.1
  have hl : lv_has ls 4 [(0, .ref (b 0))] := hl
  have hBk := hP
  obtain ⟨cad, rad, ⟨nf, fc, fb, d, fr, f1, f2, ff, hB, hP⟩, hF⟩ := hP
  have hW : WorldAt g (tDat τ) (tClk τ) (b 3) s.heap := ⟨b 4, d, hB.2.2.1, hP.sub [3, 4] rfl⟩
  have h40 := hT.2.2.1
  refine lv_iconst (v := 0) hx hb dX4_idle_0 (by decide) ?_
  refine lv_istore_n (lv' := [(1, .int (0)), (0, .ref (b 0))]) hx hb dX4_idle_1 rfl hl (by decide) rfl (fun ls hl => ?_)
  refine lv_iconst (v := nI 0) hx hb dX4_idle_2 (by decide) ?_
  refine lv_istore_n (lv' := [(2, .int (nI (0))), (1, .int (0)), (0, .ref (b 0))]) hx hb dX4_idle_3 rfl hl (by decide) rfl (fun ls hl => ?_)
  have lp : ∀ (n_lp : Nat) (r : Nat) (x : Int32) (ls : Array Slot), (r ≤ tN τ) → (tN τ + 1 ≤ r + n_lp) → (x = useM τ r) → lv_has ls 4 [(0, .ref (b 0)), (1, .int (x)), (2, .int (nI (r)))] → W p l e ({ frames := 1, cells := 0, slots := 0, locals := 21 } : Room) s m ([.ref (b 0)] : List Value).toArray below meth c s.heap [] 0 0 (MQ below (vp_Si (fun z => z = idleM τ (tN τ))) (([.ref (b 0)] : List Value).toArray) s 0 0 ((fun _ => False))) (F0 m 4 ls []) := by
    intro n_lp
    induction n_lp with
    | zero =>
      intro r x ls hrN hn hx2
      exact absurd hn (by omega)
    | succ n_lp ih_lp =>
      intro r x ls hrN hn hx2 hl
      refine lv_iload_n hx hb dX4_idle_4 rfl (lv_at hl 2 rfl) ?_
      refine lv_aload_n hx hb dX4_idle_5 rfl (lv_at hl 0 rfl) ?_
      refine q_get C f_X4_144 (hP) 0 rfl rfl dX4_idle_6 ?_
      refine n_icmp_ge (tgt := 38) C (by omega) (by omega) dX4_idle_9 (by decide) (fun c9 => ?_) (fun c9 => ?_)
      · skip
        refine lv_bipush (v := 15) hx hb dX4_idle_38 (by decide) ?_
        refine lv_iload_n hx hb dX4_idle_40 rfl (lv_at hl 1 rfl) ?_
        refine lv_iconst (v := (-1)) hx hb dX4_idle_41 (by decide) ?_
        refine lv_ixor hx hb dX4_idle_42 ?_
        refine lv_iand hx hb dX4_idle_43 ?_
        exact r_i C hr hlk (by rw [hx2, show r = tN τ by omega]; exact idle_e τ _) dX4_idle_44
      · skip
        refine lv_aload_n hx hb dX4_idle_12 rfl (lv_at hl 0 rfl) ?_
        refine lv_iload_n hx hb dX4_idle_13 rfl (lv_at hl 2 rfl) ?_
        refine k_q (c_V (As := [.int (nI (r))]) (rest := []) C v_X4_69 (c4_runAt l g b τ hT nf fc fb d fr f1 f2 ff (nI (r))) ⟨Nat.le_of_ble_eq_true rfl, Nat.le_of_ble_eq_true rfl⟩ (q_recv C hP 0 rfl rfl) (hP) hl.1 rfl rfl (Nat.le_of_ble_eq_true rfl) dX4_idle_14 ⟨Nat.le_of_ble_eq_true rfl, Nat.le_of_ble_eq_true rfl⟩) (fun r14 q14 => ?_)
        obtain rfl : r14 = some (rad r) := q14.trans (rn_in (c9) h40 (hB.2.2.2.1 _ (c9)))
        refine W.eq (g2 := F0 m 17 ls [.ref (rad r)]) rfl ?_
        refine lv_astore_n (lv' := [(3, .ref (rad r)), (0, .ref (b 0)), (1, .int (x)), (2, .int (nI (r)))]) hx hb dX4_idle_17 rfl hl (by decide) rfl (fun ls hl => ?_)
        refine lv_aload_n hx hb dX4_idle_18 rfl (lv_at hl 0 rfl) ?_
        refine lv_ifnull hx hb dX4_idle_19 ?_
        have hRA := (hF.2 r c9).run
        obtain ⟨ca, na, va, ra, vv, ww, hv, hPr⟩ := id hRA
        have hNA := note_at hv hPr
        have hO := hT.2.2.2.1 r c9
        have h16 := Nat.le_trans hO.2.2.2.2.2.2.2.1 hO.2.2.2.2.2.2.1
        refine lv_iload_n hx hb dX4_idle_22 rfl (lv_at hl 2 rfl) ?_
        refine lv_aload_n hx hb dX4_idle_23 rfl (lv_at hl 0 rfl) ?_
        refine q_get C f_X4_99 (hPr) 0 rfl rfl dX4_idle_24 ?_
        refine q_get C f_X4_129 (hPr) 2 rfl rfl dX4_idle_27 ?_
        refine lv_ior hx hb dX4_idle_30 ?_
        refine lv_istore_n (lv' := [(1, .int ((x) ||| (rRS (tRun τ r)))), (3, .ref (rad r)), (0, .ref (b 0)), (2, .int (nI (r)))]) hx hb dX4_idle_31 rfl hl (by decide) rfl (fun ls hl => ?_)
        refine n_iinc (d := 1) (lv' := [(2, .int (nI (r + 1))), (1, .int ((x) ||| (rRS (tRun τ r)))), (3, .ref (rad r)), (0, .ref (b 0))]) C dX4_idle_32 (by decide) hl (k := 3) rfl (by decide) rfl (fun ls hl => ?_)
        refine lv_goto (tgt := 4) hx hb dX4_idle_35 (by decide) ?_
        exact ih_lp (r + 1) ((x) ||| (rRS (tRun τ r))) ls (by omega) (by omega) (by rw [hx2]; rfl) (lv_sub hl [3, 1, 0] rfl)
  exact lp (tN τ + 1) (0) (0) ls (by omega) (by omega) (rfl) (lv_sub hl [2, 1, 0] rfl)
theorem last_clm {τ : TB} {p : Nat} (hT : TOK τ) (hp : p < tN τ) (h : rBr (tRun τ p) = false) : lastR (rRow (tRun τ p)) = (rRow (tRun τ p)).getD (rTk (tRun τ p) - 1) 0 := by
  have hO := hT.2.2.2.1 p hp
  have hl := hO.2.2.2.2.2.2.2.2.1 h
  have h1 := hO.2.2.2.2.2.1
  rw [← hl, ← lastTake (by omega) (Nat.le_refl _), List.take_length]
set_option maxHeartbeats 4000000 in
set_option maxRecDepth 100000 in
theorem c4_claimed (l : Launch) (g : GG) (b : Nat → Nat) (Z : Nat → Prop) (τ : TB) (hT : TOK τ) (i wh : Int32) : Met l yX4_claimed (.code yX4_claimed cX4_claimed 3 (some .int) :: wsL_law) ({ frames := 3, cells := 0, slots := 0, locals := 65 } : Room) (mP g [.ref (b 0), .int (i), .int (wh)] (Bk g b Z τ)) (vp_Si (fun z => z = claimedT τ i wh)) 0 0 ((fun _ => False)) := by
  refine mMet (by decide) (Nat.le_of_ble_eq_true rfl) ?_
  intro p e s m below meth c C hr hlk hnm hP ls hl
  have hx := C.1.1
  have hb := C.1.2.1
  have hl : lv_has ls 3 [(0, .ref (b 0)), (1, .int (i)), (2, .int (wh))] := hl
  have hBk := hP
  obtain ⟨cad, rad, ⟨nf, fc, fb, d, fr, f1, f2, ff, hB, hP⟩, hF⟩ := hP
  have hW : WorldAt g (tDat τ) (tClk τ) (b 3) s.heap := ⟨b 4, d, hB.2.2.1, hP.sub [3, 4] rfl⟩
  have hc20 := hT.2.2.2.2.1
  have h40 := hT.2.2.1
  refine lv_iload_n hx hb dX4_claimed_0 rfl (lv_at hl 1 rfl) ?_
  refine lv_if_lt (tgt := 18) hx hb dX4_claimed_1 (by decide) (fun c1 => ?_) (fun c1 => ?_)
  · skip
    refine lv_iconst (v := (-1)) hx hb dX4_claimed_18 (by decide) ?_
    exact r_i C hr hlk (by rw [claimedT, if_neg (by rw [inR_iff]; simp only [nI_toInt (show (tClm τ).length < 2 ^ 31 by omega), fa_lt, fa_le, fa_eq, li_0, li_1, li_2, li_3, li_4, li_5, li_6, li_7, li_8, li_12, li_15, li_16, li_20, li_30, li_40, li_100, li_1000, li_65535, li_65536, li_1000000, li_m1] at c1; omega)]) dX4_claimed_19
  · skip
    refine lv_iload_n hx hb dX4_claimed_4 rfl (lv_at hl 1 rfl) ?_
    refine lv_aload_n hx hb dX4_claimed_5 rfl (lv_at hl 0 rfl) ?_
    refine q_get C f_X4_227 (hP) 0 rfl rfl dX4_claimed_6 ?_
    refine lv_icmp_ge (tgt := 18) hx hb dX4_claimed_9 (by decide) (fun c9 => ?_) (fun c9 => ?_)
    · skip
      refine lv_iconst (v := (-1)) hx hb dX4_claimed_18 (by decide) ?_
      exact r_i C hr hlk (by rw [claimedT, if_neg (by rw [inR_iff]; simp only [nI_toInt (show (tClm τ).length < 2 ^ 31 by omega), fa_lt, fa_le, fa_eq, li_0, li_1, li_2, li_3, li_4, li_5, li_6, li_7, li_8, li_12, li_15, li_16, li_20, li_30, li_40, li_100, li_1000, li_65535, li_65536, li_1000000, li_m1] at c1 c9; omega)]) dX4_claimed_19
    · skip
      obtain ⟨i1, hi1, rfl⟩ := ge_nI c1 c9 (by omega)
      have ecl : (nI i1).toNatClampNeg = i1 := nI_clamp (by omega)
      have hin : inR (nI i1) 0 ((tClm τ).length - 1) = true := inR_iff.mpr (by rw [nI_toInt (by omega)]; omega)
      obtain ⟨hr1, hr2⟩ := hT.2.2.2.2.2 ((tClm τ).getD i1 0) (getD_mem hi1)
      refine lv_iload_n hx hb dX4_claimed_12 rfl (lv_at hl 1 rfl) ?_
      refine lv_bipush (v := nI 20) hx hb dX4_claimed_13 (by decide) ?_
      refine n_icmp_lt (tgt := 20) C (by omega) (by omega) dX4_claimed_15 (by decide) (fun c15 => ?_) (fun c15 => by exfalso; omega)
      refine lv_iload_n hx hb dX4_claimed_20 rfl (lv_at hl 2 rfl) ?_
      by_cases k21_0 : (wh) = 0
      · skip
        refine n_tabIn (tgt := 48) (off := 27) C (0) (k21_0) dX4_claimed_21 (by decide) (by decide) (by decide) (by decide) ?_
        refine lv_aload_n hx hb dX4_claimed_48 rfl (lv_at hl 0 rfl) ?_
        refine q_get C f_X4_32 (hP) 0 rfl rfl dX4_claimed_49 ?_
        refine lv_iload_n hx hb dX4_claimed_52 rfl (lv_at hl 1 rfl) ?_
        refine n_iald C (hP) 6 rfl (by omega) (by decide) dX4_claimed_53 ?_
        exact r_i C hr hlk (by rw [claimedT, if_pos hin, ecl, if_pos k21_0]; exact hB.2.2.2.2.1 i1 hi1) dX4_claimed_54
      by_cases k21_1 : (wh) = 1
      · skip
        refine n_tabIn (tgt := 55) (off := 34) C (1) (k21_1) dX4_claimed_21 (by decide) (by decide) (by decide) (by decide) ?_
        refine lv_aload_n hx hb dX4_claimed_55 rfl (lv_at hl 0 rfl) ?_
        refine q_get C f_X4_35 (hP) 0 rfl rfl dX4_claimed_56 ?_
        refine lv_iload_n hx hb dX4_claimed_59 rfl (lv_at hl 1 rfl) ?_
        refine n_iald C (hP) 7 rfl (by omega) (by decide) dX4_claimed_60 ?_
        exact r_i C hr hlk (by rw [claimedT, if_pos hin, ecl, if_neg k21_0, if_pos k21_1]; exact (hB.2.2.2.2.2 i1 hi1).trans (last_clm hT hr1 hr2)) dX4_claimed_61
      by_cases k21_2 : (wh) = 2
      · skip
        refine n_tabIn (tgt := 62) (off := 41) C (2) (k21_2) dX4_claimed_21 (by decide) (by decide) (by decide) (by decide) ?_
        refine lv_aload_n hx hb dX4_claimed_62 rfl (lv_at hl 0 rfl) ?_
        refine lv_aload_n hx hb dX4_claimed_63 rfl (lv_at hl 0 rfl) ?_
        refine lv_aload_n hx hb dX4_claimed_64 rfl (lv_at hl 0 rfl) ?_
        refine q_get C f_X4_32 (hP) 0 rfl rfl dX4_claimed_65 ?_
        refine lv_iload_n hx hb dX4_claimed_68 rfl (lv_at hl 1 rfl) ?_
        refine n_iald C (hP) 6 rfl (by omega) (by decide) dX4_claimed_69 ?_
        refine w_topi (y := (nI ((tClm τ).getD i1 0))) (hB.2.2.2.2.1 i1 hi1) ?_
        refine k_q (c_V (As := [.int (nI ((tClm τ).getD i1 0))]) (rest := [.ref (b 0)]) C v_X4_69 (c4_runAt l g b τ hT nf fc fb d fr f1 f2 ff (nI ((tClm τ).getD i1 0))) ⟨Nat.le_of_ble_eq_true rfl, Nat.le_of_ble_eq_true rfl⟩ (q_recv C hP 0 rfl rfl) (hP) hl.1 rfl rfl (Nat.le_of_ble_eq_true rfl) dX4_claimed_70 ⟨Nat.le_of_ble_eq_true rfl, Nat.le_of_ble_eq_true rfl⟩) (fun r70 q70 => ?_)
        obtain rfl : r70 = some (rad ((tClm τ).getD i1 0)) := q70.trans (rn_in (hr1) h40 (hB.2.2.2.1 _ (hr1)))
        refine W.eq (g2 := F0 m 73 ls [.ref (rad ((tClm τ).getD i1 0)), .ref (b 0)]) rfl ?_
        have hRA := (hF.2 ((tClm τ).getD i1 0) hr1).run
        obtain ⟨ca, na, va, ra, vv, ww, hv, hPr⟩ := id hRA
        have hNA := note_at hv hPr
        have hO := hT.2.2.2.1 ((tClm τ).getD i1 0) hr1
        have h16 := Nat.le_trans hO.2.2.2.2.2.2.2.1 hO.2.2.2.2.2.2.1
        refine k_i (c_V (As := [.ref (rad ((tClm τ).getD i1 0))]) (rest := []) C v_X4_138 (c4_isStale l g b Z τ hT (rad ((tClm τ).getD i1 0)) ((tClm τ).getD i1 0) (hr1)) ⟨Nat.le_of_ble_eq_true rfl, Nat.le_of_ble_eq_true rfl⟩ (q_recv C hP 0 rfl rfl) (⟨hBk, hRA⟩) hl.1 rfl rfl (Nat.le_of_ble_eq_true rfl) dX4_claimed_73 ⟨Nat.le_of_ble_eq_true rfl, Nat.le_of_ble_eq_true rfl⟩) (fun r73 q73 => ?_)
        subst q73
        refine k_i (c_S (As := [.int (bI (staleB τ (tRun τ ((tClm τ).getD i1 0))))]) (rest := []) C v_X4_119 (c4_asNumber l g (staleB τ (tRun τ ((tClm τ).getD i1 0)))) ⟨Nat.le_of_ble_eq_true rfl, Nat.le_of_ble_eq_true rfl⟩ (trivial) hl.1 rfl rfl (Nat.le_of_ble_eq_true rfl) dX4_claimed_76 ⟨Nat.le_of_ble_eq_true rfl, Nat.le_of_ble_eq_true rfl⟩) (fun r76 q76 => ?_)
        subst q76
        exact r_i C hr hlk (by rw [claimedT, if_pos hin, ecl, if_neg k21_0, if_neg k21_1, if_pos k21_2]) dX4_claimed_79
      refine n_tabOut (tgt := 80) C dX4_claimed_21 (by rcases Int.lt_or_le wh.toInt 0 with hz | hz; exact Or.inl hz; refine Or.inr (Int.not_le.mp (fun hz2 => ?_)); have e13 : wh.toInt = 0 ∨ wh.toInt = 1 ∨ wh.toInt = 2 := (by omega); rcases e13 with e | e | e; exact k21_0 ((fa_eq _ _).mpr (by rw [e]; decide)); exact k21_1 ((fa_eq _ _).mpr (by rw [e]; decide)); exact k21_2 ((fa_eq _ _).mpr (by rw [e]; decide))) (by decide) ?_
      refine lv_iconst (v := (-1)) hx hb dX4_claimed_80 (by decide) ?_
      exact r_i C hr hlk (by rw [claimedT, if_pos hin, ecl, if_neg k21_0, if_neg k21_1, if_neg k21_2]) dX4_claimed_81

/-! THE REFERENCE: settings, words, codes, runs that are alike -/
set_option maxHeartbeats 4000000 in
set_option maxRecDepth 100000 in
theorem c5_areSettings (l : Launch) (g : GG) (h : Nat) (ad : Nat → Nat) (φ : Nat → Int32) (α : Nat → Nat → Int32) (all : Int32) : Met l yX5_areSettings (.code yX5_areSettings cX5_areSettings 3 (some .boolean) :: wsL_law) ({ frames := 1, cells := 0, slots := 0, locals := 22 } : Room) (mP g [.ref (h), .int (all)] (fun H => va_P g.1 vwCl (wM g h ad φ α) H)) (vp_Si (fun z => z = bI (sOK all))) 0 0 ((fun _ => False)) := by
  refine mMet (by decide) (Nat.le_of_ble_eq_true rfl) ?_
  intro p e s m below meth c C hr hlk hnm hM ls hl
  have hx := C.1.1
  have hb := C.1.2.1
  have hl : lv_has ls 3 [(0, .ref (h)), (1, .int (all))] := hl
  have hrec := q_recv C hM 0 rw_0 rfl
  refine lv_iload_n hx hb dX5_areSettings_0 rfl (lv_at hl 1 rfl) ?_
  refine lv_if_lt (tgt := 10) hx hb dX5_areSettings_1 (by decide) (fun c1 => ?_) (fun c1 => ?_)
  · skip
    refine lv_iconst (v := 0) hx hb dX5_areSettings_10 (by decide) ?_
    exact r_z C hr hlk (by first | exact Or.inl rfl | exact Or.inr rfl | exact bI_or _) (bif0 (Bool.eq_false_iff.mpr (fun hz => by have hz := (sOK_iff.mp hz).1; simp only [fa_lt, fa_le, li_0, li_65535] at c1; omega))) dX5_areSettings_11
  · skip
    refine lv_iload_n hx hb dX5_areSettings_4 rfl (lv_at hl 1 rfl) ?_
    refine lv_ldc (v := 65535) hx hb C.1.2.2.2.1 (C.1.2.2.2.2 _ (inr_11 _ (List.mem_of_getElem? (i := 10) rfl))) dX5_areSettings_5 ?_
    refine lv_icmp_le (tgt := 12) hx hb dX5_areSettings_7 (by decide) (fun c7 => ?_) (fun c7 => ?_)
    · skip
      refine lv_iconst (v := nI 0) hx hb dX5_areSettings_12 (by decide) ?_
      refine lv_istore_n (lv' := [(2, .int (nI (0))), (0, .ref (h)), (1, .int (all))]) hx hb dX5_areSettings_13 rfl hl (by decide) rfl (fun ls hl => ?_)
      have lp : ∀ (n_lp : Nat) (i : Nat) (ls : Array Slot), (i ≤ 4) → (4 + 1 ≤ i + n_lp) → (∀ j, j < i → sett all j ≤ 5) → lv_has ls 3 [(0, .ref (h)), (1, .int (all)), (2, .int (nI (i)))] → W p l e ({ frames := 1, cells := 0, slots := 0, locals := 22 } : Room) s m ([.ref (h), .int (all)] : List Value).toArray below meth c s.heap [] 0 0 (MQ below (vp_Si (fun z => z = bI (sOK all))) (([.ref (h), .int (all)] : List Value).toArray) s 0 0 (fun _ => False)) (F0 m 14 ls []) := by
        intro n_lp
        induction n_lp with
        | zero =>
          intro i ls hi hn hv
          exact absurd hn (by omega)
        | succ n_lp ih_lp =>
          intro i ls hi hn hv hl
          refine lv_iload_n hx hb dX5_areSettings_14 rfl (lv_at hl 2 rfl) ?_
          refine lv_iconst (v := nI 4) hx hb dX5_areSettings_15 (by decide) ?_
          refine n_icmp_ge (tgt := 37) C (by omega) (by omega) dX5_areSettings_16 (by decide) (fun c16 => ?_) (fun c16 => ?_)
          · skip
            refine lv_iconst (v := 1) hx hb dX5_areSettings_37 (by decide) ?_
            exact r_z C hr hlk (by first | exact Or.inl rfl | exact Or.inr rfl | exact bI_or _) (bit1 (sOK_iff.mpr ⟨by simp only [fa_lt, fa_le, li_0, li_65535] at c1 c7; omega, fun j hj => hv j (by omega)⟩)) dX5_areSettings_38
          · skip
            refine lv_aload_n hx hb dX5_areSettings_19 rfl (lv_at hl 0 rfl) ?_
            refine lv_iload_n hx hb dX5_areSettings_20 rfl (lv_at hl 1 rfl) ?_
            refine lv_iload_n hx hb dX5_areSettings_21 rfl (lv_at hl 2 rfl) ?_
            refine k_i (c_V (As := [.int (all), .int (nI (i))]) (rest := []) C v_X5_86 (c5_setting l g h (all) (i)) ⟨Nat.le_of_ble_eq_true rfl, Nat.le_of_ble_eq_true rfl⟩ (hrec) (trivial) hl.1 rfl rfl (Nat.le_of_ble_eq_true rfl) dX5_areSettings_22 ⟨Nat.le_of_ble_eq_true rfl, Nat.le_of_ble_eq_true rfl⟩) (fun r22 q22 => ?_)
            subst q22
            refine lv_iconst (v := 5) hx hb dX5_areSettings_25 (by decide) ?_
            refine lv_icmp_le (tgt := 31) hx hb dX5_areSettings_26 (by decide) (fun c26 => ?_) (fun c26 => ?_)
            · skip
              refine n_iinc (d := 1) (lv' := [(2, .int (nI (i + 1))), (0, .ref (h)), (1, .int (all))]) C dX5_areSettings_31 (by decide) hl (k := 2) rfl (by decide) rfl (fun ls hl => ?_)
              refine lv_goto (tgt := 14) hx hb dX5_areSettings_34 (by decide) ?_
              exact ih_lp (i + 1) ls (by omega) (by omega) (lt_s1 hv c26) (lv_sub hl [1, 2, 0] rfl)
            · skip
              refine lv_iconst (v := 0) hx hb dX5_areSettings_29 (by decide) ?_
              exact r_z C hr hlk (by first | exact Or.inl rfl | exact Or.inr rfl | exact bI_or _) (bif0 (Bool.eq_false_iff.mpr (fun hz => c26 ((sOK_iff.mp hz).2 i (by omega))))) dX5_areSettings_30
      exact lp (5) (0) ls (by omega) (by omega) (fun j hj => absurd hj (by omega)) (lv_sub hl [1, 2, 0] rfl)
    · skip
      refine lv_iconst (v := 0) hx hb dX5_areSettings_10 (by decide) ?_
      exact r_z C hr hlk (by first | exact Or.inl rfl | exact Or.inr rfl | exact bI_or _) (bif0 (Bool.eq_false_iff.mpr (fun hz => by have hz := (sOK_iff.mp hz).1; simp only [fa_lt, fa_le, li_0, li_65535] at c1 c7; omega))) dX5_areSettings_11
set_option maxHeartbeats 4000000 in
set_option maxRecDepth 100000 in
theorem c5_isOtherWord (l : Launch) (g : GG) (h : Nat) (ad : Nat → Nat) (φ : Nat → Int32) (α : Nat → Nat → Int32) (τ : TB) (hR : MdR φ α τ) (hT : TOK τ) (r i : Nat) (h_r : r < tN τ) (hi : i < 8) : Met l yX5_isOtherWord (.code yX5_isOtherWord cX5_isOtherWord 3 (some .boolean) :: wsL_law) ({ frames := 0, cells := 0, slots := 0, locals := 0 } : Room) (mP g [.ref (h), .int (nI (r)), .int (nI (i))] (fun H => va_P g.1 vwCl (wM g h ad φ α) H)) (vp_Si (fun z => z = bI (chgB (tDat τ) (tRun τ r) i))) 0 0 ((fun _ => False)) := by
  refine mMet (by decide) (Nat.le_of_ble_eq_true rfl) ?_
  intro p e s m below meth c C hr hlk hnm hM ls hl
  have hx := C.1.1
  have hb := C.1.2.1
  have hl : lv_has ls 3 [(0, .ref (h)), (1, .int (nI (r))), (2, .int (nI (i)))] := hl
  have h40 := hT.2.2.1
  have hrec := q_recv C hM 0 rw_0 rfl
  have R_r := hR.run h_r
  have T_r := hT.2.2.2.1 r h_r
  have BC_r := T_r.1
  have BL_r := T_r.2.1
  have BT_r := T_r.2.2.2.2.2.2.1
  have BR_r := T_r.2.2.2.2.2.2.2.1
  have BQ_r : ∀ j, j < (rStp (tRun τ r)).length → (rStp (tRun τ r)).getD j 0 < 256 := fun j hj => T_r.2.2.1 _ (getD_mem hj)
  refine lv_aload_n hx hb dX5_isOtherWord_0 rfl (lv_at hl 0 rfl) ?_
  refine q_get C f_X5_59 hM 0 rw_0 ro_19 dX5_isOtherWord_1 ?_
  refine lv_iload_n hx hb dX5_isOtherWord_4 rfl (lv_at hl 1 rfl) ?_
  refine n_iald C hM 17 rw_19 (by omega) (by decide) dX5_isOtherWord_5 ?_
  refine w_topi (y := (rRW (tRun τ r))) (R_r.rw) ?_
  refine lv_iload_n hx hb dX5_isOtherWord_6 rfl (lv_at hl 2 rfl) ?_
  refine lv_ishr hx hb dX5_isOtherWord_7 ?_
  refine lv_iconst (v := 1) hx hb dX5_isOtherWord_8 (by decide) ?_
  refine lv_iand hx hb dX5_isOtherWord_9 ?_
  refine lv_iconst (v := 1) hx hb dX5_isOtherWord_10 (by decide) ?_
  refine lv_icmp_ne (tgt := 38) hx hb dX5_isOtherWord_11 (by decide) (fun c11 => ?_) (fun c11 => ?_)
  · skip
    refine lv_iconst (v := 0) hx hb dX5_isOtherWord_38 (by decide) ?_
    exact r_z C hr hlk (by first | exact Or.inl rfl | exact Or.inr rfl | exact bI_or _) (bif0 (by simp [chgB, notHas c11])) dX5_isOtherWord_39
  · skip
    refine lv_aload_n hx hb dX5_isOtherWord_14 rfl (lv_at hl 0 rfl) ?_
    refine q_get C f_X5_62 hM 0 rw_0 ro_20 dX5_isOtherWord_15 ?_
    refine lv_bipush (v := nI 8) hx hb dX5_isOtherWord_18 (by decide) ?_
    refine lv_iload_n hx hb dX5_isOtherWord_20 rfl (lv_at hl 1 rfl) ?_
    refine n_imul C dX5_isOtherWord_21 ?_
    refine lv_iload_n hx hb dX5_isOtherWord_22 rfl (lv_at hl 2 rfl) ?_
    refine n_iadd C dX5_isOtherWord_23 ?_
    refine n_iald C hM 18 rw_20 (by omega) (by decide) dX5_isOtherWord_24 ?_
    refine w_topi (y := (rWas (tRun τ r) i)) (R_r.was hi (isHas c11)) ?_
    refine lv_aload_n hx hb dX5_isOtherWord_25 rfl (lv_at hl 0 rfl) ?_
    refine q_get C f_X5_16 hM 0 rw_0 ro_3 dX5_isOtherWord_26 ?_
    refine lv_iload_n hx hb dX5_isOtherWord_29 rfl (lv_at hl 2 rfl) ?_
    refine n_iald C hM 3 rw_3 (by omega) (by decide) dX5_isOtherWord_30 ?_
    refine w_topi (y := (tDat τ i)) (hR.dat (by omega)) ?_
    refine lv_icmp_eq (tgt := 38) hx hb dX5_isOtherWord_31 (by decide) (fun c31 => ?_) (fun c31 => ?_)
    · skip
      refine lv_iconst (v := 0) hx hb dX5_isOtherWord_38 (by decide) ?_
      exact r_z C hr hlk (by first | exact Or.inl rfl | exact Or.inr rfl | exact bI_or _) (bif0 (by simp [chgB, c31])) dX5_isOtherWord_39
    · skip
      refine lv_iconst (v := 1) hx hb dX5_isOtherWord_34 (by decide) ?_
      refine lv_goto (tgt := 39) hx hb dX5_isOtherWord_35 (by decide) ?_
      exact r_z C hr hlk (by first | exact Or.inl rfl | exact Or.inr rfl | exact bI_or _) (bit1 (by simp [chgB, isHas c11, c31])) dX5_isOtherWord_39
set_option maxHeartbeats 4000000 in
set_option maxRecDepth 100000 in
theorem c5_isCodeOf (l : Launch) (g : GG) (h : Nat) (ad : Nat → Nat) (φ : Nat → Int32) (α : Nat → Nat → Int32) (τ : TB) (hR : MdR φ α τ) (hT : TOK τ) (r k : Nat) (h_r : r < tN τ) (h_k : k < 4) : Met l yX5_isCodeOf (.code yX5_isCodeOf cX5_isCodeOf 4 (some .boolean) :: wsL_law) ({ frames := 0, cells := 0, slots := 0, locals := 0 } : Room) (mP g [.ref (h), .int (nI (r)), .int (nI (k))] (fun H => va_P g.1 vwCl (wM g h ad φ α) H)) (vp_Si (fun z => z = bI (decide (rStp (tRun τ r) = tCode τ k)))) 0 0 ((fun _ => False)) := by
  refine mMet (by decide) (Nat.le_of_ble_eq_true rfl) ?_
  intro p e s m below meth c C hr hlk hnm hM ls hl
  have hx := C.1.1
  have hb := C.1.2.1
  have hl : lv_has ls 4 [(0, .ref (h)), (1, .int (nI (r))), (2, .int (nI (k)))] := hl
  have h40 := hT.2.2.1
  have hrec := q_recv C hM 0 rw_0 rfl
  have R_r := hR.run h_r
  have T_r := hT.2.2.2.1 r h_r
  have BC_r := T_r.1
  have BL_r := T_r.2.1
  have BT_r := T_r.2.2.2.2.2.2.1
  have BR_r := T_r.2.2.2.2.2.2.2.1
  have BQ_r : ∀ j, j < (rStp (tRun τ r)).length → (rStp (tRun τ r)).getD j 0 < 256 := fun j hj => T_r.2.2.1 _ (getD_mem hj)
  have CL_k := (hT.1 k h_k).1
  have CQ_k : ∀ j, j < (tCode τ k).length → (tCode τ k).getD j 0 < 256 := fun j hj => (hT.1 k h_k).2 _ (getD_mem hj)
  refine lv_aload_n hx hb dX5_isCodeOf_0 rfl (lv_at hl 0 rfl) ?_
  refine q_get C f_X5_25 hM 0 rw_0 ro_8 dX5_isCodeOf_1 ?_
  refine lv_iload_n hx hb dX5_isCodeOf_4 rfl (lv_at hl 1 rfl) ?_
  refine n_iald C hM 6 rw_8 (by omega) (by decide) dX5_isCodeOf_5 ?_
  refine w_topi (y := (nI ((rStp (tRun τ r)).length))) (R_r.len) ?_
  refine lv_aload_n hx hb dX5_isCodeOf_6 rfl (lv_at hl 0 rfl) ?_
  refine q_get C f_X5_7 hM 0 rw_0 ro_1 dX5_isCodeOf_7 ?_
  refine lv_iload_n hx hb dX5_isCodeOf_10 rfl (lv_at hl 2 rfl) ?_
  refine n_iald C hM 1 rw_1 (by omega) (by decide) dX5_isCodeOf_11 ?_
  refine w_topi (y := (nI ((tCode τ k).length))) (hR.cl h_k) ?_
  refine n_icmp_eq (tgt := 17) C (by omega) (by omega) dX5_isCodeOf_12 (by decide) (fun c12 => ?_) (fun c12 => ?_)
  · skip
    refine lv_iconst (v := nI 0) hx hb dX5_isCodeOf_17 (by decide) ?_
    refine lv_istore_n (lv' := [(3, .int (nI (0))), (0, .ref (h)), (1, .int (nI (r))), (2, .int (nI (k)))]) hx hb dX5_isCodeOf_18 rfl hl (by decide) rfl (fun ls hl => ?_)
    have lp : ∀ (n_lp : Nat) (i : Nat) (ls : Array Slot), (i ≤ (rStp (tRun τ r)).length) → ((rStp (tRun τ r)).length + 1 ≤ i + n_lp) → (∀ j, j < i → (rStp (tRun τ r)).getD j 0 = (tCode τ k).getD j 0) → lv_has ls 4 [(0, .ref (h)), (1, .int (nI (r))), (2, .int (nI (k))), (3, .int (nI (i)))] → W p l e ({ frames := 0, cells := 0, slots := 0, locals := 0 } : Room) s m ([.ref (h), .int (nI (r)), .int (nI (k))] : List Value).toArray below meth c s.heap [] 0 0 (MQ below (vp_Si (fun z => z = bI (decide (rStp (tRun τ r) = tCode τ k)))) (([.ref (h), .int (nI (r)), .int (nI (k))] : List Value).toArray) s 0 0 (fun _ => False)) (F0 m 19 ls []) := by
      intro n_lp
      induction n_lp with
      | zero =>
        intro i ls hi hn hv
        exact absurd hn (by omega)
      | succ n_lp ih_lp =>
        intro i ls hi hn hv hl
        refine lv_iload_n hx hb dX5_isCodeOf_19 rfl (lv_at hl 3 rfl) ?_
        refine lv_aload_n hx hb dX5_isCodeOf_20 rfl (lv_at hl 0 rfl) ?_
        refine q_get C f_X5_25 hM 0 rw_0 ro_8 dX5_isCodeOf_21 ?_
        refine lv_iload_n hx hb dX5_isCodeOf_24 rfl (lv_at hl 1 rfl) ?_
        refine n_iald C hM 6 rw_8 (by omega) (by decide) dX5_isCodeOf_25 ?_
        refine w_topi (y := (nI ((rStp (tRun τ r)).length))) (R_r.len) ?_
        refine n_icmp_ge (tgt := 62) C (by omega) (by omega) dX5_isCodeOf_26 (by decide) (fun c26 => ?_) (fun c26 => ?_)
        · skip
          refine lv_iconst (v := 1) hx hb dX5_isCodeOf_62 (by decide) ?_
          exact r_z C hr hlk (by first | exact Or.inl rfl | exact Or.inr rfl | exact bI_or _) (bit1 (decide_eq_true (listEq c12 (fun j hj => hv j (by omega))))) dX5_isCodeOf_63
        · skip
          refine lv_aload_n hx hb dX5_isCodeOf_29 rfl (lv_at hl 0 rfl) ?_
          refine q_get C f_X5_28 hM 0 rw_0 ro_9 dX5_isCodeOf_30 ?_
          refine lv_bipush (v := nI 8) hx hb dX5_isCodeOf_33 (by decide) ?_
          refine lv_iload_n hx hb dX5_isCodeOf_35 rfl (lv_at hl 1 rfl) ?_
          refine n_imul C dX5_isCodeOf_36 ?_
          refine lv_iload_n hx hb dX5_isCodeOf_37 rfl (lv_at hl 3 rfl) ?_
          refine n_iadd C dX5_isCodeOf_38 ?_
          refine n_iald C hM 7 rw_9 (by omega) (by decide) dX5_isCodeOf_39 ?_
          refine w_topi (y := (nI ((rStp (tRun τ r)).getD i 0))) (R_r.stp (by omega)) ?_
          refine lv_aload_n hx hb dX5_isCodeOf_40 rfl (lv_at hl 0 rfl) ?_
          refine q_get C f_X5_13 hM 0 rw_0 ro_2 dX5_isCodeOf_41 ?_
          refine lv_bipush (v := nI 8) hx hb dX5_isCodeOf_44 (by decide) ?_
          refine lv_iload_n hx hb dX5_isCodeOf_46 rfl (lv_at hl 2 rfl) ?_
          refine n_imul C dX5_isCodeOf_47 ?_
          refine lv_iload_n hx hb dX5_isCodeOf_48 rfl (lv_at hl 3 rfl) ?_
          refine n_iadd C dX5_isCodeOf_49 ?_
          refine n_iald C hM 2 rw_2 (by omega) (by decide) dX5_isCodeOf_50 ?_
          refine w_topi (y := (nI ((tCode τ k).getD i 0))) (hR.cs h_k (by omega)) ?_
          have b1 := BQ_r i (by omega)
          have b2 := CQ_k i (by omega)
          refine n_icmp_eq (tgt := 56) C (by omega) (by omega) dX5_isCodeOf_51 (by decide) (fun c51 => ?_) (fun c51 => ?_)
          · skip
            refine n_iinc (d := 1) (lv' := [(3, .int (nI (i + 1))), (0, .ref (h)), (1, .int (nI (r))), (2, .int (nI (k)))]) C dX5_isCodeOf_56 (by decide) hl (k := 3) rfl (by decide) rfl (fun ls hl => ?_)
            refine lv_goto (tgt := 19) hx hb dX5_isCodeOf_59 (by decide) ?_
            exact ih_lp (i + 1) ls (by omega) (by omega) (lt_s1 hv c51) (lv_sub hl [1, 2, 3, 0] rfl)
          · skip
            refine lv_iconst (v := 0) hx hb dX5_isCodeOf_54 (by decide) ?_
            exact r_z C hr hlk (by first | exact Or.inl rfl | exact Or.inr rfl | exact bI_or _) (bif0 (decide_eq_false (fun hz => c51 (by rw [hz])))) dX5_isCodeOf_55
    exact lp ((rStp (tRun τ r)).length + 1) (0) ls (by omega) (by omega) (fun j hj => absurd hj (by omega)) (lv_sub hl [1, 2, 3, 0] rfl)
  · skip
    refine lv_iconst (v := 0) hx hb dX5_isCodeOf_15 (by decide) ?_
    exact r_z C hr hlk (by first | exact Or.inl rfl | exact Or.inr rfl | exact bI_or _) (bif0 (decide_eq_false (fun hz => c12 (by rw [hz])))) dX5_isCodeOf_16
set_option maxHeartbeats 4000000 in
set_option maxRecDepth 100000 in
theorem c5_isLikeCode (l : Launch) (g : GG) (h : Nat) (ad : Nat → Nat) (φ : Nat → Int32) (α : Nat → Nat → Int32) (τ : TB) (hR : MdR φ α τ) (hT : TOK τ) (u v : Nat) (h_u : u < tN τ) (h_v : v < tN τ) : Met l yX5_isLikeCode (.code yX5_isLikeCode cX5_isLikeCode 4 (some .boolean) :: wsL_law) ({ frames := 0, cells := 0, slots := 0, locals := 0 } : Room) (mP g [.ref (h), .int (nI (u)), .int (nI (v))] (fun H => va_P g.1 vwCl (wM g h ad φ α) H)) (vp_Si (fun z => z = bI (decide (rStp (tRun τ u) = rStp (tRun τ v))))) 0 0 ((fun _ => False)) := by
  refine mMet (by decide) (Nat.le_of_ble_eq_true rfl) ?_
  intro p e s m below meth c C hr hlk hnm hM ls hl
  have hx := C.1.1
  have hb := C.1.2.1
  have hl : lv_has ls 4 [(0, .ref (h)), (1, .int (nI (u))), (2, .int (nI (v)))] := hl
  have h40 := hT.2.2.1
  have hrec := q_recv C hM 0 rw_0 rfl
  have R_u := hR.run h_u
  have T_u := hT.2.2.2.1 u h_u
  have BC_u := T_u.1
  have BL_u := T_u.2.1
  have BT_u := T_u.2.2.2.2.2.2.1
  have BR_u := T_u.2.2.2.2.2.2.2.1
  have BQ_u : ∀ j, j < (rStp (tRun τ u)).length → (rStp (tRun τ u)).getD j 0 < 256 := fun j hj => T_u.2.2.1 _ (getD_mem hj)
  have R_v := hR.run h_v
  have T_v := hT.2.2.2.1 v h_v
  have BC_v := T_v.1
  have BL_v := T_v.2.1
  have BT_v := T_v.2.2.2.2.2.2.1
  have BR_v := T_v.2.2.2.2.2.2.2.1
  have BQ_v : ∀ j, j < (rStp (tRun τ v)).length → (rStp (tRun τ v)).getD j 0 < 256 := fun j hj => T_v.2.2.1 _ (getD_mem hj)
  refine lv_aload_n hx hb dX5_isLikeCode_0 rfl (lv_at hl 0 rfl) ?_
  refine q_get C f_X5_25 hM 0 rw_0 ro_8 dX5_isLikeCode_1 ?_
  refine lv_iload_n hx hb dX5_isLikeCode_4 rfl (lv_at hl 1 rfl) ?_
  refine n_iald C hM 6 rw_8 (by omega) (by decide) dX5_isLikeCode_5 ?_
  refine w_topi (y := (nI ((rStp (tRun τ u)).length))) (R_u.len) ?_
  refine lv_aload_n hx hb dX5_isLikeCode_6 rfl (lv_at hl 0 rfl) ?_
  refine q_get C f_X5_25 hM 0 rw_0 ro_8 dX5_isLikeCode_7 ?_
  refine lv_iload_n hx hb dX5_isLikeCode_10 rfl (lv_at hl 2 rfl) ?_
  refine n_iald C hM 6 rw_8 (by omega) (by decide) dX5_isLikeCode_11 ?_
  refine w_topi (y := (nI ((rStp (tRun τ v)).length))) (R_v.len) ?_
  refine n_icmp_eq (tgt := 17) C (by omega) (by omega) dX5_isLikeCode_12 (by decide) (fun c12 => ?_) (fun c12 => ?_)
  · skip
    refine lv_iconst (v := nI 0) hx hb dX5_isLikeCode_17 (by decide) ?_
    refine lv_istore_n (lv' := [(3, .int (nI (0))), (0, .ref (h)), (1, .int (nI (u))), (2, .int (nI (v)))]) hx hb dX5_isLikeCode_18 rfl hl (by decide) rfl (fun ls hl => ?_)
    have lp : ∀ (n_lp : Nat) (i : Nat) (ls : Array Slot), (i ≤ (rStp (tRun τ u)).length) → ((rStp (tRun τ u)).length + 1 ≤ i + n_lp) → (∀ j, j < i → (rStp (tRun τ u)).getD j 0 = (rStp (tRun τ v)).getD j 0) → lv_has ls 4 [(0, .ref (h)), (1, .int (nI (u))), (2, .int (nI (v))), (3, .int (nI (i)))] → W p l e ({ frames := 0, cells := 0, slots := 0, locals := 0 } : Room) s m ([.ref (h), .int (nI (u)), .int (nI (v))] : List Value).toArray below meth c s.heap [] 0 0 (MQ below (vp_Si (fun z => z = bI (decide (rStp (tRun τ u) = rStp (tRun τ v))))) (([.ref (h), .int (nI (u)), .int (nI (v))] : List Value).toArray) s 0 0 (fun _ => False)) (F0 m 19 ls []) := by
      intro n_lp
      induction n_lp with
      | zero =>
        intro i ls hi hn hv
        exact absurd hn (by omega)
      | succ n_lp ih_lp =>
        intro i ls hi hn hv hl
        refine lv_iload_n hx hb dX5_isLikeCode_19 rfl (lv_at hl 3 rfl) ?_
        refine lv_aload_n hx hb dX5_isLikeCode_20 rfl (lv_at hl 0 rfl) ?_
        refine q_get C f_X5_25 hM 0 rw_0 ro_8 dX5_isLikeCode_21 ?_
        refine lv_iload_n hx hb dX5_isLikeCode_24 rfl (lv_at hl 1 rfl) ?_
        refine n_iald C hM 6 rw_8 (by omega) (by decide) dX5_isLikeCode_25 ?_
        refine w_topi (y := (nI ((rStp (tRun τ u)).length))) (R_u.len) ?_
        refine n_icmp_ge (tgt := 62) C (by omega) (by omega) dX5_isLikeCode_26 (by decide) (fun c26 => ?_) (fun c26 => ?_)
        · skip
          refine lv_iconst (v := 1) hx hb dX5_isLikeCode_62 (by decide) ?_
          exact r_z C hr hlk (by first | exact Or.inl rfl | exact Or.inr rfl | exact bI_or _) (bit1 (decide_eq_true (listEq c12 (fun j hj => hv j (by omega))))) dX5_isLikeCode_63
        · skip
          refine lv_aload_n hx hb dX5_isLikeCode_29 rfl (lv_at hl 0 rfl) ?_
          refine q_get C f_X5_28 hM 0 rw_0 ro_9 dX5_isLikeCode_30 ?_
          refine lv_bipush (v := nI 8) hx hb dX5_isLikeCode_33 (by decide) ?_
          refine lv_iload_n hx hb dX5_isLikeCode_35 rfl (lv_at hl 1 rfl) ?_
          refine n_imul C dX5_isLikeCode_36 ?_
          refine lv_iload_n hx hb dX5_isLikeCode_37 rfl (lv_at hl 3 rfl) ?_
          refine n_iadd C dX5_isLikeCode_38 ?_
          refine n_iald C hM 7 rw_9 (by omega) (by decide) dX5_isLikeCode_39 ?_
          refine w_topi (y := (nI ((rStp (tRun τ u)).getD i 0))) (R_u.stp (by omega)) ?_
          refine lv_aload_n hx hb dX5_isLikeCode_40 rfl (lv_at hl 0 rfl) ?_
          refine q_get C f_X5_28 hM 0 rw_0 ro_9 dX5_isLikeCode_41 ?_
          refine lv_bipush (v := nI 8) hx hb dX5_isLikeCode_44 (by decide) ?_
          refine lv_iload_n hx hb dX5_isLikeCode_46 rfl (lv_at hl 2 rfl) ?_
          refine n_imul C dX5_isLikeCode_47 ?_
          refine lv_iload_n hx hb dX5_isLikeCode_48 rfl (lv_at hl 3 rfl) ?_
          refine n_iadd C dX5_isLikeCode_49 ?_
          refine n_iald C hM 7 rw_9 (by omega) (by decide) dX5_isLikeCode_50 ?_
          refine w_topi (y := (nI ((rStp (tRun τ v)).getD i 0))) (R_v.stp (by omega)) ?_
          have b1 := BQ_u i (by omega)
          have b2 := BQ_v i (by omega)
          refine n_icmp_eq (tgt := 56) C (by omega) (by omega) dX5_isLikeCode_51 (by decide) (fun c51 => ?_) (fun c51 => ?_)
          · skip
            refine n_iinc (d := 1) (lv' := [(3, .int (nI (i + 1))), (0, .ref (h)), (1, .int (nI (u))), (2, .int (nI (v)))]) C dX5_isLikeCode_56 (by decide) hl (k := 3) rfl (by decide) rfl (fun ls hl => ?_)
            refine lv_goto (tgt := 19) hx hb dX5_isLikeCode_59 (by decide) ?_
            exact ih_lp (i + 1) ls (by omega) (by omega) (lt_s1 hv c51) (lv_sub hl [1, 2, 3, 0] rfl)
          · skip
            refine lv_iconst (v := 0) hx hb dX5_isLikeCode_54 (by decide) ?_
            exact r_z C hr hlk (by first | exact Or.inl rfl | exact Or.inr rfl | exact bI_or _) (bif0 (decide_eq_false (fun hz => c51 (by rw [hz])))) dX5_isLikeCode_55
    exact lp ((rStp (tRun τ u)).length + 1) (0) ls (by omega) (by omega) (fun j hj => absurd hj (by omega)) (lv_sub hl [1, 2, 3, 0] rfl)
  · skip
    refine lv_iconst (v := 0) hx hb dX5_isLikeCode_15 (by decide) ?_
    exact r_z C hr hlk (by first | exact Or.inl rfl | exact Or.inr rfl | exact bI_or _) (bif0 (decide_eq_false (fun hz => c12 (by rw [hz])))) dX5_isLikeCode_16
set_option maxHeartbeats 4000000 in
set_option maxRecDepth 100000 in
theorem c5_isStale (l : Launch) (g : GG) (h : Nat) (ad : Nat → Nat) (φ : Nat → Int32) (α : Nat → Nat → Int32) (τ : TB) (hR : MdR φ α τ) (hT : TOK τ) (r : Nat) (h_r : r < tN τ) : Met l yX5_isStale (.code yX5_isStale cX5_isStale 3 (some .boolean) :: wsL_law) ({ frames := 1, cells := 0, slots := 0, locals := 23 } : Room) (mP g [.ref (h), .int (nI (r))] (fun H => va_P g.1 vwCl (wM g h ad φ α) H)) (vp_Si (fun z => z = bI (staleB τ (tRun τ r)))) 0 0 ((fun _ => False)) := by
  refine mMet (by decide) (Nat.le_of_ble_eq_true rfl) ?_
  intro p e s m below meth c C hr hlk hnm hM ls hl
  have hx := C.1.1
  have hb := C.1.2.1
  have hl : lv_has ls 3 [(0, .ref (h)), (1, .int (nI (r)))] := hl
  have h40 := hT.2.2.1
  have hrec := q_recv C hM 0 rw_0 rfl
  have R_r := hR.run h_r
  have T_r := hT.2.2.2.1 r h_r
  have BC_r := T_r.1
  have BL_r := T_r.2.1
  have BT_r := T_r.2.2.2.2.2.2.1
  have BR_r := T_r.2.2.2.2.2.2.2.1
  have BQ_r : ∀ j, j < (rStp (tRun τ r)).length → (rStp (tRun τ r)).getD j 0 < 256 := fun j hj => T_r.2.2.1 _ (getD_mem hj)
  refine lv_aload_n hx hb dX5_isStale_0 rfl (lv_at hl 0 rfl) ?_
  refine lv_iload_n hx hb dX5_isStale_1 rfl (lv_at hl 1 rfl) ?_
  refine lv_aload_n hx hb dX5_isStale_2 rfl (lv_at hl 0 rfl) ?_
  refine q_get C f_X5_22 hM 0 rw_0 ro_7 dX5_isStale_3 ?_
  refine lv_iload_n hx hb dX5_isStale_6 rfl (lv_at hl 1 rfl) ?_
  refine n_iald C hM 5 rw_7 (by omega) (by decide) dX5_isStale_7 ?_
  refine w_topi (y := (nI (rCode (tRun τ r)))) (R_r.code) ?_
  refine k_i (c_V (As := [.int (nI (r)), .int (nI (rCode (tRun τ r)))]) (rest := []) C v_X5_145 (c5_isCodeOf l g h ad φ α τ hR hT r (rCode (tRun τ r)) (by omega) (by omega)) ⟨Nat.le_of_ble_eq_true rfl, Nat.le_of_ble_eq_true rfl⟩ (hrec) (hM) hl.1 rfl rfl (Nat.le_of_ble_eq_true rfl) dX5_isStale_8 ⟨Nat.le_of_ble_eq_true rfl, Nat.le_of_ble_eq_true rfl⟩) (fun r8 q8 => ?_)
  subst q8
  refine b_ifne (tgt := 16) C dX5_isStale_11 (by decide) (fun c11 => ?_) (fun c11 => ?_)
  · skip
    refine lv_iconst (v := nI 0) hx hb dX5_isStale_16 (by decide) ?_
    refine lv_istore_n (lv' := [(2, .int (nI (0))), (0, .ref (h)), (1, .int (nI (r)))]) hx hb dX5_isStale_17 rfl hl (by decide) rfl (fun ls hl => ?_)
    have lp : ∀ (n_lp : Nat) (i : Nat) (ls : Array Slot), (i ≤ 8) → (8 + 1 ≤ i + n_lp) → (∀ j, j < i → chgB (tDat τ) (tRun τ r) j = false) → lv_has ls 3 [(0, .ref (h)), (1, .int (nI (r))), (2, .int (nI (i)))] → W p l e ({ frames := 1, cells := 0, slots := 0, locals := 23 } : Room) s m ([.ref (h), .int (nI (r))] : List Value).toArray below meth c s.heap [] 0 0 (MQ below (vp_Si (fun z => z = bI (staleB τ (tRun τ r)))) (([.ref (h), .int (nI (r))] : List Value).toArray) s 0 0 (fun _ => False)) (F0 m 18 ls []) := by
      intro n_lp
      induction n_lp with
      | zero =>
        intro i ls hi hn hv
        exact absurd hn (by omega)
      | succ n_lp ih_lp =>
        intro i ls hi hn hv hl
        refine lv_iload_n hx hb dX5_isStale_18 rfl (lv_at hl 2 rfl) ?_
        refine lv_bipush (v := nI 8) hx hb dX5_isStale_19 (by decide) ?_
        refine n_icmp_ge (tgt := 41) C (by omega) (by omega) dX5_isStale_21 (by decide) (fun c21 => ?_) (fun c21 => ?_)
        · skip
          refine lv_iconst (v := 0) hx hb dX5_isStale_41 (by decide) ?_
          exact r_z C hr hlk (by first | exact Or.inl rfl | exact Or.inr rfl | exact bI_or _) (bif0 (by simp only [staleB]; rw [c11, anyRf (fun j hj => hv j (by omega))]; rfl)) dX5_isStale_42
        · skip
          refine lv_aload_n hx hb dX5_isStale_24 rfl (lv_at hl 0 rfl) ?_
          refine lv_iload_n hx hb dX5_isStale_25 rfl (lv_at hl 1 rfl) ?_
          refine lv_iload_n hx hb dX5_isStale_26 rfl (lv_at hl 2 rfl) ?_
          refine k_i (c_V (As := [.int (nI (r)), .int (nI (i))]) (rest := []) C v_X5_149 (c5_isOtherWord l g h ad φ α τ hR hT r i (by omega) (by omega)) ⟨Nat.le_of_ble_eq_true rfl, Nat.le_of_ble_eq_true rfl⟩ (hrec) (hM) hl.1 rfl rfl (Nat.le_of_ble_eq_true rfl) dX5_isStale_27 ⟨Nat.le_of_ble_eq_true rfl, Nat.le_of_ble_eq_true rfl⟩) (fun r27 q27 => ?_)
          subst q27
          refine b_ifeq (tgt := 35) C dX5_isStale_30 (by decide) (fun c30 => ?_) (fun c30 => ?_)
          · skip
            refine n_iinc (d := 1) (lv' := [(2, .int (nI (i + 1))), (0, .ref (h)), (1, .int (nI (r)))]) C dX5_isStale_35 (by decide) hl (k := 2) rfl (by decide) rfl (fun ls hl => ?_)
            refine lv_goto (tgt := 18) hx hb dX5_isStale_38 (by decide) ?_
            exact ih_lp (i + 1) ls (by omega) (by omega) (lt_s1 hv c30) (lv_sub hl [1, 2, 0] rfl)
          · skip
            refine lv_iconst (v := 1) hx hb dX5_isStale_33 (by decide) ?_
            exact r_z C hr hlk (by first | exact Or.inl rfl | exact Or.inr rfl | exact bI_or _) (bit1 (by simp only [staleB]; rw [anyR (by omega) c30, Bool.or_true])) dX5_isStale_34
    exact lp (9) (0) ls (by omega) (by omega) (fun j hj => absurd hj (by omega)) (lv_sub hl [1, 2, 0] rfl)
  · skip
    refine lv_iconst (v := 1) hx hb dX5_isStale_14 (by decide) ?_
    exact r_z C hr hlk (by first | exact Or.inl rfl | exact Or.inr rfl | exact bI_or _) (bit1 (by simp only [staleB]; rw [c11]; rfl)) dX5_isStale_15
set_option maxHeartbeats 4000000 in
set_option maxRecDepth 100000 in
theorem c5_mayBe (l : Launch) (g : GG) (h : Nat) (ad : Nat → Nat) (φ : Nat → Int32) (α : Nat → Nat → Int32) (τ : TB) (hR : MdR φ α τ) (hT : TOK τ) (r tk : Nat) (h_r : r < tN τ) (htk : tk ≤ 16) : Met l yX5_mayBe (.code yX5_mayBe cX5_mayBe 3 (some .boolean) :: wsL_law) ({ frames := 0, cells := 0, slots := 0, locals := 0 } : Room) (mP g [.ref (h), .int (nI (r)), .int (nI (tk))] (fun H => va_P g.1 vwCl (wM g h ad φ α) H)) (vp_Si (fun z => z = bI (mayB (tRun τ r) tk))) 0 0 ((fun _ => False)) := by
  refine mMet (by decide) (Nat.le_of_ble_eq_true rfl) ?_
  intro p e s m below meth c C hr hlk hnm hM ls hl
  have hx := C.1.1
  have hb := C.1.2.1
  have hl : lv_has ls 3 [(0, .ref (h)), (1, .int (nI (r))), (2, .int (nI (tk)))] := hl
  have h40 := hT.2.2.1
  have hrec := q_recv C hM 0 rw_0 rfl
  have R_r := hR.run h_r
  have T_r := hT.2.2.2.1 r h_r
  have BC_r := T_r.1
  have BL_r := T_r.2.1
  have BT_r := T_r.2.2.2.2.2.2.1
  have BR_r := T_r.2.2.2.2.2.2.2.1
  have BQ_r : ∀ j, j < (rStp (tRun τ r)).length → (rStp (tRun τ r)).getD j 0 < 256 := fun j hj => T_r.2.2.1 _ (getD_mem hj)
  refine lv_aload_n hx hb dX5_mayBe_0 rfl (lv_at hl 0 rfl) ?_
  refine q_get C f_X5_50 hM 0 rw_0 ro_16 dX5_mayBe_1 ?_
  refine lv_iload_n hx hb dX5_mayBe_4 rfl (lv_at hl 1 rfl) ?_
  refine n_iald C hM 14 rw_16 (by omega) (by decide) dX5_mayBe_5 ?_
  refine w_topi (y := (rOrg (tRun τ r))) (R_r.org) ?_
  refine lv_iconst (v := (-1)) hx hb dX5_mayBe_6 (by decide) ?_
  refine lv_icmp_ne (tgt := 42) hx hb dX5_mayBe_7 (by decide) (fun c7 => ?_) (fun c7 => ?_)
  · skip
    refine lv_iconst (v := 0) hx hb dX5_mayBe_42 (by decide) ?_
    exact r_z C hr hlk (by first | exact Or.inl rfl | exact Or.inr rfl | exact bI_or _) (bif0 (by simp [mayB, c7])) dX5_mayBe_43
  · skip
    refine lv_aload_n hx hb dX5_mayBe_10 rfl (lv_at hl 0 rfl) ?_
    refine q_get C f_X5_46 hM 0 rw_0 ro_15 dX5_mayBe_11 ?_
    refine lv_iload_n hx hb dX5_mayBe_14 rfl (lv_at hl 1 rfl) ?_
    refine n_zald C hM 13 rw_15 (by omega) (by decide) dX5_mayBe_15 ?_
    refine w_topi (y := (bI (rBr (tRun τ r)))) (R_r.br) ?_
    refine b_ifne (tgt := 42) C dX5_mayBe_16 (by decide) (fun c16 => ?_) (fun c16 => ?_)
    · skip
      refine lv_iconst (v := 0) hx hb dX5_mayBe_42 (by decide) ?_
      exact r_z C hr hlk (by first | exact Or.inl rfl | exact Or.inr rfl | exact bI_or _) (bif0 (by simp [mayB, c7, c16])) dX5_mayBe_43
    · skip
      refine lv_aload_n hx hb dX5_mayBe_19 rfl (lv_at hl 0 rfl) ?_
      refine q_get C f_X5_68 hM 0 rw_0 ro_22 dX5_mayBe_20 ?_
      refine lv_iload_n hx hb dX5_mayBe_23 rfl (lv_at hl 1 rfl) ?_
      refine n_zald C hM 20 rw_22 (by omega) (by decide) dX5_mayBe_24 ?_
      refine w_topi (y := (bI (rCk (tRun τ r)))) (R_r.ck) ?_
      refine b_ifne (tgt := 42) C dX5_mayBe_25 (by decide) (fun c25 => ?_) (fun c25 => ?_)
      · skip
        refine lv_iconst (v := 0) hx hb dX5_mayBe_42 (by decide) ?_
        exact r_z C hr hlk (by first | exact Or.inl rfl | exact Or.inr rfl | exact bI_or _) (bif0 (by simp [mayB, c7, c16, c25])) dX5_mayBe_43
      · skip
        refine lv_aload_n hx hb dX5_mayBe_28 rfl (lv_at hl 0 rfl) ?_
        refine q_get C f_X5_37 hM 0 rw_0 ro_12 dX5_mayBe_29 ?_
        refine lv_iload_n hx hb dX5_mayBe_32 rfl (lv_at hl 1 rfl) ?_
        refine n_iald C hM 10 rw_12 (by omega) (by decide) dX5_mayBe_33 ?_
        refine w_topi (y := (nI (rTk (tRun τ r)))) (R_r.tk) ?_
        refine lv_iload_n hx hb dX5_mayBe_34 rfl (lv_at hl 2 rfl) ?_
        refine n_icmp_ne (tgt := 42) C (by omega) (by omega) dX5_mayBe_35 (by decide) (fun c35 => ?_) (fun c35 => ?_)
        · skip
          refine lv_iconst (v := 0) hx hb dX5_mayBe_42 (by decide) ?_
          exact r_z C hr hlk (by first | exact Or.inl rfl | exact Or.inr rfl | exact bI_or _) (bif0 (by simp [mayB, c7, c16, c25, c35])) dX5_mayBe_43
        · skip
          refine lv_iconst (v := 1) hx hb dX5_mayBe_38 (by decide) ?_
          refine lv_goto (tgt := 43) hx hb dX5_mayBe_39 (by decide) ?_
          exact r_z C hr hlk (by first | exact Or.inl rfl | exact Or.inr rfl | exact bI_or _) (bit1 (by simp [mayB, c7, c16, c25, c35])) dX5_mayBe_43
set_option maxHeartbeats 4000000 in
set_option maxRecDepth 100000 in
theorem c5_isLike (l : Launch) (g : GG) (h : Nat) (ad : Nat → Nat) (φ : Nat → Int32) (α : Nat → Nat → Int32) (τ : TB) (hR : MdR φ α τ) (hT : TOK τ) (u v : Nat) (h_u : u < tN τ) (h_v : v < tN τ) : Met l yX5_isLike (.code yX5_isLike cX5_isLike 4 (some .boolean) :: wsL_law) ({ frames := 1, cells := 0, slots := 0, locals := 23 } : Room) (mP g [.ref (h), .int (nI (u)), .int (nI (v))] (fun H => va_P g.1 vwCl (wM g h ad φ α) H)) (vp_Si (fun z => z = bI (likeB (tRun τ u) (tRun τ v)))) 0 0 ((fun _ => False)) := by
  refine mMet (by decide) (Nat.le_of_ble_eq_true rfl) ?_
  intro p e s m below meth c C hr hlk hnm hM ls hl
  have hx := C.1.1
  have hb := C.1.2.1
  have hl : lv_has ls 4 [(0, .ref (h)), (1, .int (nI (u))), (2, .int (nI (v)))] := hl
  have h40 := hT.2.2.1
  have hrec := q_recv C hM 0 rw_0 rfl
  have R_u := hR.run h_u
  have T_u := hT.2.2.2.1 u h_u
  have BC_u := T_u.1
  have BL_u := T_u.2.1
  have BT_u := T_u.2.2.2.2.2.2.1
  have BR_u := T_u.2.2.2.2.2.2.2.1
  have BQ_u : ∀ j, j < (rStp (tRun τ u)).length → (rStp (tRun τ u)).getD j 0 < 256 := fun j hj => T_u.2.2.1 _ (getD_mem hj)
  have R_v := hR.run h_v
  have T_v := hT.2.2.2.1 v h_v
  have BC_v := T_v.1
  have BL_v := T_v.2.1
  have BT_v := T_v.2.2.2.2.2.2.1
  have BR_v := T_v.2.2.2.2.2.2.2.1
  have BQ_v : ∀ j, j < (rStp (tRun τ v)).length → (rStp (tRun τ v)).getD j 0 < 256 := fun j hj => T_v.2.2.1 _ (getD_mem hj)
  refine lv_aload_n hx hb dX5_isLike_0 rfl (lv_at hl 0 rfl) ?_
  refine lv_iload_n hx hb dX5_isLike_1 rfl (lv_at hl 1 rfl) ?_
  refine lv_iload_n hx hb dX5_isLike_2 rfl (lv_at hl 2 rfl) ?_
  refine k_i (c_V (As := [.int (nI (u)), .int (nI (v))]) (rest := []) C v_X5_159 (c5_isLikeCode l g h ad φ α τ hR hT u v h_u h_v) ⟨Nat.le_of_ble_eq_true rfl, Nat.le_of_ble_eq_true rfl⟩ (hrec) (hM) hl.1 rfl rfl (Nat.le_of_ble_eq_true rfl) dX5_isLike_3 ⟨Nat.le_of_ble_eq_true rfl, Nat.le_of_ble_eq_true rfl⟩) (fun r3 q3 => ?_)
  subst q3
  refine b_ifeq (tgt := 39) C dX5_isLike_6 (by decide) (fun c6 => ?_) (fun c6 => ?_)
  · skip
    have c6b := of_decide_eq_false c6
    refine lv_iconst (v := 0) hx hb dX5_isLike_39 (by decide) ?_
    exact r_z C hr hlk (by first | exact Or.inl rfl | exact Or.inr rfl | exact bI_or _) (bif0 (by unfold likeB; simp [c6b])) dX5_isLike_40
  · skip
    have c6b := of_decide_eq_true c6
    refine lv_aload_n hx hb dX5_isLike_9 rfl (lv_at hl 0 rfl) ?_
    refine q_get C f_X5_34 hM 0 rw_0 ro_11 dX5_isLike_10 ?_
    refine lv_iload_n hx hb dX5_isLike_13 rfl (lv_at hl 1 rfl) ?_
    refine n_iald C hM 9 rw_11 (by omega) (by decide) dX5_isLike_14 ?_
    refine w_topi (y := (rSeed (tRun τ u))) (R_u.seed) ?_
    refine lv_aload_n hx hb dX5_isLike_15 rfl (lv_at hl 0 rfl) ?_
    refine q_get C f_X5_34 hM 0 rw_0 ro_11 dX5_isLike_16 ?_
    refine lv_iload_n hx hb dX5_isLike_19 rfl (lv_at hl 2 rfl) ?_
    refine n_iald C hM 9 rw_11 (by omega) (by decide) dX5_isLike_20 ?_
    refine w_topi (y := (rSeed (tRun τ v))) (R_v.seed) ?_
    refine lv_icmp_ne (tgt := 39) hx hb dX5_isLike_21 (by decide) (fun c21 => ?_) (fun c21 => ?_)
    · skip
      refine lv_iconst (v := 0) hx hb dX5_isLike_39 (by decide) ?_
      exact r_z C hr hlk (by first | exact Or.inl rfl | exact Or.inr rfl | exact bI_or _) (bif0 (by unfold likeB; simp [c6b, c21])) dX5_isLike_40
    · skip
      refine lv_aload_n hx hb dX5_isLike_24 rfl (lv_at hl 0 rfl) ?_
      refine q_get C f_X5_37 hM 0 rw_0 ro_12 dX5_isLike_25 ?_
      refine lv_iload_n hx hb dX5_isLike_28 rfl (lv_at hl 1 rfl) ?_
      refine n_iald C hM 10 rw_12 (by omega) (by decide) dX5_isLike_29 ?_
      refine w_topi (y := (nI (rTk (tRun τ u)))) (R_u.tk) ?_
      refine lv_aload_n hx hb dX5_isLike_30 rfl (lv_at hl 0 rfl) ?_
      refine q_get C f_X5_37 hM 0 rw_0 ro_12 dX5_isLike_31 ?_
      refine lv_iload_n hx hb dX5_isLike_34 rfl (lv_at hl 2 rfl) ?_
      refine n_iald C hM 10 rw_12 (by omega) (by decide) dX5_isLike_35 ?_
      refine w_topi (y := (nI (rTk (tRun τ v)))) (R_v.tk) ?_
      refine n_icmp_eq (tgt := 41) C (by omega) (by omega) dX5_isLike_36 (by decide) (fun c36 => ?_) (fun c36 => ?_)
      · skip
        refine lv_iconst (v := nI 0) hx hb dX5_isLike_41 (by decide) ?_
        refine lv_istore_n (lv' := [(3, .int (nI (0))), (0, .ref (h)), (1, .int (nI (u))), (2, .int (nI (v)))]) hx hb dX5_isLike_42 rfl hl (by decide) rfl (fun ls hl => ?_)
        have lp : ∀ (n_lp : Nat) (i : Nat) (ls : Array Slot), (i ≤ 8) → (8 + 1 ≤ i + n_lp) → (∀ j, j < i → (!(hasB (rRW (tRun τ u) &&& rRW (tRun τ v)) j && decide (¬ rWas (tRun τ u) j = rWas (tRun τ v) j))) = true) → lv_has ls 4 [(0, .ref (h)), (1, .int (nI (u))), (2, .int (nI (v))), (3, .int (nI (i)))] → W p l e ({ frames := 1, cells := 0, slots := 0, locals := 23 } : Room) s m ([.ref (h), .int (nI (u)), .int (nI (v))] : List Value).toArray below meth c s.heap [] 0 0 (MQ below (vp_Si (fun z => z = bI (likeB (tRun τ u) (tRun τ v)))) (([.ref (h), .int (nI (u)), .int (nI (v))] : List Value).toArray) s 0 0 (fun _ => False)) (F0 m 43 ls []) := by
          intro n_lp
          induction n_lp with
          | zero =>
            intro i ls hi hn hv
            exact absurd hn (by omega)
          | succ n_lp ih_lp =>
            intro i ls hi hn hv hl
            refine lv_iload_n hx hb dX5_isLike_43 rfl (lv_at hl 3 rfl) ?_
            refine lv_bipush (v := nI 8) hx hb dX5_isLike_44 (by decide) ?_
            refine n_icmp_ge (tgt := 103) C (by omega) (by omega) dX5_isLike_46 (by decide) (fun c46 => ?_) (fun c46 => ?_)
            · skip
              refine lv_iconst (v := 1) hx hb dX5_isLike_103 (by decide) ?_
              exact r_z C hr hlk (by first | exact Or.inl rfl | exact Or.inr rfl | exact bI_or _) (bit1 (by unfold likeB; rw [decide_eq_true c6b, decide_eq_true c21, decide_eq_true c36, allR.mpr (fun j hj => hv j (by omega))]; rfl)) dX5_isLike_104
            · skip
              refine lv_aload_n hx hb dX5_isLike_49 rfl (lv_at hl 0 rfl) ?_
              refine q_get C f_X5_59 hM 0 rw_0 ro_19 dX5_isLike_50 ?_
              refine lv_iload_n hx hb dX5_isLike_53 rfl (lv_at hl 1 rfl) ?_
              refine n_iald C hM 17 rw_19 (by omega) (by decide) dX5_isLike_54 ?_
              refine w_topi (y := (rRW (tRun τ u))) (R_u.rw) ?_
              refine lv_aload_n hx hb dX5_isLike_55 rfl (lv_at hl 0 rfl) ?_
              refine q_get C f_X5_59 hM 0 rw_0 ro_19 dX5_isLike_56 ?_
              refine lv_iload_n hx hb dX5_isLike_59 rfl (lv_at hl 2 rfl) ?_
              refine n_iald C hM 17 rw_19 (by omega) (by decide) dX5_isLike_60 ?_
              refine w_topi (y := (rRW (tRun τ v))) (R_v.rw) ?_
              refine lv_iand hx hb dX5_isLike_61 ?_
              refine lv_iload_n hx hb dX5_isLike_62 rfl (lv_at hl 3 rfl) ?_
              refine lv_ishr hx hb dX5_isLike_63 ?_
              refine lv_iconst (v := 1) hx hb dX5_isLike_64 (by decide) ?_
              refine lv_iand hx hb dX5_isLike_65 ?_
              refine lv_iconst (v := 1) hx hb dX5_isLike_66 (by decide) ?_
              refine lv_icmp_ne (tgt := 97) hx hb dX5_isLike_67 (by decide) (fun c67 => ?_) (fun c67 => ?_)
              · skip
                refine n_iinc (d := 1) (lv' := [(3, .int (nI (i + 1))), (0, .ref (h)), (1, .int (nI (u))), (2, .int (nI (v)))]) C dX5_isLike_97 (by decide) hl (k := 3) rfl (by decide) rfl (fun ls hl => ?_)
                refine lv_goto (tgt := 43) hx hb dX5_isLike_100 (by decide) ?_
                exact ih_lp (i + 1) ls (by omega) (by omega) (lt_s1 hv (by rw [notHas c67]; simp)) (lv_sub hl [1, 2, 3, 0] rfl)
              · skip
                have hw := andHas c67
                refine lv_aload_n hx hb dX5_isLike_70 rfl (lv_at hl 0 rfl) ?_
                refine q_get C f_X5_62 hM 0 rw_0 ro_20 dX5_isLike_71 ?_
                refine lv_bipush (v := nI 8) hx hb dX5_isLike_74 (by decide) ?_
                refine lv_iload_n hx hb dX5_isLike_76 rfl (lv_at hl 1 rfl) ?_
                refine n_imul C dX5_isLike_77 ?_
                refine lv_iload_n hx hb dX5_isLike_78 rfl (lv_at hl 3 rfl) ?_
                refine n_iadd C dX5_isLike_79 ?_
                refine n_iald C hM 18 rw_20 (by omega) (by decide) dX5_isLike_80 ?_
                refine w_topi (y := (rWas (tRun τ u) i)) (R_u.was (by omega) hw.1) ?_
                refine lv_aload_n hx hb dX5_isLike_81 rfl (lv_at hl 0 rfl) ?_
                refine q_get C f_X5_62 hM 0 rw_0 ro_20 dX5_isLike_82 ?_
                refine lv_bipush (v := nI 8) hx hb dX5_isLike_85 (by decide) ?_
                refine lv_iload_n hx hb dX5_isLike_87 rfl (lv_at hl 2 rfl) ?_
                refine n_imul C dX5_isLike_88 ?_
                refine lv_iload_n hx hb dX5_isLike_89 rfl (lv_at hl 3 rfl) ?_
                refine n_iadd C dX5_isLike_90 ?_
                refine n_iald C hM 18 rw_20 (by omega) (by decide) dX5_isLike_91 ?_
                refine w_topi (y := (rWas (tRun τ v) i)) (R_v.was (by omega) hw.2) ?_
                refine lv_icmp_eq (tgt := 97) hx hb dX5_isLike_92 (by decide) (fun c92 => ?_) (fun c92 => ?_)
                · skip
                  refine n_iinc (d := 1) (lv' := [(3, .int (nI (i + 1))), (0, .ref (h)), (1, .int (nI (u))), (2, .int (nI (v)))]) C dX5_isLike_97 (by decide) hl (k := 3) rfl (by decide) rfl (fun ls hl => ?_)
                  refine lv_goto (tgt := 43) hx hb dX5_isLike_100 (by decide) ?_
                  exact ih_lp (i + 1) ls (by omega) (by omega) (lt_s1 hv (by rw [isHas c67, c92]; simp)) (lv_sub hl [1, 2, 3, 0] rfl)
                · skip
                  refine lv_iconst (v := 0) hx hb dX5_isLike_95 (by decide) ?_
                  exact r_z C hr hlk (by first | exact Or.inl rfl | exact Or.inr rfl | exact bI_or _) (bif0 (by unfold likeB; rw [allRf (i := i) (by omega) (by rw [isHas c67, decide_eq_true c92]; rfl), Bool.and_false])) dX5_isLike_96
        exact lp (9) (0) ls (by omega) (by omega) (fun j hj => absurd hj (by omega)) (lv_sub hl [1, 2, 3, 0] rfl)
      · skip
        refine lv_iconst (v := 0) hx hb dX5_isLike_39 (by decide) ?_
        exact r_z C hr hlk (by first | exact Or.inl rfl | exact Or.inr rfl | exact bI_or _) (bif0 (by unfold likeB; simp [c6b, c21, c36])) dX5_isLike_40

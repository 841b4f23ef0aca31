/-! THE REFERENCE: pairs, saved runs, the grid -/
set_option maxHeartbeats 4000000 in
set_option maxRecDepth 100000 in
theorem c5_isLeast (l : Launch) (g : GG) (h : Nat) (ad : Nat → Nat) (φ : Nat → Int32) (α : Nat → Nat → Int32) (τ : TB) (hR : MdR φ α τ) (hT : TOK τ) (u tk : Nat) (h_u : u < tN τ) (htk : tk ≤ 16) : Met l yX5_isLeast (.code yX5_isLeast cX5_isLeast 4 (some .boolean) :: wsL_law) ({ frames := 2, cells := 0, slots := 0, locals := 46 } : Room) (mP g [.ref (h), .int (nI (u)), .int (nI (tk))] (fun H => va_P g.1 vwCl (wM g h ad φ α) H)) (vp_Si (fun z => z = bI (leastB τ u tk))) 0 0 ((fun _ => False)) := by
  refine mMet (by decide) (Nat.le_of_ble_eq_true rfl) ?_
  intro p e s m below meth c C hr hlk hnm hM ls hl
  have hx := C.1.1
  have hb := C.1.2.1
  have hl : lv_has ls 4 [(0, .ref (h)), (1, .int (nI (u))), (2, .int (nI (tk)))] := hl
  have h40 := hT.2.2.1
  have hrec := q_recv C hM 0 rw_0 rfl
  have R_u := hR.run h_u
  have T_u := hT.2.2.2.1 u h_u
  have BC_u := T_u.1
  have BL_u := T_u.2.1
  have BT0_u := T_u.2.2.2.2.2.1
  have BT_u := T_u.2.2.2.2.2.2.1
  have BR_u := T_u.2.2.2.2.2.2.2.1
  have BQ_u : ∀ j, j < (rStp (tRun τ u)).length → (rStp (tRun τ u)).getD j 0 < 256 := fun j hj => T_u.2.2.1 _ (getD_mem hj)
  refine lv_iconst (v := nI 0) hx hb dX5_isLeast_0 (by decide) ?_
  refine lv_istore_n (lv' := [(3, .int (nI (0))), (0, .ref (h)), (1, .int (nI (u))), (2, .int (nI (tk)))]) hx hb dX5_isLeast_1 rfl hl (by decide) rfl (fun ls hl => ?_)
  have lp : ∀ (n_lp : Nat) (o : Nat) (ls : Array Slot), (o ≤ u) → (u + 1 ≤ o + n_lp) → (∀ j, j < o → (!(mayB (tRun τ j) tk && decide (rSet (tRun τ j) = rSet (tRun τ u)) && likeB (tRun τ j) (tRun τ u))) = true) → lv_has ls 4 [(0, .ref (h)), (1, .int (nI (u))), (2, .int (nI (tk))), (3, .int (nI (o)))] → W p l e ({ frames := 2, cells := 0, slots := 0, locals := 46 } : Room) s m ([.ref (h), .int (nI (u)), .int (nI (tk))] : List Value).toArray below meth c s.heap [] 0 0 (MQ below (vp_Si (fun z => z = bI (leastB τ u tk))) (([.ref (h), .int (nI (u)), .int (nI (tk))] : List Value).toArray) s 0 0 (fun _ => False)) (F0 m 2 ls []) := by
    intro n_lp
    induction n_lp with
    | zero =>
      intro o ls hi hn hv
      exact absurd hn (by omega)
    | succ n_lp ih_lp =>
      intro o ls hi hn hv hl
      refine lv_iload_n hx hb dX5_isLeast_2 rfl (lv_at hl 3 rfl) ?_
      refine lv_iload_n hx hb dX5_isLeast_3 rfl (lv_at hl 1 rfl) ?_
      refine n_icmp_ge (tgt := 48) C (by omega) (by omega) dX5_isLeast_4 (by decide) (fun c4 => ?_) (fun c4 => ?_)
      · skip
        refine lv_iconst (v := 1) hx hb dX5_isLeast_48 (by decide) ?_
        exact r_z C hr hlk (by first | exact Or.inl rfl | exact Or.inr rfl | exact bI_or _) (bit1 (allR.mpr (fun j hj => hv j (by omega)))) dX5_isLeast_49
      · skip
        have R_o := hR.run (show o < tN τ by omega)
        have T_o := hT.2.2.2.1 o (show o < tN τ by omega)
        have BC_o := T_o.1
        have BL_o := T_o.2.1
        have BT0_o := T_o.2.2.2.2.2.1
        have BT_o := T_o.2.2.2.2.2.2.1
        have BR_o := T_o.2.2.2.2.2.2.2.1
        have BQ_o : ∀ j, j < (rStp (tRun τ o)).length → (rStp (tRun τ o)).getD j 0 < 256 := fun j hj => T_o.2.2.1 _ (getD_mem hj)
        refine lv_aload_n hx hb dX5_isLeast_7 rfl (lv_at hl 0 rfl) ?_
        refine lv_iload_n hx hb dX5_isLeast_8 rfl (lv_at hl 3 rfl) ?_
        refine lv_iload_n hx hb dX5_isLeast_9 rfl (lv_at hl 2 rfl) ?_
        refine k_i (c_V (As := [.int (nI (o)), .int (nI (tk))]) (rest := []) C v_X5_162 (c5_mayBe l g h ad φ α τ hR hT o tk (by omega) (by omega)) ⟨Nat.le_of_ble_eq_true rfl, Nat.le_of_ble_eq_true rfl⟩ (hrec) (hM) hl.1 rfl rfl (Nat.le_of_ble_eq_true rfl) dX5_isLeast_10 ⟨Nat.le_of_ble_eq_true rfl, Nat.le_of_ble_eq_true rfl⟩) (fun r10 q10 => ?_)
        subst q10
        refine b_ifeq (tgt := 42) C dX5_isLeast_13 (by decide) (fun c13 => ?_) (fun c13 => ?_)
        · skip
          refine n_iinc (d := 1) (lv' := [(3, .int (nI (o + 1))), (0, .ref (h)), (1, .int (nI (u))), (2, .int (nI (tk)))]) C dX5_isLeast_42 (by decide) hl (k := 3) rfl (by decide) rfl (fun ls hl => ?_)
          refine lv_goto (tgt := 2) hx hb dX5_isLeast_45 (by decide) ?_
          exact ih_lp (o + 1) ls (by omega) (by omega) (lt_s1 hv (by simp [c13])) (lv_sub hl [1, 2, 3, 0] rfl)
        · skip
          refine lv_aload_n hx hb dX5_isLeast_16 rfl (lv_at hl 0 rfl) ?_
          refine q_get C f_X5_31 hM 0 rw_0 ro_10 dX5_isLeast_17 ?_
          refine lv_iload_n hx hb dX5_isLeast_20 rfl (lv_at hl 3 rfl) ?_
          refine n_iald C hM 8 rw_10 (by omega) (by decide) dX5_isLeast_21 ?_
          refine w_topi (y := (rSet (tRun τ o))) (R_o.set) ?_
          refine lv_aload_n hx hb dX5_isLeast_22 rfl (lv_at hl 0 rfl) ?_
          refine q_get C f_X5_31 hM 0 rw_0 ro_10 dX5_isLeast_23 ?_
          refine lv_iload_n hx hb dX5_isLeast_26 rfl (lv_at hl 1 rfl) ?_
          refine n_iald C hM 8 rw_10 (by omega) (by decide) dX5_isLeast_27 ?_
          refine w_topi (y := (rSet (tRun τ u))) (R_u.set) ?_
          refine lv_icmp_ne (tgt := 42) hx hb dX5_isLeast_28 (by decide) (fun c28 => ?_) (fun c28 => ?_)
          · skip
            refine n_iinc (d := 1) (lv' := [(3, .int (nI (o + 1))), (0, .ref (h)), (1, .int (nI (u))), (2, .int (nI (tk)))]) C dX5_isLeast_42 (by decide) hl (k := 3) rfl (by decide) rfl (fun ls hl => ?_)
            refine lv_goto (tgt := 2) hx hb dX5_isLeast_45 (by decide) ?_
            exact ih_lp (o + 1) ls (by omega) (by omega) (lt_s1 hv (by simp [c13, c28])) (lv_sub hl [1, 2, 3, 0] rfl)
          · skip
            refine lv_aload_n hx hb dX5_isLeast_31 rfl (lv_at hl 0 rfl) ?_
            refine lv_iload_n hx hb dX5_isLeast_32 rfl (lv_at hl 3 rfl) ?_
            refine lv_iload_n hx hb dX5_isLeast_33 rfl (lv_at hl 1 rfl) ?_
            refine k_i (c_V (As := [.int (nI (o)), .int (nI (u))]) (rest := []) C v_X5_165 (c5_isLike l g h ad φ α τ hR hT o u (by omega) (by omega)) ⟨Nat.le_of_ble_eq_true rfl, Nat.le_of_ble_eq_true rfl⟩ (hrec) (hM) hl.1 rfl rfl (Nat.le_of_ble_eq_true rfl) dX5_isLeast_34 ⟨Nat.le_of_ble_eq_true rfl, Nat.le_of_ble_eq_true rfl⟩) (fun r34 q34 => ?_)
            subst q34
            refine b_ifeq (tgt := 42) C dX5_isLeast_37 (by decide) (fun c37 => ?_) (fun c37 => ?_)
            · skip
              refine n_iinc (d := 1) (lv' := [(3, .int (nI (o + 1))), (0, .ref (h)), (1, .int (nI (u))), (2, .int (nI (tk)))]) C dX5_isLeast_42 (by decide) hl (k := 3) rfl (by decide) rfl (fun ls hl => ?_)
              refine lv_goto (tgt := 2) hx hb dX5_isLeast_45 (by decide) ?_
              exact ih_lp (o + 1) ls (by omega) (by omega) (lt_s1 hv (by simp [c13, c28, c37])) (lv_sub hl [1, 2, 3, 0] rfl)
            · skip
              refine lv_iconst (v := 0) hx hb dX5_isLeast_40 (by decide) ?_
              exact r_z C hr hlk (by first | exact Or.inl rfl | exact Or.inr rfl | exact bI_or _) (bif0 (allRf (i := o) (by omega) (by simp [c13, c28, c37]))) dX5_isLeast_41
  exact lp (u + 1) (0) ls (by omega) (by omega) (fun j hj => absurd hj (by omega)) (lv_sub hl [1, 2, 3, 0] rfl)
set_option maxHeartbeats 4000000 in
set_option maxRecDepth 100000 in
theorem c5_isPair (l : Launch) (g : GG) (h : Nat) (ad : Nat → Nat) (φ : Nat → Int32) (α : Nat → Nat → Int32) (τ : TB) (hR : MdR φ α τ) (hT : TOK τ) (a b i : Nat) (u v : Int32) (tk : Nat) (h_a : a < tN τ) (h_b : b < tN τ) (hi : i < 4) (htk : tk ≤ 16) : Met l yX5_isPair (.code yX5_isPair cX5_isPair 7 (some .boolean) :: wsL_law) ({ frames := 3, cells := 0, slots := 0, locals := 69 } : Room) (mP g [.ref (h), .int (nI (a)), .int (nI (b)), .int (nI (i)), .int (u), .int (v), .int (nI (tk))] (fun H => va_P g.1 vwCl (wM g h ad φ α) H)) (vp_Si (fun z => z = bI (pairB τ i u v tk a b))) 0 0 ((fun _ => False)) := by
  refine mMet (by decide) (Nat.le_of_ble_eq_true rfl) ?_
  intro p e s m below meth c C hr hlk hnm hM ls hl
  have hx := C.1.1
  have hb := C.1.2.1
  have hl : lv_has ls 7 [(0, .ref (h)), (1, .int (nI (a))), (2, .int (nI (b))), (3, .int (nI (i))), (4, .int (u)), (5, .int (v)), (6, .int (nI (tk)))] := hl
  have h40 := hT.2.2.1
  have hrec := q_recv C hM 0 rw_0 rfl
  have R_a := hR.run h_a
  have T_a := hT.2.2.2.1 a h_a
  have BC_a := T_a.1
  have BL_a := T_a.2.1
  have BT0_a := T_a.2.2.2.2.2.1
  have BT_a := T_a.2.2.2.2.2.2.1
  have BR_a := T_a.2.2.2.2.2.2.2.1
  have BQ_a : ∀ j, j < (rStp (tRun τ a)).length → (rStp (tRun τ a)).getD j 0 < 256 := fun j hj => T_a.2.2.1 _ (getD_mem hj)
  have R_b := hR.run h_b
  have T_b := hT.2.2.2.1 b h_b
  have BC_b := T_b.1
  have BL_b := T_b.2.1
  have BT0_b := T_b.2.2.2.2.2.1
  have BT_b := T_b.2.2.2.2.2.2.1
  have BR_b := T_b.2.2.2.2.2.2.2.1
  have BQ_b : ∀ j, j < (rStp (tRun τ b)).length → (rStp (tRun τ b)).getD j 0 < 256 := fun j hj => T_b.2.2.1 _ (getD_mem hj)
  refine lv_aload_n hx hb dX5_isPair_0 rfl (lv_at hl 0 rfl) ?_
  refine lv_iload_n hx hb dX5_isPair_1 rfl (lv_at hl 1 rfl) ?_
  refine lv_iload hx hb dX5_isPair_2 (lv_at hl 6 rfl) ?_
  refine k_i (c_V (As := [.int (nI (a)), .int (nI (tk))]) (rest := []) C v_X5_162 (c5_mayBe l g h ad φ α τ hR hT a tk (by omega) (by omega)) ⟨Nat.le_of_ble_eq_true rfl, Nat.le_of_ble_eq_true rfl⟩ (hrec) (hM) hl.1 rfl rfl (Nat.le_of_ble_eq_true rfl) dX5_isPair_4 ⟨Nat.le_of_ble_eq_true rfl, Nat.le_of_ble_eq_true rfl⟩) (fun r4 q4 => ?_)
  subst q4
  refine b_ifeq (tgt := 52) C dX5_isPair_7 (by decide) (fun c7 => ?_) (fun c7 => ?_)
  · skip
    refine lv_iconst (v := 0) hx hb dX5_isPair_52 (by decide) ?_
    exact r_z C hr hlk (by first | exact Or.inl rfl | exact Or.inr rfl | exact bI_or _) (bif0 (by simp [pairB, c7])) dX5_isPair_53
  · skip
    refine lv_aload_n hx hb dX5_isPair_10 rfl (lv_at hl 0 rfl) ?_
    refine lv_iload_n hx hb dX5_isPair_11 rfl (lv_at hl 2 rfl) ?_
    refine lv_iload hx hb dX5_isPair_12 (lv_at hl 6 rfl) ?_
    refine k_i (c_V (As := [.int (nI (b)), .int (nI (tk))]) (rest := []) C v_X5_162 (c5_mayBe l g h ad φ α τ hR hT b tk (by omega) (by omega)) ⟨Nat.le_of_ble_eq_true rfl, Nat.le_of_ble_eq_true rfl⟩ (hrec) (hM) hl.1 rfl rfl (Nat.le_of_ble_eq_true rfl) dX5_isPair_14 ⟨Nat.le_of_ble_eq_true rfl, Nat.le_of_ble_eq_true rfl⟩) (fun r14 q14 => ?_)
    subst q14
    refine b_ifeq (tgt := 52) C dX5_isPair_17 (by decide) (fun c17 => ?_) (fun c17 => ?_)
    · skip
      refine lv_iconst (v := 0) hx hb dX5_isPair_52 (by decide) ?_
      exact r_z C hr hlk (by first | exact Or.inl rfl | exact Or.inr rfl | exact bI_or _) (bif0 (by simp [pairB, c7, c17])) dX5_isPair_53
    · skip
      refine lv_aload_n hx hb dX5_isPair_20 rfl (lv_at hl 0 rfl) ?_
      refine lv_aload_n hx hb dX5_isPair_21 rfl (lv_at hl 0 rfl) ?_
      refine q_get C f_X5_31 hM 0 rw_0 ro_10 dX5_isPair_22 ?_
      refine lv_iload_n hx hb dX5_isPair_25 rfl (lv_at hl 1 rfl) ?_
      refine n_iald C hM 8 rw_10 (by omega) (by decide) dX5_isPair_26 ?_
      refine w_topi (y := (rSet (tRun τ a))) (R_a.set) ?_
      refine lv_iload_n hx hb dX5_isPair_27 rfl (lv_at hl 3 rfl) ?_
      refine k_i (c_V (As := [.int (rSet (tRun τ a)), .int (nI (i))]) (rest := []) C v_X5_86 (c5_setting l g h (rSet (tRun τ a)) (i)) ⟨Nat.le_of_ble_eq_true rfl, Nat.le_of_ble_eq_true rfl⟩ (hrec) (trivial) hl.1 rfl rfl (Nat.le_of_ble_eq_true rfl) dX5_isPair_28 ⟨Nat.le_of_ble_eq_true rfl, Nat.le_of_ble_eq_true rfl⟩) (fun r28 q28 => ?_)
      subst q28
      refine lv_iload hx hb dX5_isPair_31 (lv_at hl 4 rfl) ?_
      refine lv_icmp_ne (tgt := 52) hx hb dX5_isPair_33 (by decide) (fun c33 => ?_) (fun c33 => ?_)
      · skip
        refine lv_iconst (v := 0) hx hb dX5_isPair_52 (by decide) ?_
        exact r_z C hr hlk (by first | exact Or.inl rfl | exact Or.inr rfl | exact bI_or _) (bif0 (by simp [pairB, c7, c17, c33])) dX5_isPair_53
      · skip
        refine lv_aload_n hx hb dX5_isPair_36 rfl (lv_at hl 0 rfl) ?_
        refine lv_aload_n hx hb dX5_isPair_37 rfl (lv_at hl 0 rfl) ?_
        refine q_get C f_X5_31 hM 0 rw_0 ro_10 dX5_isPair_38 ?_
        refine lv_iload_n hx hb dX5_isPair_41 rfl (lv_at hl 2 rfl) ?_
        refine n_iald C hM 8 rw_10 (by omega) (by decide) dX5_isPair_42 ?_
        refine w_topi (y := (rSet (tRun τ b))) (R_b.set) ?_
        refine lv_iload_n hx hb dX5_isPair_43 rfl (lv_at hl 3 rfl) ?_
        refine k_i (c_V (As := [.int (rSet (tRun τ b)), .int (nI (i))]) (rest := []) C v_X5_86 (c5_setting l g h (rSet (tRun τ b)) (i)) ⟨Nat.le_of_ble_eq_true rfl, Nat.le_of_ble_eq_true rfl⟩ (hrec) (trivial) hl.1 rfl rfl (Nat.le_of_ble_eq_true rfl) dX5_isPair_44 ⟨Nat.le_of_ble_eq_true rfl, Nat.le_of_ble_eq_true rfl⟩) (fun r44 q44 => ?_)
        subst q44
        refine lv_iload hx hb dX5_isPair_47 (lv_at hl 5 rfl) ?_
        refine lv_icmp_eq (tgt := 54) hx hb dX5_isPair_49 (by decide) (fun c49 => ?_) (fun c49 => ?_)
        · skip
          refine lv_aload_n hx hb dX5_isPair_54 rfl (lv_at hl 0 rfl) ?_
          refine q_get C f_X5_31 hM 0 rw_0 ro_10 dX5_isPair_55 ?_
          refine lv_iload_n hx hb dX5_isPair_58 rfl (lv_at hl 1 rfl) ?_
          refine n_iald C hM 8 rw_10 (by omega) (by decide) dX5_isPair_59 ?_
          refine w_topi (y := (rSet (tRun τ a))) (R_a.set) ?_
          refine lv_aload_n hx hb dX5_isPair_60 rfl (lv_at hl 0 rfl) ?_
          refine q_get C f_X5_31 hM 0 rw_0 ro_10 dX5_isPair_61 ?_
          refine lv_iload_n hx hb dX5_isPair_64 rfl (lv_at hl 2 rfl) ?_
          refine n_iald C hM 8 rw_10 (by omega) (by decide) dX5_isPair_65 ?_
          refine w_topi (y := (rSet (tRun τ b))) (R_b.set) ?_
          refine lv_ixor hx hb dX5_isPair_66 ?_
          refine lv_iload hx hb dX5_isPair_67 (lv_at hl 4 rfl) ?_
          refine lv_iload hx hb dX5_isPair_69 (lv_at hl 5 rfl) ?_
          refine lv_ixor hx hb dX5_isPair_71 ?_
          refine lv_iconst (v := nI 4) hx hb dX5_isPair_72 (by decide) ?_
          refine lv_iload_n hx hb dX5_isPair_73 rfl (lv_at hl 3 rfl) ?_
          refine n_imul C dX5_isPair_74 ?_
          refine lv_ishl hx hb dX5_isPair_75 ?_
          refine lv_icmp_ne (tgt := 88) hx hb dX5_isPair_76 (by decide) (fun c76 => ?_) (fun c76 => ?_)
          · skip
            refine lv_iconst (v := 0) hx hb dX5_isPair_88 (by decide) ?_
            exact r_z C hr hlk (by first | exact Or.inl rfl | exact Or.inr rfl | exact bI_or _) (bif0 (by simp [pairB, c7, c17, c33, c49, c76])) dX5_isPair_89
          · skip
            refine lv_aload_n hx hb dX5_isPair_79 rfl (lv_at hl 0 rfl) ?_
            refine lv_iload_n hx hb dX5_isPair_80 rfl (lv_at hl 1 rfl) ?_
            refine lv_iload_n hx hb dX5_isPair_81 rfl (lv_at hl 2 rfl) ?_
            refine k_i (c_V (As := [.int (nI (a)), .int (nI (b))]) (rest := []) C v_X5_165 (c5_isLike l g h ad φ α τ hR hT a b (by omega) (by omega)) ⟨Nat.le_of_ble_eq_true rfl, Nat.le_of_ble_eq_true rfl⟩ (hrec) (hM) hl.1 rfl rfl (Nat.le_of_ble_eq_true rfl) dX5_isPair_82 ⟨Nat.le_of_ble_eq_true rfl, Nat.le_of_ble_eq_true rfl⟩) (fun r82 q82 => ?_)
            subst q82
            refine b_ifne (tgt := 90) C dX5_isPair_85 (by decide) (fun c85 => ?_) (fun c85 => ?_)
            · skip
              refine lv_aload_n hx hb dX5_isPair_90 rfl (lv_at hl 0 rfl) ?_
              refine lv_iload_n hx hb dX5_isPair_91 rfl (lv_at hl 1 rfl) ?_
              refine lv_iload hx hb dX5_isPair_92 (lv_at hl 6 rfl) ?_
              refine k_i (c_V (As := [.int (nI (a)), .int (nI (tk))]) (rest := []) C v_X5_168 (c5_isLeast l g h ad φ α τ hR hT a tk (by omega) (by omega)) ⟨Nat.le_of_ble_eq_true rfl, Nat.le_of_ble_eq_true rfl⟩ (hrec) (hM) hl.1 rfl rfl (Nat.le_of_ble_eq_true rfl) dX5_isPair_94 ⟨Nat.le_of_ble_eq_true rfl, Nat.le_of_ble_eq_true rfl⟩) (fun r94 q94 => ?_)
              subst q94
              refine b_ifeq (tgt := 114) C dX5_isPair_97 (by decide) (fun c97 => ?_) (fun c97 => ?_)
              · skip
                refine lv_iconst (v := 0) hx hb dX5_isPair_114 (by decide) ?_
                exact r_z C hr hlk (by first | exact Or.inl rfl | exact Or.inr rfl | exact bI_or _) (bif0 (by simp [pairB, c7, c17, c33, c49, c76, c85, c97])) dX5_isPair_115
              · skip
                refine lv_aload_n hx hb dX5_isPair_100 rfl (lv_at hl 0 rfl) ?_
                refine lv_iload_n hx hb dX5_isPair_101 rfl (lv_at hl 2 rfl) ?_
                refine lv_iload hx hb dX5_isPair_102 (lv_at hl 6 rfl) ?_
                refine k_i (c_V (As := [.int (nI (b)), .int (nI (tk))]) (rest := []) C v_X5_168 (c5_isLeast l g h ad φ α τ hR hT b tk (by omega) (by omega)) ⟨Nat.le_of_ble_eq_true rfl, Nat.le_of_ble_eq_true rfl⟩ (hrec) (hM) hl.1 rfl rfl (Nat.le_of_ble_eq_true rfl) dX5_isPair_104 ⟨Nat.le_of_ble_eq_true rfl, Nat.le_of_ble_eq_true rfl⟩) (fun r104 q104 => ?_)
                subst q104
                refine b_ifeq (tgt := 114) C dX5_isPair_107 (by decide) (fun c107 => ?_) (fun c107 => ?_)
                · skip
                  refine lv_iconst (v := 0) hx hb dX5_isPair_114 (by decide) ?_
                  exact r_z C hr hlk (by first | exact Or.inl rfl | exact Or.inr rfl | exact bI_or _) (bif0 (by simp [pairB, c7, c17, c33, c49, c76, c85, c97, c107])) dX5_isPair_115
                · skip
                  refine lv_iconst (v := 1) hx hb dX5_isPair_110 (by decide) ?_
                  refine lv_goto (tgt := 115) hx hb dX5_isPair_111 (by decide) ?_
                  exact r_z C hr hlk (by first | exact Or.inl rfl | exact Or.inr rfl | exact bI_or _) (bit1 (by simp [pairB, c7, c17, c33, c49, c76, c85, c97, c107])) dX5_isPair_115
            · skip
              refine lv_iconst (v := 0) hx hb dX5_isPair_88 (by decide) ?_
              exact r_z C hr hlk (by first | exact Or.inl rfl | exact Or.inr rfl | exact bI_or _) (bif0 (by simp [pairB, c7, c17, c33, c49, c76, c85])) dX5_isPair_89
        · skip
          refine lv_iconst (v := 0) hx hb dX5_isPair_52 (by decide) ?_
          exact r_z C hr hlk (by first | exact Or.inl rfl | exact Or.inr rfl | exact bI_or _) (bif0 (by simp [pairB, c7, c17, c33, c49])) dX5_isPair_53
def canPairB (i u v t : Int32) : Bool := inR i 0 3 && inR u 0 5 && inR v 0 5 && decide (¬ u = v) && inR t 1 16
def canHoleB (k t w : Int32) : Bool := inR k 0 3 && inR t 1 16 && inR w 1 8
set_option maxHeartbeats 4000000 in
set_option maxRecDepth 100000 in
theorem c5_canPair (l : Launch) (g : GG) (h : Nat) (i u v t : Int32) : Met l yX5_canPair (.code yX5_canPair cX5_canPair 5 (some .boolean) :: wsL_law) ({ frames := 1, cells := 0, slots := 0, locals := 21 } : Room) (mP g [.ref (h), .int (i), .int (u), .int (v), .int (t)] (fun H => ∃ (ad : Nat → Nat) (φ : Nat → Int32) (α : Nat → Nat → Int32), va_P g.1 vwCl (wM g h ad φ α) H)) (vp_Si (fun z => z = bI (canPairB i u v t))) 0 0 ((fun _ => False)) := by
  refine mMet (by decide) (Nat.le_of_ble_eq_true rfl) ?_
  intro p e s m below meth c C hr hlk hnm hM ls hl
  have hx := C.1.1
  have hb := C.1.2.1
  have hl : lv_has ls 5 [(0, .ref (h)), (1, .int (i)), (2, .int (u)), (3, .int (v)), (4, .int (t))] := hl
  obtain ⟨ad, φ, α, hM⟩ := hM
  have hrec := q_recv C hM 0 rw_0 rfl
  refine lv_iload_n hx hb dX5_canPair_0 rfl (lv_at hl 1 rfl) ?_
  refine lv_if_lt (tgt := 47) hx hb dX5_canPair_1 (by decide) (fun c1 => ?_) (fun c1 => ?_)
  · skip
    refine lv_iconst (v := 0) hx hb dX5_canPair_47 (by decide) ?_
    exact r_z C hr hlk (by first | exact Or.inl rfl | exact Or.inr rfl | exact bI_or _) (bif0 (Bool.eq_false_iff.mpr (fun hz => by simp only [fa_eq, fa_lt, fa_le, li_0, li_4, li_6] at c1; skip; simp only [canPairB, Bool.and_eq_true, inR_iff, decide_eq_true_eq, fa_eq, fa_lt, fa_le, li_0, li_4, li_6] at hz; omega))) dX5_canPair_48
  · skip
    refine lv_iload_n hx hb dX5_canPair_4 rfl (lv_at hl 1 rfl) ?_
    refine lv_iconst (v := 4) hx hb dX5_canPair_5 (by decide) ?_
    refine lv_icmp_ge (tgt := 47) hx hb dX5_canPair_6 (by decide) (fun c6 => ?_) (fun c6 => ?_)
    · skip
      refine lv_iconst (v := 0) hx hb dX5_canPair_47 (by decide) ?_
      exact r_z C hr hlk (by first | exact Or.inl rfl | exact Or.inr rfl | exact bI_or _) (bif0 (Bool.eq_false_iff.mpr (fun hz => by simp only [fa_eq, fa_lt, fa_le, li_0, li_4, li_6] at c1 c6; skip; simp only [canPairB, Bool.and_eq_true, inR_iff, decide_eq_true_eq, fa_eq, fa_lt, fa_le, li_0, li_4, li_6] at hz; omega))) dX5_canPair_48
    · skip
      refine lv_iload_n hx hb dX5_canPair_9 rfl (lv_at hl 2 rfl) ?_
      refine lv_if_lt (tgt := 47) hx hb dX5_canPair_10 (by decide) (fun c10 => ?_) (fun c10 => ?_)
      · skip
        refine lv_iconst (v := 0) hx hb dX5_canPair_47 (by decide) ?_
        exact r_z C hr hlk (by first | exact Or.inl rfl | exact Or.inr rfl | exact bI_or _) (bif0 (Bool.eq_false_iff.mpr (fun hz => by simp only [fa_eq, fa_lt, fa_le, li_0, li_4, li_6] at c1 c6 c10; skip; simp only [canPairB, Bool.and_eq_true, inR_iff, decide_eq_true_eq, fa_eq, fa_lt, fa_le, li_0, li_4, li_6] at hz; omega))) dX5_canPair_48
      · skip
        refine lv_iload_n hx hb dX5_canPair_13 rfl (lv_at hl 2 rfl) ?_
        refine lv_bipush (v := 6) hx hb dX5_canPair_14 (by decide) ?_
        refine lv_icmp_ge (tgt := 47) hx hb dX5_canPair_16 (by decide) (fun c16 => ?_) (fun c16 => ?_)
        · skip
          refine lv_iconst (v := 0) hx hb dX5_canPair_47 (by decide) ?_
          exact r_z C hr hlk (by first | exact Or.inl rfl | exact Or.inr rfl | exact bI_or _) (bif0 (Bool.eq_false_iff.mpr (fun hz => by simp only [fa_eq, fa_lt, fa_le, li_0, li_4, li_6] at c1 c6 c10 c16; skip; simp only [canPairB, Bool.and_eq_true, inR_iff, decide_eq_true_eq, fa_eq, fa_lt, fa_le, li_0, li_4, li_6] at hz; omega))) dX5_canPair_48
        · skip
          refine lv_iload_n hx hb dX5_canPair_19 rfl (lv_at hl 3 rfl) ?_
          refine lv_if_lt (tgt := 47) hx hb dX5_canPair_20 (by decide) (fun c20 => ?_) (fun c20 => ?_)
          · skip
            refine lv_iconst (v := 0) hx hb dX5_canPair_47 (by decide) ?_
            exact r_z C hr hlk (by first | exact Or.inl rfl | exact Or.inr rfl | exact bI_or _) (bif0 (Bool.eq_false_iff.mpr (fun hz => by simp only [fa_eq, fa_lt, fa_le, li_0, li_4, li_6] at c1 c6 c10 c16 c20; skip; simp only [canPairB, Bool.and_eq_true, inR_iff, decide_eq_true_eq, fa_eq, fa_lt, fa_le, li_0, li_4, li_6] at hz; omega))) dX5_canPair_48
          · skip
            refine lv_iload_n hx hb dX5_canPair_23 rfl (lv_at hl 3 rfl) ?_
            refine lv_bipush (v := 6) hx hb dX5_canPair_24 (by decide) ?_
            refine lv_icmp_ge (tgt := 47) hx hb dX5_canPair_26 (by decide) (fun c26 => ?_) (fun c26 => ?_)
            · skip
              refine lv_iconst (v := 0) hx hb dX5_canPair_47 (by decide) ?_
              exact r_z C hr hlk (by first | exact Or.inl rfl | exact Or.inr rfl | exact bI_or _) (bif0 (Bool.eq_false_iff.mpr (fun hz => by simp only [fa_eq, fa_lt, fa_le, li_0, li_4, li_6] at c1 c6 c10 c16 c20 c26; skip; simp only [canPairB, Bool.and_eq_true, inR_iff, decide_eq_true_eq, fa_eq, fa_lt, fa_le, li_0, li_4, li_6] at hz; omega))) dX5_canPair_48
            · skip
              refine lv_iload_n hx hb dX5_canPair_29 rfl (lv_at hl 2 rfl) ?_
              refine lv_iload_n hx hb dX5_canPair_30 rfl (lv_at hl 3 rfl) ?_
              refine lv_icmp_eq (tgt := 47) hx hb dX5_canPair_31 (by decide) (fun c31 => ?_) (fun c31 => ?_)
              · skip
                refine lv_iconst (v := 0) hx hb dX5_canPair_47 (by decide) ?_
                exact r_z C hr hlk (by first | exact Or.inl rfl | exact Or.inr rfl | exact bI_or _) (bif0 (Bool.eq_false_iff.mpr (fun hz => by simp only [fa_eq, fa_lt, fa_le, li_0, li_4, li_6] at c1 c6 c10 c16 c20 c26 c31; skip; simp only [canPairB, Bool.and_eq_true, inR_iff, decide_eq_true_eq, fa_eq, fa_lt, fa_le, li_0, li_4, li_6] at hz; omega))) dX5_canPair_48
              · skip
                refine lv_aload_n hx hb dX5_canPair_34 rfl (lv_at hl 0 rfl) ?_
                refine lv_iload hx hb dX5_canPair_35 (lv_at hl 4 rfl) ?_
                refine k_i (c_V (As := [.int (t)]) (rest := []) C v_X5_131 (c5_areTicks l g h (t)) ⟨Nat.le_of_ble_eq_true rfl, Nat.le_of_ble_eq_true rfl⟩ (hrec) (trivial) hl.1 rfl rfl (Nat.le_of_ble_eq_true rfl) dX5_canPair_37 ⟨Nat.le_of_ble_eq_true rfl, Nat.le_of_ble_eq_true rfl⟩) (fun r37 q37 => ?_)
                subst q37
                refine b_ifeq (tgt := 47) C dX5_canPair_40 (by decide) (fun c40 => ?_) (fun c40 => ?_)
                · skip
                  refine lv_iconst (v := 0) hx hb dX5_canPair_47 (by decide) ?_
                  exact r_z C hr hlk (by first | exact Or.inl rfl | exact Or.inr rfl | exact bI_or _) (bif0 (Bool.eq_false_iff.mpr (fun hz => by simp only [fa_eq, fa_lt, fa_le, li_0, li_4, li_6] at c1 c6 c10 c16 c20 c26 c31; skip; simp only [canPairB, Bool.and_eq_true, inR_iff, decide_eq_true_eq, fa_eq, fa_lt, fa_le, li_0, li_4, li_6] at hz; (have c41 : inR t 1 16 = true := inR_iff.mpr hz.2); rw [c41] at c40; cases c40))) dX5_canPair_48
                · skip
                  refine lv_iconst (v := 1) hx hb dX5_canPair_43 (by decide) ?_
                  refine lv_goto (tgt := 48) hx hb dX5_canPair_44 (by decide) ?_
                  exact r_z C hr hlk (by first | exact Or.inl rfl | exact Or.inr rfl | exact bI_or _) (bit1 (by have c41 := inR_iff.mp c40; simp only [canPairB, Bool.and_eq_true, inR_iff, decide_eq_true_eq, fa_eq, fa_lt, fa_le, li_0, li_4, li_6]; simp only [fa_eq, fa_lt, fa_le, li_0, li_4, li_6] at c1 c6 c10 c16 c20 c26 c31; omega)) dX5_canPair_48
set_option maxHeartbeats 4000000 in
set_option maxRecDepth 100000 in
theorem c5_canHole (l : Launch) (g : GG) (h : Nat) (k t w : Int32) : Met l yX5_canHole (.code yX5_canHole cX5_canHole 4 (some .boolean) :: wsL_law) ({ frames := 1, cells := 0, slots := 0, locals := 21 } : Room) (mP g [.ref (h), .int (k), .int (t), .int (w)] (fun H => ∃ (ad : Nat → Nat) (φ : Nat → Int32) (α : Nat → Nat → Int32), va_P g.1 vwCl (wM g h ad φ α) H)) (vp_Si (fun z => z = bI (canHoleB k t w))) 0 0 ((fun _ => False)) := by
  refine mMet (by decide) (Nat.le_of_ble_eq_true rfl) ?_
  intro p e s m below meth c C hr hlk hnm hM ls hl
  have hx := C.1.1
  have hb := C.1.2.1
  have hl : lv_has ls 4 [(0, .ref (h)), (1, .int (k)), (2, .int (t)), (3, .int (w))] := hl
  obtain ⟨ad, φ, α, hM⟩ := hM
  have hrec := q_recv C hM 0 rw_0 rfl
  refine lv_aload_n hx hb dX5_canHole_0 rfl (lv_at hl 0 rfl) ?_
  refine lv_iload_n hx hb dX5_canHole_1 rfl (lv_at hl 1 rfl) ?_
  refine k_i (c_V (As := [.int (k)]) (rest := []) C v_X5_81 (c5_isCode l g h (k)) ⟨Nat.le_of_ble_eq_true rfl, Nat.le_of_ble_eq_true rfl⟩ (hrec) (trivial) hl.1 rfl rfl (Nat.le_of_ble_eq_true rfl) dX5_canHole_2 ⟨Nat.le_of_ble_eq_true rfl, Nat.le_of_ble_eq_true rfl⟩) (fun r2 q2 => ?_)
  subst q2
  refine b_ifeq (tgt := 31) C dX5_canHole_5 (by decide) (fun c5 => ?_) (fun c5 => ?_)
  · skip
    refine lv_iconst (v := 0) hx hb dX5_canHole_31 (by decide) ?_
    exact r_z C hr hlk (by first | exact Or.inl rfl | exact Or.inr rfl | exact bI_or _) (bif0 (by simp [canHoleB, c5])) dX5_canHole_32
  · skip
    refine lv_aload_n hx hb dX5_canHole_8 rfl (lv_at hl 0 rfl) ?_
    refine lv_iload_n hx hb dX5_canHole_9 rfl (lv_at hl 2 rfl) ?_
    refine k_i (c_V (As := [.int (t)]) (rest := []) C v_X5_131 (c5_areTicks l g h (t)) ⟨Nat.le_of_ble_eq_true rfl, Nat.le_of_ble_eq_true rfl⟩ (hrec) (trivial) hl.1 rfl rfl (Nat.le_of_ble_eq_true rfl) dX5_canHole_10 ⟨Nat.le_of_ble_eq_true rfl, Nat.le_of_ble_eq_true rfl⟩) (fun r10 q10 => ?_)
    subst q10
    refine b_ifeq (tgt := 31) C dX5_canHole_13 (by decide) (fun c13 => ?_) (fun c13 => ?_)
    · skip
      refine lv_iconst (v := 0) hx hb dX5_canHole_31 (by decide) ?_
      exact r_z C hr hlk (by first | exact Or.inl rfl | exact Or.inr rfl | exact bI_or _) (bif0 (by simp [canHoleB, c5, c13])) dX5_canHole_32
    · skip
      refine lv_iload_n hx hb dX5_canHole_16 rfl (lv_at hl 3 rfl) ?_
      refine lv_iconst (v := 1) hx hb dX5_canHole_17 (by decide) ?_
      refine lv_icmp_lt (tgt := 31) hx hb dX5_canHole_18 (by decide) (fun c18 => ?_) (fun c18 => ?_)
      · skip
        refine lv_iconst (v := 0) hx hb dX5_canHole_31 (by decide) ?_
        exact r_z C hr hlk (by first | exact Or.inl rfl | exact Or.inr rfl | exact bI_or _) (bif0 (by simp only [canHoleB, c5, c13, Bool.true_and]; exact Bool.eq_false_iff.mpr (fun hz => by have hz := inR_iff.mp hz; simp only [fa_eq, fa_lt, fa_le, li_1, li_8] at c18; omega))) dX5_canHole_32
      · skip
        refine lv_iload_n hx hb dX5_canHole_21 rfl (lv_at hl 3 rfl) ?_
        refine lv_bipush (v := 8) hx hb dX5_canHole_22 (by decide) ?_
        refine lv_icmp_gt (tgt := 31) hx hb dX5_canHole_24 (by decide) (fun c24 => ?_) (fun c24 => ?_)
        · skip
          refine lv_iconst (v := 0) hx hb dX5_canHole_31 (by decide) ?_
          exact r_z C hr hlk (by first | exact Or.inl rfl | exact Or.inr rfl | exact bI_or _) (bif0 (by simp only [canHoleB, c5, c13, Bool.true_and]; exact Bool.eq_false_iff.mpr (fun hz => by have hz := inR_iff.mp hz; simp only [fa_eq, fa_lt, fa_le, li_1, li_8] at c18 c24; omega))) dX5_canHole_32
        · skip
          refine lv_iconst (v := 1) hx hb dX5_canHole_27 (by decide) ?_
          refine lv_goto (tgt := 32) hx hb dX5_canHole_28 (by decide) ?_
          exact r_z C hr hlk (by first | exact Or.inl rfl | exact Or.inr rfl | exact bI_or _) (bit1 (by simp only [canHoleB, c5, c13, Bool.true_and]; exact inR_iff.mpr (by simp only [fa_eq, fa_lt, fa_le, li_1, li_8] at c18 c24; omega))) dX5_canHole_32
def gridN (τ : TB) : Nat := tBnd τ 0 * tBnd τ 1 * tBnd τ 2 * tBnd τ 3
set_option maxHeartbeats 4000000 in
set_option maxRecDepth 100000 in
theorem c5_grid (l : Launch) (g : GG) (h : Nat) (ad : Nat → Nat) (φ : Nat → Int32) (α : Nat → Nat → Int32) (τ : TB) (hR : MdR φ α τ) (hT : TOK τ) : Met l yX5_grid (.code yX5_grid cX5_grid 1 (some .int) :: wsL_law) ({ frames := 0, cells := 0, slots := 0, locals := 0 } : Room) (mP g [.ref (h)] (fun H => va_P g.1 vwCl (wM g h ad φ α) H)) (vp_Si (fun z => z = nI (gridN τ))) 0 0 ((fun _ => False)) := by
  refine mMet (by decide) (Nat.le_of_ble_eq_true rfl) ?_
  intro p e s m below meth c C hr hlk hnm hM ls hl
  have hx := C.1.1
  have hb := C.1.2.1
  have hl : lv_has ls 1 [(0, .ref (h))] := hl
  refine lv_aload_n hx hb dX5_grid_0 rfl (lv_at hl 0 rfl) ?_
  refine q_get C f_X5_19 hM 0 rw_0 ro_4 dX5_grid_1 ?_
  refine lv_iconst (v := nI 0) hx hb dX5_grid_4 (by decide) ?_
  refine n_iald C hM 4 rw_4 (by omega) (by decide) dX5_grid_5 ?_
  refine w_topi (y := (nI (tBnd τ 0))) (hR.bnd (by omega)) ?_
  refine lv_aload_n hx hb dX5_grid_6 rfl (lv_at hl 0 rfl) ?_
  refine q_get C f_X5_19 hM 0 rw_0 ro_4 dX5_grid_7 ?_
  refine lv_iconst (v := nI 1) hx hb dX5_grid_10 (by decide) ?_
  refine n_iald C hM 4 rw_4 (by omega) (by decide) dX5_grid_11 ?_
  refine w_topi (y := (nI (tBnd τ 1))) (hR.bnd (by omega)) ?_
  refine n_imul C dX5_grid_12 ?_
  refine lv_aload_n hx hb dX5_grid_13 rfl (lv_at hl 0 rfl) ?_
  refine q_get C f_X5_19 hM 0 rw_0 ro_4 dX5_grid_14 ?_
  refine lv_iconst (v := nI 2) hx hb dX5_grid_17 (by decide) ?_
  refine n_iald C hM 4 rw_4 (by omega) (by decide) dX5_grid_18 ?_
  refine w_topi (y := (nI (tBnd τ 2))) (hR.bnd (by omega)) ?_
  refine n_imul C dX5_grid_19 ?_
  refine lv_aload_n hx hb dX5_grid_20 rfl (lv_at hl 0 rfl) ?_
  refine q_get C f_X5_19 hM 0 rw_0 ro_4 dX5_grid_21 ?_
  refine lv_iconst (v := nI 3) hx hb dX5_grid_24 (by decide) ?_
  refine n_iald C hM 4 rw_4 (by omega) (by decide) dX5_grid_25 ?_
  refine w_topi (y := (nI (tBnd τ 3))) (hR.bnd (by omega)) ?_
  refine n_imul C dX5_grid_26 ?_
  exact r_i C hr hlk (rfl) dX5_grid_27
def setAt (τ : TB) (n : Nat) : Int32 := (((0 ||| (nI (n % tBnd τ 3) <<< ((nI (4 * 3)) &&& 31))) ||| (nI (n / tBnd τ 3 % tBnd τ 2) <<< ((nI (4 * 2)) &&& 31))) ||| (nI (n / tBnd τ 3 / tBnd τ 2 % tBnd τ 1) <<< ((nI (4 * 1)) &&& 31))) ||| (nI (n / tBnd τ 3 / tBnd τ 2 / tBnd τ 1 % tBnd τ 0) <<< ((nI (4 * 0)) &&& 31))
set_option maxHeartbeats 4000000 in
set_option maxRecDepth 100000 in
theorem c5_settingsAt (l : Launch) (g : GG) (h : Nat) (ad : Nat → Nat) (φ : Nat → Int32) (α : Nat → Nat → Int32) (τ : TB) (hR : MdR φ α τ) (hT : TOK τ) (n : Nat) (hn : n < 2 ^ 31) : Met l yX5_settingsAt (.code yX5_settingsAt cX5_settingsAt 5 (some .int) :: wsL_law) ({ frames := 0, cells := 0, slots := 0, locals := 0 } : Room) (mP g [.ref (h), .int (nI (n))] (fun H => va_P g.1 vwCl (wM g h ad φ α) H)) (vp_Si (fun z => z = setAt τ n)) 0 0 ((fun _ => False)) := by
  refine mMet (by decide) (Nat.le_of_ble_eq_true rfl) ?_
  intro p e s m below meth c C hr hlk hnm hM ls hl
  have hx := C.1.1
  have hb := C.1.2.1
  have hl : lv_has ls 5 [(0, .ref (h)), (1, .int (nI (n)))] := hl
  have b0 := hT.2.1 0 (by omega)
  have b1 := hT.2.1 1 (by omega)
  have b2 := hT.2.1 2 (by omega)
  have b3 := hT.2.1 3 (by omega)
  have d3 : n / tBnd τ 3 ≤ n := Nat.div_le_self _ _
  have d2 : n / tBnd τ 3 / tBnd τ 2 ≤ n := Nat.le_trans (Nat.div_le_self _ _) d3
  have d1 : n / tBnd τ 3 / tBnd τ 2 / tBnd τ 1 ≤ n := Nat.le_trans (Nat.div_le_self _ _) d2
  refine lv_iload_n hx hb dX5_settingsAt_0 rfl (lv_at hl 1 rfl) ?_
  refine lv_istore_n (lv' := [(2, .int (nI (n))), (0, .ref (h)), (1, .int (nI (n)))]) hx hb dX5_settingsAt_1 rfl hl (by decide) rfl (fun ls hl => ?_)
  refine lv_iconst (v := 0) hx hb dX5_settingsAt_2 (by decide) ?_
  refine lv_istore_n (lv' := [(3, .int (0)), (2, .int (nI (n))), (0, .ref (h)), (1, .int (nI (n)))]) hx hb dX5_settingsAt_3 rfl hl (by decide) rfl (fun ls hl => ?_)
  refine lv_iconst (v := nI 3) hx hb dX5_settingsAt_4 (by decide) ?_
  refine lv_istore (lv' := [(4, .int (nI (3))), (3, .int (0)), (2, .int (nI (n))), (0, .ref (h)), (1, .int (nI (n)))]) hx hb dX5_settingsAt_5 hl (by decide) rfl (fun ls hl => ?_)
  refine lv_iload hx hb dX5_settingsAt_7 (lv_at hl 0 rfl) ?_
  refine lv_if_lt (tgt := 45) hx hb dX5_settingsAt_9 (by decide) (fun c9 => by exfalso; exact absurd c9 (by decide)) (fun c9 => ?_)
  refine lv_iload_n hx hb dX5_settingsAt_12 rfl (lv_at hl 1 rfl) ?_
  refine lv_iload_n hx hb dX5_settingsAt_13 rfl (lv_at hl 2 rfl) ?_
  refine lv_aload_n hx hb dX5_settingsAt_14 rfl (lv_at hl 3 rfl) ?_
  refine q_get C f_X5_19 hM 0 rw_0 ro_4 dX5_settingsAt_15 ?_
  refine lv_iload hx hb dX5_settingsAt_18 (lv_at hl 0 rfl) ?_
  refine n_iald C hM 4 rw_4 (by omega) (by decide) dX5_settingsAt_20 ?_
  refine w_topi (y := (nI (tBnd τ 3))) (hR.bnd (by omega)) ?_
  refine n_irem C (by omega) (by omega) (by omega) dX5_settingsAt_21 ?_
  refine lv_iconst (v := nI 4) hx hb dX5_settingsAt_22 (by decide) ?_
  refine lv_iload hx hb dX5_settingsAt_23 (lv_at hl 0 rfl) ?_
  refine n_imul C dX5_settingsAt_25 ?_
  refine lv_ishl hx hb dX5_settingsAt_26 ?_
  refine lv_ior hx hb dX5_settingsAt_27 ?_
  refine lv_istore_n (lv' := [(3, .int ((0) ||| ((nI (n % (tBnd τ 3))) <<< ((nI (4 * 3)) &&& 31)))), (4, .int (nI (3))), (2, .int (nI (n))), (0, .ref (h)), (1, .int (nI (n)))]) hx hb dX5_settingsAt_28 rfl hl (by decide) rfl (fun ls hl => ?_)
  refine lv_iload_n hx hb dX5_settingsAt_29 rfl (lv_at hl 2 rfl) ?_
  refine lv_aload_n hx hb dX5_settingsAt_30 rfl (lv_at hl 3 rfl) ?_
  refine q_get C f_X5_19 hM 0 rw_0 ro_4 dX5_settingsAt_31 ?_
  refine lv_iload hx hb dX5_settingsAt_34 (lv_at hl 1 rfl) ?_
  refine n_iald C hM 4 rw_4 (by omega) (by decide) dX5_settingsAt_36 ?_
  refine w_topi (y := (nI (tBnd τ 3))) (hR.bnd (by omega)) ?_
  refine n_idiv C (by omega) (by omega) (by omega) dX5_settingsAt_37 ?_
  refine lv_istore_n (lv' := [(2, .int (nI (n / (tBnd τ 3)))), (3, .int ((0) ||| ((nI (n % (tBnd τ 3))) <<< ((nI (4 * 3)) &&& 31)))), (4, .int (nI (3))), (0, .ref (h)), (1, .int (nI (n)))]) hx hb dX5_settingsAt_38 rfl hl (by decide) rfl (fun ls hl => ?_)
  refine lv_iinc (v := (nI (2))) (lv' := [(4, .int (nI (2))), (2, .int (nI (n / (tBnd τ 3)))), (3, .int ((0) ||| ((nI (n % (tBnd τ 3))) <<< ((nI (4 * 3)) &&& 31)))), (0, .ref (h)), (1, .int (nI (n)))]) hx hb dX5_settingsAt_39 hl (k := 2) rfl (by decide) (by decide) rfl (fun ls hl => ?_)
  refine lv_goto (tgt := 7) hx hb dX5_settingsAt_42 (by decide) ?_
  refine lv_iload hx hb dX5_settingsAt_7 (lv_at hl 0 rfl) ?_
  refine lv_if_lt (tgt := 45) hx hb dX5_settingsAt_9 (by decide) (fun c9 => by exfalso; exact absurd c9 (by decide)) (fun c9 => ?_)
  refine lv_iload_n hx hb dX5_settingsAt_12 rfl (lv_at hl 2 rfl) ?_
  refine lv_iload_n hx hb dX5_settingsAt_13 rfl (lv_at hl 1 rfl) ?_
  refine lv_aload_n hx hb dX5_settingsAt_14 rfl (lv_at hl 3 rfl) ?_
  refine q_get C f_X5_19 hM 0 rw_0 ro_4 dX5_settingsAt_15 ?_
  refine lv_iload hx hb dX5_settingsAt_18 (lv_at hl 0 rfl) ?_
  refine n_iald C hM 4 rw_4 (by omega) (by decide) dX5_settingsAt_20 ?_
  refine w_topi (y := (nI (tBnd τ 2))) (hR.bnd (by omega)) ?_
  refine n_irem C (by omega) (by omega) (by omega) dX5_settingsAt_21 ?_
  refine lv_iconst (v := nI 4) hx hb dX5_settingsAt_22 (by decide) ?_
  refine lv_iload hx hb dX5_settingsAt_23 (lv_at hl 0 rfl) ?_
  refine n_imul C dX5_settingsAt_25 ?_
  refine lv_ishl hx hb dX5_settingsAt_26 ?_
  refine lv_ior hx hb dX5_settingsAt_27 ?_
  refine lv_istore_n (lv' := [(3, .int (((0) ||| ((nI (n % (tBnd τ 3))) <<< ((nI (4 * 3)) &&& 31))) ||| ((nI ((n / (tBnd τ 3)) % (tBnd τ 2))) <<< ((nI (4 * 2)) &&& 31)))), (4, .int (nI (2))), (2, .int (nI (n / (tBnd τ 3)))), (0, .ref (h)), (1, .int (nI (n)))]) hx hb dX5_settingsAt_28 rfl hl (by decide) rfl (fun ls hl => ?_)
  refine lv_iload_n hx hb dX5_settingsAt_29 rfl (lv_at hl 2 rfl) ?_
  refine lv_aload_n hx hb dX5_settingsAt_30 rfl (lv_at hl 3 rfl) ?_
  refine q_get C f_X5_19 hM 0 rw_0 ro_4 dX5_settingsAt_31 ?_
  refine lv_iload hx hb dX5_settingsAt_34 (lv_at hl 1 rfl) ?_
  refine n_iald C hM 4 rw_4 (by omega) (by decide) dX5_settingsAt_36 ?_
  refine w_topi (y := (nI (tBnd τ 2))) (hR.bnd (by omega)) ?_
  refine n_idiv C (by omega) (by omega) (by omega) dX5_settingsAt_37 ?_
  refine lv_istore_n (lv' := [(2, .int (nI ((n / (tBnd τ 3)) / (tBnd τ 2)))), (3, .int (((0) ||| ((nI (n % (tBnd τ 3))) <<< ((nI (4 * 3)) &&& 31))) ||| ((nI ((n / (tBnd τ 3)) % (tBnd τ 2))) <<< ((nI (4 * 2)) &&& 31)))), (4, .int (nI (2))), (0, .ref (h)), (1, .int (nI (n)))]) hx hb dX5_settingsAt_38 rfl hl (by decide) rfl (fun ls hl => ?_)
  refine lv_iinc (v := (nI (1))) (lv' := [(4, .int (nI (1))), (2, .int (nI ((n / (tBnd τ 3)) / (tBnd τ 2)))), (3, .int (((0) ||| ((nI (n % (tBnd τ 3))) <<< ((nI (4 * 3)) &&& 31))) ||| ((nI ((n / (tBnd τ 3)) % (tBnd τ 2))) <<< ((nI (4 * 2)) &&& 31)))), (0, .ref (h)), (1, .int (nI (n)))]) hx hb dX5_settingsAt_39 hl (k := 2) rfl (by decide) (by decide) rfl (fun ls hl => ?_)
  refine lv_goto (tgt := 7) hx hb dX5_settingsAt_42 (by decide) ?_
  refine lv_iload hx hb dX5_settingsAt_7 (lv_at hl 0 rfl) ?_
  refine lv_if_lt (tgt := 45) hx hb dX5_settingsAt_9 (by decide) (fun c9 => by exfalso; exact absurd c9 (by decide)) (fun c9 => ?_)
  refine lv_iload_n hx hb dX5_settingsAt_12 rfl (lv_at hl 2 rfl) ?_
  refine lv_iload_n hx hb dX5_settingsAt_13 rfl (lv_at hl 1 rfl) ?_
  refine lv_aload_n hx hb dX5_settingsAt_14 rfl (lv_at hl 3 rfl) ?_
  refine q_get C f_X5_19 hM 0 rw_0 ro_4 dX5_settingsAt_15 ?_
  refine lv_iload hx hb dX5_settingsAt_18 (lv_at hl 0 rfl) ?_
  refine n_iald C hM 4 rw_4 (by omega) (by decide) dX5_settingsAt_20 ?_
  refine w_topi (y := (nI (tBnd τ 1))) (hR.bnd (by omega)) ?_
  refine n_irem C (by omega) (by omega) (by omega) dX5_settingsAt_21 ?_
  refine lv_iconst (v := nI 4) hx hb dX5_settingsAt_22 (by decide) ?_
  refine lv_iload hx hb dX5_settingsAt_23 (lv_at hl 0 rfl) ?_
  refine n_imul C dX5_settingsAt_25 ?_
  refine lv_ishl hx hb dX5_settingsAt_26 ?_
  refine lv_ior hx hb dX5_settingsAt_27 ?_
  refine lv_istore_n (lv' := [(3, .int ((((0) ||| ((nI (n % (tBnd τ 3))) <<< ((nI (4 * 3)) &&& 31))) ||| ((nI ((n / (tBnd τ 3)) % (tBnd τ 2))) <<< ((nI (4 * 2)) &&& 31))) ||| ((nI (((n / (tBnd τ 3)) / (tBnd τ 2)) % (tBnd τ 1))) <<< ((nI (4 * 1)) &&& 31)))), (4, .int (nI (1))), (2, .int (nI ((n / (tBnd τ 3)) / (tBnd τ 2)))), (0, .ref (h)), (1, .int (nI (n)))]) hx hb dX5_settingsAt_28 rfl hl (by decide) rfl (fun ls hl => ?_)
  refine lv_iload_n hx hb dX5_settingsAt_29 rfl (lv_at hl 2 rfl) ?_
  refine lv_aload_n hx hb dX5_settingsAt_30 rfl (lv_at hl 3 rfl) ?_
  refine q_get C f_X5_19 hM 0 rw_0 ro_4 dX5_settingsAt_31 ?_
  refine lv_iload hx hb dX5_settingsAt_34 (lv_at hl 1 rfl) ?_
  refine n_iald C hM 4 rw_4 (by omega) (by decide) dX5_settingsAt_36 ?_
  refine w_topi (y := (nI (tBnd τ 1))) (hR.bnd (by omega)) ?_
  refine n_idiv C (by omega) (by omega) (by omega) dX5_settingsAt_37 ?_
  refine lv_istore_n (lv' := [(2, .int (nI (((n / (tBnd τ 3)) / (tBnd τ 2)) / (tBnd τ 1)))), (3, .int ((((0) ||| ((nI (n % (tBnd τ 3))) <<< ((nI (4 * 3)) &&& 31))) ||| ((nI ((n / (tBnd τ 3)) % (tBnd τ 2))) <<< ((nI (4 * 2)) &&& 31))) ||| ((nI (((n / (tBnd τ 3)) / (tBnd τ 2)) % (tBnd τ 1))) <<< ((nI (4 * 1)) &&& 31)))), (4, .int (nI (1))), (0, .ref (h)), (1, .int (nI (n)))]) hx hb dX5_settingsAt_38 rfl hl (by decide) rfl (fun ls hl => ?_)
  refine lv_iinc (v := (nI (0))) (lv' := [(4, .int (nI (0))), (2, .int (nI (((n / (tBnd τ 3)) / (tBnd τ 2)) / (tBnd τ 1)))), (3, .int ((((0) ||| ((nI (n % (tBnd τ 3))) <<< ((nI (4 * 3)) &&& 31))) ||| ((nI ((n / (tBnd τ 3)) % (tBnd τ 2))) <<< ((nI (4 * 2)) &&& 31))) ||| ((nI (((n / (tBnd τ 3)) / (tBnd τ 2)) % (tBnd τ 1))) <<< ((nI (4 * 1)) &&& 31)))), (0, .ref (h)), (1, .int (nI (n)))]) hx hb dX5_settingsAt_39 hl (k := 2) rfl (by decide) (by decide) rfl (fun ls hl => ?_)
  refine lv_goto (tgt := 7) hx hb dX5_settingsAt_42 (by decide) ?_
  refine lv_iload hx hb dX5_settingsAt_7 (lv_at hl 0 rfl) ?_
  refine lv_if_lt (tgt := 45) hx hb dX5_settingsAt_9 (by decide) (fun c9 => by exfalso; exact absurd c9 (by decide)) (fun c9 => ?_)
  refine lv_iload_n hx hb dX5_settingsAt_12 rfl (lv_at hl 2 rfl) ?_
  refine lv_iload_n hx hb dX5_settingsAt_13 rfl (lv_at hl 1 rfl) ?_
  refine lv_aload_n hx hb dX5_settingsAt_14 rfl (lv_at hl 3 rfl) ?_
  refine q_get C f_X5_19 hM 0 rw_0 ro_4 dX5_settingsAt_15 ?_
  refine lv_iload hx hb dX5_settingsAt_18 (lv_at hl 0 rfl) ?_
  refine n_iald C hM 4 rw_4 (by omega) (by decide) dX5_settingsAt_20 ?_
  refine w_topi (y := (nI (tBnd τ 0))) (hR.bnd (by omega)) ?_
  refine n_irem C (by omega) (by omega) (by omega) dX5_settingsAt_21 ?_
  refine lv_iconst (v := nI 4) hx hb dX5_settingsAt_22 (by decide) ?_
  refine lv_iload hx hb dX5_settingsAt_23 (lv_at hl 0 rfl) ?_
  refine n_imul C dX5_settingsAt_25 ?_
  refine lv_ishl hx hb dX5_settingsAt_26 ?_
  refine lv_ior hx hb dX5_settingsAt_27 ?_
  refine lv_istore_n (lv' := [(3, .int (((((0) ||| ((nI (n % (tBnd τ 3))) <<< ((nI (4 * 3)) &&& 31))) ||| ((nI ((n / (tBnd τ 3)) % (tBnd τ 2))) <<< ((nI (4 * 2)) &&& 31))) ||| ((nI (((n / (tBnd τ 3)) / (tBnd τ 2)) % (tBnd τ 1))) <<< ((nI (4 * 1)) &&& 31))) ||| ((nI ((((n / (tBnd τ 3)) / (tBnd τ 2)) / (tBnd τ 1)) % (tBnd τ 0))) <<< ((nI (4 * 0)) &&& 31)))), (4, .int (nI (0))), (2, .int (nI (((n / (tBnd τ 3)) / (tBnd τ 2)) / (tBnd τ 1)))), (0, .ref (h)), (1, .int (nI (n)))]) hx hb dX5_settingsAt_28 rfl hl (by decide) rfl (fun ls hl => ?_)
  refine lv_iload_n hx hb dX5_settingsAt_29 rfl (lv_at hl 2 rfl) ?_
  refine lv_aload_n hx hb dX5_settingsAt_30 rfl (lv_at hl 3 rfl) ?_
  refine q_get C f_X5_19 hM 0 rw_0 ro_4 dX5_settingsAt_31 ?_
  refine lv_iload hx hb dX5_settingsAt_34 (lv_at hl 1 rfl) ?_
  refine n_iald C hM 4 rw_4 (by omega) (by decide) dX5_settingsAt_36 ?_
  refine w_topi (y := (nI (tBnd τ 0))) (hR.bnd (by omega)) ?_
  refine n_idiv C (by omega) (by omega) (by omega) dX5_settingsAt_37 ?_
  refine lv_istore_n (lv' := [(2, .int (nI ((((n / (tBnd τ 3)) / (tBnd τ 2)) / (tBnd τ 1)) / (tBnd τ 0)))), (3, .int (((((0) ||| ((nI (n % (tBnd τ 3))) <<< ((nI (4 * 3)) &&& 31))) ||| ((nI ((n / (tBnd τ 3)) % (tBnd τ 2))) <<< ((nI (4 * 2)) &&& 31))) ||| ((nI (((n / (tBnd τ 3)) / (tBnd τ 2)) % (tBnd τ 1))) <<< ((nI (4 * 1)) &&& 31))) ||| ((nI ((((n / (tBnd τ 3)) / (tBnd τ 2)) / (tBnd τ 1)) % (tBnd τ 0))) <<< ((nI (4 * 0)) &&& 31)))), (4, .int (nI (0))), (0, .ref (h)), (1, .int (nI (n)))]) hx hb dX5_settingsAt_38 rfl hl (by decide) rfl (fun ls hl => ?_)
  refine lv_iinc (v := ((-1))) (lv' := [(4, .int ((-1))), (2, .int (nI ((((n / (tBnd τ 3)) / (tBnd τ 2)) / (tBnd τ 1)) / (tBnd τ 0)))), (3, .int (((((0) ||| ((nI (n % (tBnd τ 3))) <<< ((nI (4 * 3)) &&& 31))) ||| ((nI ((n / (tBnd τ 3)) % (tBnd τ 2))) <<< ((nI (4 * 2)) &&& 31))) ||| ((nI (((n / (tBnd τ 3)) / (tBnd τ 2)) % (tBnd τ 1))) <<< ((nI (4 * 1)) &&& 31))) ||| ((nI ((((n / (tBnd τ 3)) / (tBnd τ 2)) / (tBnd τ 1)) % (tBnd τ 0))) <<< ((nI (4 * 0)) &&& 31)))), (0, .ref (h)), (1, .int (nI (n)))]) hx hb dX5_settingsAt_39 hl (k := 2) rfl (by decide) (by decide) rfl (fun ls hl => ?_)
  refine lv_goto (tgt := 7) hx hb dX5_settingsAt_42 (by decide) ?_
  refine lv_iload hx hb dX5_settingsAt_7 (lv_at hl 0 rfl) ?_
  refine lv_if_lt (tgt := 45) hx hb dX5_settingsAt_9 (by decide) (fun c9 => ?_) (fun c9 => by exfalso; exact absurd (by decide) c9)
  refine lv_iload_n hx hb dX5_settingsAt_45 rfl (lv_at hl 2 rfl) ?_
  exact r_i C hr hlk (rfl) dX5_settingsAt_46
theorem fst_no {p : Nat → Bool} {n r : Nat} {z : Int32} (h : z = fstI p (n - r) r) (hr : r < n) (hp : p r = false) : z = fstI p (n - (r + 1)) (r + 1) := by
  rw [h, show n - r = (n - (r + 1)) + 1 by omega]
  simp only [fstI, hp, Bool.false_eq_true, if_false]
theorem fst_yes {p : Nat → Bool} {n r : Nat} {z : Int32} (h : z = fstI p (n - r) r) (hr : r < n) (hp : p r = true) : nI r = z := by
  rw [h, show n - r = (n - (r + 1)) + 1 by omega]
  simp only [fstI, hp, if_true]
theorem fst_end {p : Nat → Bool} {n r : Nat} {z : Int32} (h : z = fstI p (n - r) r) (hr : n ≤ r) : (-1) = z := by
  rw [h, show n - r = 0 by omega]
  rfl
theorem al_0 {w b : Bool} {p : Nat → Bool} (h : w = b) : w = true ↔ b = true ∧ ∀ j, j < 0 → p j = true := by
  rw [h]
  exact ⟨fun q => ⟨q, fun j hj => absurd hj (by omega)⟩, fun q => q.1⟩
theorem al_yes {w : Bool} {b : Prop} {p : Nat → Bool} {i : Nat} (h : w = true ↔ b ∧ ∀ j, j < i → p j = true) (hw : w = true) (hp : p i = true) : true = true ↔ b ∧ ∀ j, j < i + 1 → p j = true :=
  ⟨fun _ => ⟨(h.mp hw).1, lt_s1 (h.mp hw).2 hp⟩, fun _ => rfl⟩
theorem al_no1 {w : Bool} {b : Prop} {p : Nat → Bool} {i : Nat} (h : w = true ↔ b ∧ ∀ j, j < i → p j = true) (hw : w = false) : false = true ↔ b ∧ ∀ j, j < i + 1 → p j = true :=
  ⟨fun q => (nomatch q), fun q => by rw [h.mpr ⟨q.1, fun j hj => q.2 j (by omega)⟩] at hw; cases hw⟩
theorem al_no2 {w : Bool} {b : Prop} {p : Nat → Bool} {i : Nat} (h : w = true ↔ b ∧ ∀ j, j < i → p j = true) (hp : p i = false) : false = true ↔ b ∧ ∀ j, j < i + 1 → p j = true :=
  ⟨fun q => (nomatch q), fun q => by rw [q.2 i (by omega)] at hp; cases hp⟩
theorem bit0f {x : Int32} {i : Nat} (h : ((x >>> ((nI i) &&& 31)) &&& 1) = 0) : hasB x i = false := notHas (by rw [h]; decide)
theorem bit0t {x : Int32} {i : Nat} (h : ¬ ((x >>> ((nI i) &&& 31)) &&& 1) = 0) : hasB x i = true := isHas ((and1 _).resolve_left h)
theorem sav_no {a w w8 : Bool} {n4 n8 : Nat} {p4 p8 : Nat → Bool} (h4 : w = true ↔ a = true ∧ ∀ j, j < n4 → p4 j = true) (h8 : w8 = true ↔ w = true ∧ ∀ j, j < n8 → p8 j = true) (hw : w8 = false) : (a && (List.range n4).all p4 && (List.range n8).all p8) = false := by
  cases e : (a && (List.range n4).all p4 && (List.range n8).all p8) with
  | false => rfl
  | true =>
    simp only [Bool.and_eq_true, allR] at e
    rw [h8.mpr ⟨h4.mpr e.1, e.2⟩] at hw
    cases hw
theorem sav_yes {a w w8 : Bool} {n4 n8 : Nat} {p4 p8 : Nat → Bool} (h4 : w = true ↔ a = true ∧ ∀ j, j < n4 → p4 j = true) (h8 : w8 = true ↔ w = true ∧ ∀ j, j < n8 → p8 j = true) (hw : w8 = true) : (a && (List.range n4).all p4 && (List.range n8).all p8) = true := by
  have q8 := h8.mp hw
  have q4 := h4.mp q8.1
  simp only [Bool.and_eq_true, allR]
  exact ⟨q4, q8.2⟩
set_option maxHeartbeats 4000000 in
set_option maxRecDepth 100000 in
theorem c5_savedBy (l : Launch) (g : GG) (h : Nat) (ad : Nat → Nat) (φ : Nat → Int32) (α : Nat → Nat → Int32) (τ : TB) (hR : MdR φ α τ) (hT : TOK τ) (k : Nat) (all own : Int32) (tk : Nat) (h_k : k < 4) (htk : tk ≤ 16) : Met l yX5_savedBy (.code yX5_savedBy cX5_savedBy 8 (some .int) :: wsL_law) ({ frames := 1, cells := 0, slots := 0, locals := 23 } : Room) (mP g [.ref (h), .int (nI (k)), .int (all), .int (own), .int (nI (tk))] (fun H => va_P g.1 vwCl (wM g h ad φ α) H)) (vp_Si (fun z => z = savedI τ k all own tk)) 0 0 ((fun _ => False)) := by
  refine mMet (by decide) (Nat.le_of_ble_eq_true rfl) ?_
  intro p e s m below meth c C hr hlk hnm hM ls hl
  have hx := C.1.1
  have hb := C.1.2.1
  have hl : lv_has ls 8 [(0, .ref (h)), (1, .int (nI (k))), (2, .int (all)), (3, .int (own)), (4, .int (nI (tk)))] := hl
  have h40 := hT.2.2.1
  have hrec := q_recv C hM 0 rw_0 rfl
  have CL_k := (hT.1 k h_k).1
  have CQ_k : ∀ j, j < (tCode τ k).length → (tCode τ k).getD j 0 < 256 := fun j hj => (hT.1 k h_k).2 _ (getD_mem hj)
  refine lv_iconst (v := nI 0) hx hb dX5_savedBy_0 (by decide) ?_
  refine lv_istore (lv' := [(5, .int (nI (0))), (0, .ref (h)), (1, .int (nI (k))), (2, .int (all)), (3, .int (own)), (4, .int (nI (tk)))]) hx hb dX5_savedBy_1 hl (by decide) rfl (fun ls hl => ?_)
  have lp : ∀ (n_lp : Nat) (r : Nat) (ls : Array Slot), (r ≤ tN τ) → (tN τ + 1 ≤ r + n_lp) → (savedI τ k all own tk = fstI (fun r => savB τ (tCode τ k) all own tk (tRun τ r)) (tN τ - r) r) → lv_has ls 8 [(0, .ref (h)), (1, .int (nI (k))), (2, .int (all)), (3, .int (own)), (4, .int (nI (tk))), (5, .int (nI (r)))] → W p l e ({ frames := 1, cells := 0, slots := 0, locals := 23 } : Room) s m ([.ref (h), .int (nI (k)), .int (all), .int (own), .int (nI (tk))] : List Value).toArray below meth c s.heap [] 0 0 (MQ below (vp_Si (fun z => z = savedI τ k all own tk)) (([.ref (h), .int (nI (k)), .int (all), .int (own), .int (nI (tk))] : List Value).toArray) s 0 0 (fun _ => False)) (F0 m 3 ls []) := by
    intro n_lp
    induction n_lp with
    | zero =>
      intro r ls hi hn hv
      exact absurd hn (by omega)
    | succ n_lp ih_lp =>
      intro r ls hi hn hv hl
      refine lv_iload hx hb dX5_savedBy_3 (lv_at hl 5 rfl) ?_
      refine lv_aload_n hx hb dX5_savedBy_5 rfl (lv_at hl 0 rfl) ?_
      refine q_get C f_X5_90 hM 0 rw_0 ro_6 dX5_savedBy_6 ?_
      refine w_topi (y := (nI (tN τ))) (hR.n) ?_
      refine n_icmp_ge (tgt := 214) C (by omega) (by omega) dX5_savedBy_9 (by decide) (fun c9 => ?_) (fun c9 => ?_)
      · skip
        refine lv_iconst (v := (-1)) hx hb dX5_savedBy_214 (by decide) ?_
        exact r_i C hr hlk (fst_end hv c9) dX5_savedBy_215
      · skip
        have R_r := hR.run c9
        have T_r := hT.2.2.2.1 r c9
        have BC_r := T_r.1
        have BL_r := T_r.2.1
        have BT0_r := T_r.2.2.2.2.2.1
        have BT_r := T_r.2.2.2.2.2.2.1
        have BR_r := T_r.2.2.2.2.2.2.2.1
        have BQ_r : ∀ j, j < (rStp (tRun τ r)).length → (rStp (tRun τ r)).getD j 0 < 256 := fun j hj => T_r.2.2.1 _ (getD_mem hj)
        refine lv_aload_n hx hb dX5_savedBy_12 rfl (lv_at hl 0 rfl) ?_
        refine q_get C f_X5_50 hM 0 rw_0 ro_16 dX5_savedBy_13 ?_
        refine lv_iload hx hb dX5_savedBy_16 (lv_at hl 5 rfl) ?_
        refine n_iald C hM 14 rw_16 (by omega) (by decide) dX5_savedBy_18 ?_
        refine w_topi (y := (rOrg (tRun τ r))) (R_r.org) ?_
        refine lv_iconst (v := (-1)) hx hb dX5_savedBy_19 (by decide) ?_
        refine lv_icmp_ne (tgt := 208) hx hb dX5_savedBy_20 (by decide) (fun c20 => ?_) (fun c20 => ?_)
        · skip
          refine n_iinc (d := 1) (lv' := [(5, .int (nI (r + 1))), (0, .ref (h)), (1, .int (nI (k))), (2, .int (all)), (3, .int (own)), (4, .int (nI (tk)))]) C dX5_savedBy_208 (by decide) hl (k := 5) rfl (by decide) rfl (fun ls hl => ?_)
          refine lv_goto (tgt := 3) hx hb dX5_savedBy_211 (by decide) ?_
          exact ih_lp (r + 1) ls (by omega) (by omega) (fst_no hv (by omega) (by simp [savB, c20])) (lv_sub hl [1, 2, 3, 4, 5, 0] rfl)
        · skip
          refine lv_aload_n hx hb dX5_savedBy_23 rfl (lv_at hl 0 rfl) ?_
          refine q_get C f_X5_46 hM 0 rw_0 ro_15 dX5_savedBy_24 ?_
          refine lv_iload hx hb dX5_savedBy_27 (lv_at hl 5 rfl) ?_
          refine n_zald C hM 13 rw_15 (by omega) (by decide) dX5_savedBy_29 ?_
          refine w_topi (y := (bI (rBr (tRun τ r)))) (R_r.br) ?_
          refine b_ifne (tgt := 208) C dX5_savedBy_30 (by decide) (fun c30 => ?_) (fun c30 => ?_)
          · skip
            refine n_iinc (d := 1) (lv' := [(5, .int (nI (r + 1))), (0, .ref (h)), (1, .int (nI (k))), (2, .int (all)), (3, .int (own)), (4, .int (nI (tk)))]) C dX5_savedBy_208 (by decide) hl (k := 5) rfl (by decide) rfl (fun ls hl => ?_)
            refine lv_goto (tgt := 3) hx hb dX5_savedBy_211 (by decide) ?_
            exact ih_lp (r + 1) ls (by omega) (by omega) (fst_no hv (by omega) (by simp [savB, c20, c30])) (lv_sub hl [1, 2, 3, 4, 5, 0] rfl)
          · skip
            refine lv_aload_n hx hb dX5_savedBy_33 rfl (lv_at hl 0 rfl) ?_
            refine q_get C f_X5_68 hM 0 rw_0 ro_22 dX5_savedBy_34 ?_
            refine lv_iload hx hb dX5_savedBy_37 (lv_at hl 5 rfl) ?_
            refine n_zald C hM 20 rw_22 (by omega) (by decide) dX5_savedBy_39 ?_
            refine w_topi (y := (bI (rCk (tRun τ r)))) (R_r.ck) ?_
            refine b_ifne (tgt := 208) C dX5_savedBy_40 (by decide) (fun c40 => ?_) (fun c40 => ?_)
            · skip
              refine n_iinc (d := 1) (lv' := [(5, .int (nI (r + 1))), (0, .ref (h)), (1, .int (nI (k))), (2, .int (all)), (3, .int (own)), (4, .int (nI (tk)))]) C dX5_savedBy_208 (by decide) hl (k := 5) rfl (by decide) rfl (fun ls hl => ?_)
              refine lv_goto (tgt := 3) hx hb dX5_savedBy_211 (by decide) ?_
              exact ih_lp (r + 1) ls (by omega) (by omega) (fst_no hv (by omega) (by simp [savB, c20, c30, c40])) (lv_sub hl [1, 2, 3, 4, 5, 0] rfl)
            · skip
              refine lv_aload_n hx hb dX5_savedBy_43 rfl (lv_at hl 0 rfl) ?_
              refine q_get C f_X5_37 hM 0 rw_0 ro_12 dX5_savedBy_44 ?_
              refine lv_iload hx hb dX5_savedBy_47 (lv_at hl 5 rfl) ?_
              refine n_iald C hM 10 rw_12 (by omega) (by decide) dX5_savedBy_49 ?_
              refine w_topi (y := (nI (rTk (tRun τ r)))) (R_r.tk) ?_
              refine lv_iload hx hb dX5_savedBy_50 (lv_at hl 4 rfl) ?_
              refine n_icmp_lt (tgt := 208) C (by omega) (by omega) dX5_savedBy_52 (by decide) (fun c52 => ?_) (fun c52 => ?_)
              · skip
                refine n_iinc (d := 1) (lv' := [(5, .int (nI (r + 1))), (0, .ref (h)), (1, .int (nI (k))), (2, .int (all)), (3, .int (own)), (4, .int (nI (tk)))]) C dX5_savedBy_208 (by decide) hl (k := 5) rfl (by decide) rfl (fun ls hl => ?_)
                refine lv_goto (tgt := 3) hx hb dX5_savedBy_211 (by decide) ?_
                exact ih_lp (r + 1) ls (by omega) (by omega) (fst_no hv (by omega) (by simp [savB, c20, c30, c40, Nat.not_le.mpr c52])) (lv_sub hl [1, 2, 3, 4, 5, 0] rfl)
              · skip
                refine lv_aload_n hx hb dX5_savedBy_55 rfl (lv_at hl 0 rfl) ?_
                refine lv_iload hx hb dX5_savedBy_56 (lv_at hl 5 rfl) ?_
                refine lv_iload_n hx hb dX5_savedBy_58 rfl (lv_at hl 1 rfl) ?_
                refine k_i (c_V (As := [.int (nI (r)), .int (nI (k))]) (rest := []) C v_X5_145 (c5_isCodeOf l g h ad φ α τ hR hT r (k) (by omega) (by omega)) ⟨Nat.le_of_ble_eq_true rfl, Nat.le_of_ble_eq_true rfl⟩ (hrec) (hM) hl.1 rfl rfl (Nat.le_of_ble_eq_true rfl) dX5_savedBy_59 ⟨Nat.le_of_ble_eq_true rfl, Nat.le_of_ble_eq_true rfl⟩) (fun r59 q59 => ?_)
                subst q59
                refine b_ifne (tgt := 68) C dX5_savedBy_62 (by decide) (fun c62 => ?_) (fun c62 => ?_)
                · skip
                  refine lv_aload_n hx hb dX5_savedBy_68 rfl (lv_at hl 0 rfl) ?_
                  refine q_get C f_X5_65 hM 0 rw_0 ro_21 dX5_savedBy_69 ?_
                  refine lv_iload hx hb dX5_savedBy_72 (lv_at hl 5 rfl) ?_
                  refine n_zald C hM 19 rw_21 (by omega) (by decide) dX5_savedBy_74 ?_
                  refine w_topi (y := (bI (rSd (tRun τ r)))) (R_r.sd) ?_
                  refine b_ifeq (tgt := 89) C dX5_savedBy_75 (by decide) (fun c75 => ?_) (fun c75 => ?_)
                  · skip
                    refine lv_iconst (v := bI true) hx hb dX5_savedBy_89 (by decide) ?_
                    refine lv_goto (tgt := 94) hx hb dX5_savedBy_90 (by decide) ?_
                    refine lv_istore (lv' := [(6, .int (bI (true))), (0, .ref (h)), (1, .int (nI (k))), (2, .int (all)), (3, .int (own)), (4, .int (nI (tk))), (5, .int (nI (r)))]) hx hb dX5_savedBy_94 hl (by decide) rfl (fun ls hl => ?_)
                    refine lv_iconst (v := nI 0) hx hb dX5_savedBy_96 (by decide) ?_
                    refine lv_istore (lv' := [(7, .int (nI (0))), (6, .int (bI (true))), (0, .ref (h)), (1, .int (nI (k))), (2, .int (all)), (3, .int (own)), (4, .int (nI (tk))), (5, .int (nI (r)))]) hx hb dX5_savedBy_97 hl (by decide) rfl (fun ls hl => ?_)
                    have l4 : ∀ (n_l4 : Nat) (i : Nat) (w : Bool) (ls : Array Slot), (i ≤ 4) → (4 + 1 ≤ i + n_l4) → (w = true ↔ (!rSd (tRun τ r) || decide (rSeed (tRun τ r) = own)) = true ∧ ∀ j, j < i → (!hasB (rRS (tRun τ r)) j || decide (sett (rSet (tRun τ r)) j = sett all j)) = true) → lv_has ls 8 [(0, .ref (h)), (1, .int (nI (k))), (2, .int (all)), (3, .int (own)), (4, .int (nI (tk))), (5, .int (nI (r))), (6, .int (bI (w))), (7, .int (nI (i)))] → W p l e ({ frames := 1, cells := 0, slots := 0, locals := 23 } : Room) s m ([.ref (h), .int (nI (k)), .int (all), .int (own), .int (nI (tk))] : List Value).toArray below meth c s.heap [] 0 0 (MQ below (vp_Si (fun z => z = savedI τ k all own tk)) (([.ref (h), .int (nI (k)), .int (all), .int (own), .int (nI (tk))] : List Value).toArray) s 0 0 (fun _ => False)) (F0 m 99 ls []) := by
                      intro n_l4
                      induction n_l4 with
                      | zero =>
                        intro i w ls hi4 hn4 hv4
                        exact absurd hn (by omega)
                      | succ n_l4 ih_l4 =>
                        intro i w ls hi4 hn4 hv4 hl
                        refine lv_iload hx hb dX5_savedBy_99 (lv_at hl 7 rfl) ?_
                        refine lv_iconst (v := nI 4) hx hb dX5_savedBy_101 (by decide) ?_
                        refine n_icmp_ge (tgt := 161) C (by omega) (by omega) dX5_savedBy_102 (by decide) (fun c102 => ?_) (fun c102 => ?_)
                        · skip
                          rw [show i = 4 by omega] at hv4
                          refine lv_iconst (v := nI 0) hx hb dX5_savedBy_161 (by decide) ?_
                          refine lv_istore (lv' := [(7, .int (nI (0))), (0, .ref (h)), (1, .int (nI (k))), (2, .int (all)), (3, .int (own)), (4, .int (nI (tk))), (5, .int (nI (r))), (6, .int (bI (w)))]) hx hb dX5_savedBy_162 hl (by decide) rfl (fun ls hl => ?_)
                          have l8 : ∀ (n_l8 : Nat) (i : Nat) (w8 : Bool) (ls : Array Slot), (i ≤ 8) → (8 + 1 ≤ i + n_l8) → (w8 = true ↔ w = true ∧ ∀ j, j < i → (!chgB (tDat τ) (tRun τ r) j) = true) → lv_has ls 8 [(0, .ref (h)), (1, .int (nI (k))), (2, .int (all)), (3, .int (own)), (4, .int (nI (tk))), (5, .int (nI (r))), (6, .int (bI (w8))), (7, .int (nI (i)))] → W p l e ({ frames := 1, cells := 0, slots := 0, locals := 23 } : Room) s m ([.ref (h), .int (nI (k)), .int (all), .int (own), .int (nI (tk))] : List Value).toArray below meth c s.heap [] 0 0 (MQ below (vp_Si (fun z => z = savedI τ k all own tk)) (([.ref (h), .int (nI (k)), .int (all), .int (own), .int (nI (tk))] : List Value).toArray) s 0 0 (fun _ => False)) (F0 m 164 ls []) := by
                            intro n_l8
                            induction n_l8 with
                            | zero =>
                              intro i w8 ls hi8 hn8 hv8
                              exact absurd hn (by omega)
                            | succ n_l8 ih_l8 =>
                              intro i w8 ls hi8 hn8 hv8 hl
                              refine lv_iload hx hb dX5_savedBy_164 (lv_at hl 7 rfl) ?_
                              refine lv_bipush (v := nI 8) hx hb dX5_savedBy_166 (by decide) ?_
                              refine n_icmp_ge (tgt := 200) C (by omega) (by omega) dX5_savedBy_168 (by decide) (fun c168 => ?_) (fun c168 => ?_)
                              · skip
                                rw [show i = 8 by omega] at hv8
                                refine lv_iload hx hb dX5_savedBy_200 (lv_at hl 6 rfl) ?_
                                refine b_ifeq (tgt := 208) C dX5_savedBy_202 (by decide) (fun c202 => ?_) (fun c202 => ?_)
                                · skip
                                  refine n_iinc (d := 1) (lv' := [(5, .int (nI (r + 1))), (0, .ref (h)), (1, .int (nI (k))), (2, .int (all)), (3, .int (own)), (4, .int (nI (tk))), (6, .int (bI (w8))), (7, .int (nI (i)))]) C dX5_savedBy_208 (by decide) hl (k := 5) rfl (by decide) rfl (fun ls hl => ?_)
                                  refine lv_goto (tgt := 3) hx hb dX5_savedBy_211 (by decide) ?_
                                  exact ih_lp (r + 1) ls (by omega) (by omega) (fst_no hv (by omega) (by simp only [savB, c20, c30, c40, c52, c62, decide_true, Bool.true_and, Bool.not_false]; exact sav_no hv4 hv8 c202)) (lv_sub hl [1, 2, 3, 4, 5, 0] rfl)
                                · skip
                                  refine lv_iload hx hb dX5_savedBy_205 (lv_at hl 5 rfl) ?_
                                  exact r_i C hr hlk (fst_yes hv (by omega) (by simp only [savB, c20, c30, c40, c52, c62, decide_true, Bool.true_and, Bool.not_false]; exact sav_yes hv4 hv8 c202)) dX5_savedBy_207
                              · skip
                                refine lv_iload hx hb dX5_savedBy_171 (lv_at hl 6 rfl) ?_
                                refine b_ifeq (tgt := 191) C dX5_savedBy_173 (by decide) (fun c173 => ?_) (fun c173 => ?_)
                                · skip
                                  refine lv_iconst (v := bI false) hx hb dX5_savedBy_191 (by decide) ?_
                                  refine lv_istore (lv' := [(6, .int (bI (false))), (0, .ref (h)), (1, .int (nI (k))), (2, .int (all)), (3, .int (own)), (4, .int (nI (tk))), (5, .int (nI (r))), (7, .int (nI (i)))]) hx hb dX5_savedBy_192 hl (by decide) rfl (fun ls hl => ?_)
                                  refine n_iinc (d := 1) (lv' := [(7, .int (nI (i + 1))), (6, .int (bI (false))), (0, .ref (h)), (1, .int (nI (k))), (2, .int (all)), (3, .int (own)), (4, .int (nI (tk))), (5, .int (nI (r)))]) C dX5_savedBy_194 (by decide) hl (k := 7) rfl (by decide) rfl (fun ls hl => ?_)
                                  refine lv_goto (tgt := 164) hx hb dX5_savedBy_197 (by decide) ?_
                                  exact ih_l8 (i + 1) (false) ls (by omega) (by omega) (al_no1 hv8 c173) (lv_sub hl [2, 3, 4, 5, 6, 7, 1, 0] rfl)
                                · skip
                                  refine lv_aload_n hx hb dX5_savedBy_176 rfl (lv_at hl 0 rfl) ?_
                                  refine lv_iload hx hb dX5_savedBy_177 (lv_at hl 5 rfl) ?_
                                  refine lv_iload hx hb dX5_savedBy_179 (lv_at hl 7 rfl) ?_
                                  refine k_i (c_V (As := [.int (nI (r)), .int (nI (i))]) (rest := []) C v_X5_149 (c5_isOtherWord l g h ad φ α τ hR hT r i (by omega) (by omega)) ⟨Nat.le_of_ble_eq_true rfl, Nat.le_of_ble_eq_true rfl⟩ (hrec) (hM) hl.1 rfl rfl (Nat.le_of_ble_eq_true rfl) dX5_savedBy_181 ⟨Nat.le_of_ble_eq_true rfl, Nat.le_of_ble_eq_true rfl⟩) (fun r181 q181 => ?_)
                                  subst q181
                                  refine b_ifne (tgt := 191) C dX5_savedBy_184 (by decide) (fun c184 => ?_) (fun c184 => ?_)
                                  · skip
                                    refine lv_iconst (v := bI false) hx hb dX5_savedBy_191 (by decide) ?_
                                    refine lv_istore (lv' := [(6, .int (bI (false))), (0, .ref (h)), (1, .int (nI (k))), (2, .int (all)), (3, .int (own)), (4, .int (nI (tk))), (5, .int (nI (r))), (7, .int (nI (i)))]) hx hb dX5_savedBy_192 hl (by decide) rfl (fun ls hl => ?_)
                                    refine n_iinc (d := 1) (lv' := [(7, .int (nI (i + 1))), (6, .int (bI (false))), (0, .ref (h)), (1, .int (nI (k))), (2, .int (all)), (3, .int (own)), (4, .int (nI (tk))), (5, .int (nI (r)))]) C dX5_savedBy_194 (by decide) hl (k := 7) rfl (by decide) rfl (fun ls hl => ?_)
                                    refine lv_goto (tgt := 164) hx hb dX5_savedBy_197 (by decide) ?_
                                    exact ih_l8 (i + 1) (false) ls (by omega) (by omega) (al_no2 hv8 (by simp [c184])) (lv_sub hl [2, 3, 4, 5, 6, 7, 1, 0] rfl)
                                  · skip
                                    refine lv_iconst (v := bI true) hx hb dX5_savedBy_187 (by decide) ?_
                                    refine lv_goto (tgt := 192) hx hb dX5_savedBy_188 (by decide) ?_
                                    refine lv_istore (lv' := [(6, .int (bI (true))), (0, .ref (h)), (1, .int (nI (k))), (2, .int (all)), (3, .int (own)), (4, .int (nI (tk))), (5, .int (nI (r))), (7, .int (nI (i)))]) hx hb dX5_savedBy_192 hl (by decide) rfl (fun ls hl => ?_)
                                    refine n_iinc (d := 1) (lv' := [(7, .int (nI (i + 1))), (6, .int (bI (true))), (0, .ref (h)), (1, .int (nI (k))), (2, .int (all)), (3, .int (own)), (4, .int (nI (tk))), (5, .int (nI (r)))]) C dX5_savedBy_194 (by decide) hl (k := 7) rfl (by decide) rfl (fun ls hl => ?_)
                                    refine lv_goto (tgt := 164) hx hb dX5_savedBy_197 (by decide) ?_
                                    exact ih_l8 (i + 1) (true) ls (by omega) (by omega) (al_yes hv8 c173 (by simp [c184])) (lv_sub hl [2, 3, 4, 5, 6, 7, 1, 0] rfl)
                          exact l8 (9) (0) (w) ls (by omega) (by omega) (al_0 rfl) (lv_sub hl [1, 2, 3, 4, 5, 6, 7, 0] rfl)
                        · skip
                          refine lv_iload hx hb dX5_savedBy_105 (lv_at hl 6 rfl) ?_
                          refine b_ifeq (tgt := 152) C dX5_savedBy_107 (by decide) (fun c107 => ?_) (fun c107 => ?_)
                          · skip
                            refine lv_iconst (v := bI false) hx hb dX5_savedBy_152 (by decide) ?_
                            refine lv_istore (lv' := [(6, .int (bI (false))), (0, .ref (h)), (1, .int (nI (k))), (2, .int (all)), (3, .int (own)), (4, .int (nI (tk))), (5, .int (nI (r))), (7, .int (nI (i)))]) hx hb dX5_savedBy_153 hl (by decide) rfl (fun ls hl => ?_)
                            refine n_iinc (d := 1) (lv' := [(7, .int (nI (i + 1))), (6, .int (bI (false))), (0, .ref (h)), (1, .int (nI (k))), (2, .int (all)), (3, .int (own)), (4, .int (nI (tk))), (5, .int (nI (r)))]) C dX5_savedBy_155 (by decide) hl (k := 7) rfl (by decide) rfl (fun ls hl => ?_)
                            refine lv_goto (tgt := 99) hx hb dX5_savedBy_158 (by decide) ?_
                            exact ih_l4 (i + 1) (false) ls (by omega) (by omega) (al_no1 hv4 c107) (lv_sub hl [2, 3, 4, 5, 6, 7, 1, 0] rfl)
                          · skip
                            refine lv_aload_n hx hb dX5_savedBy_110 rfl (lv_at hl 0 rfl) ?_
                            refine q_get C f_X5_56 hM 0 rw_0 ro_18 dX5_savedBy_111 ?_
                            refine lv_iload hx hb dX5_savedBy_114 (lv_at hl 5 rfl) ?_
                            refine n_iald C hM 16 rw_18 (by omega) (by decide) dX5_savedBy_116 ?_
                            refine w_topi (y := (rRS (tRun τ r))) (R_r.rs) ?_
                            refine lv_iload hx hb dX5_savedBy_117 (lv_at hl 7 rfl) ?_
                            refine lv_ishr hx hb dX5_savedBy_119 ?_
                            refine lv_iconst (v := 1) hx hb dX5_savedBy_120 (by decide) ?_
                            refine lv_iand hx hb dX5_savedBy_121 ?_
                            refine lv_if_eq (tgt := 148) hx hb dX5_savedBy_122 (by decide) (fun c122 => ?_) (fun c122 => ?_)
                            · skip
                              refine lv_iconst (v := bI true) hx hb dX5_savedBy_148 (by decide) ?_
                              refine lv_goto (tgt := 153) hx hb dX5_savedBy_149 (by decide) ?_
                              refine lv_istore (lv' := [(6, .int (bI (true))), (0, .ref (h)), (1, .int (nI (k))), (2, .int (all)), (3, .int (own)), (4, .int (nI (tk))), (5, .int (nI (r))), (7, .int (nI (i)))]) hx hb dX5_savedBy_153 hl (by decide) rfl (fun ls hl => ?_)
                              refine n_iinc (d := 1) (lv' := [(7, .int (nI (i + 1))), (6, .int (bI (true))), (0, .ref (h)), (1, .int (nI (k))), (2, .int (all)), (3, .int (own)), (4, .int (nI (tk))), (5, .int (nI (r)))]) C dX5_savedBy_155 (by decide) hl (k := 7) rfl (by decide) rfl (fun ls hl => ?_)
                              refine lv_goto (tgt := 99) hx hb dX5_savedBy_158 (by decide) ?_
                              exact ih_l4 (i + 1) (true) ls (by omega) (by omega) (al_yes hv4 c107 (by simp [bit0f c122])) (lv_sub hl [2, 3, 4, 5, 6, 7, 1, 0] rfl)
                            · skip
                              refine lv_aload_n hx hb dX5_savedBy_125 rfl (lv_at hl 0 rfl) ?_
                              refine lv_aload_n hx hb dX5_savedBy_126 rfl (lv_at hl 0 rfl) ?_
                              refine q_get C f_X5_31 hM 0 rw_0 ro_10 dX5_savedBy_127 ?_
                              refine lv_iload hx hb dX5_savedBy_130 (lv_at hl 5 rfl) ?_
                              refine n_iald C hM 8 rw_10 (by omega) (by decide) dX5_savedBy_132 ?_
                              refine w_topi (y := (rSet (tRun τ r))) (R_r.set) ?_
                              refine lv_iload hx hb dX5_savedBy_133 (lv_at hl 7 rfl) ?_
                              refine k_i (c_V (As := [.int (rSet (tRun τ r)), .int (nI (i))]) (rest := []) C v_X5_86 (c5_setting l g h (rSet (tRun τ r)) (i)) ⟨Nat.le_of_ble_eq_true rfl, Nat.le_of_ble_eq_true rfl⟩ (hrec) (trivial) hl.1 rfl rfl (Nat.le_of_ble_eq_true rfl) dX5_savedBy_135 ⟨Nat.le_of_ble_eq_true rfl, Nat.le_of_ble_eq_true rfl⟩) (fun r135 q135 => ?_)
                              subst q135
                              refine lv_aload_n hx hb dX5_savedBy_138 rfl (lv_at hl 0 rfl) ?_
                              refine lv_iload_n hx hb dX5_savedBy_139 rfl (lv_at hl 2 rfl) ?_
                              refine lv_iload hx hb dX5_savedBy_140 (lv_at hl 7 rfl) ?_
                              refine k_i (c_V (As := [.int (all), .int (nI (i))]) (rest := [.int (sett (rSet (tRun τ r)) i)]) C v_X5_86 (c5_setting l g h (all) (i)) ⟨Nat.le_of_ble_eq_true rfl, Nat.le_of_ble_eq_true rfl⟩ (hrec) (trivial) hl.1 rfl rfl (Nat.le_of_ble_eq_true rfl) dX5_savedBy_142 ⟨Nat.le_of_ble_eq_true rfl, Nat.le_of_ble_eq_true rfl⟩) (fun r142 q142 => ?_)
                              subst q142
                              refine lv_icmp_ne (tgt := 152) hx hb dX5_savedBy_145 (by decide) (fun c145 => ?_) (fun c145 => ?_)
                              · skip
                                refine lv_iconst (v := bI false) hx hb dX5_savedBy_152 (by decide) ?_
                                refine lv_istore (lv' := [(6, .int (bI (false))), (0, .ref (h)), (1, .int (nI (k))), (2, .int (all)), (3, .int (own)), (4, .int (nI (tk))), (5, .int (nI (r))), (7, .int (nI (i)))]) hx hb dX5_savedBy_153 hl (by decide) rfl (fun ls hl => ?_)
                                refine n_iinc (d := 1) (lv' := [(7, .int (nI (i + 1))), (6, .int (bI (false))), (0, .ref (h)), (1, .int (nI (k))), (2, .int (all)), (3, .int (own)), (4, .int (nI (tk))), (5, .int (nI (r)))]) C dX5_savedBy_155 (by decide) hl (k := 7) rfl (by decide) rfl (fun ls hl => ?_)
                                refine lv_goto (tgt := 99) hx hb dX5_savedBy_158 (by decide) ?_
                                exact ih_l4 (i + 1) (false) ls (by omega) (by omega) (al_no2 hv4 (by simp [bit0t c122, c145])) (lv_sub hl [2, 3, 4, 5, 6, 7, 1, 0] rfl)
                              · skip
                                refine lv_iconst (v := bI true) hx hb dX5_savedBy_148 (by decide) ?_
                                refine lv_goto (tgt := 153) hx hb dX5_savedBy_149 (by decide) ?_
                                refine lv_istore (lv' := [(6, .int (bI (true))), (0, .ref (h)), (1, .int (nI (k))), (2, .int (all)), (3, .int (own)), (4, .int (nI (tk))), (5, .int (nI (r))), (7, .int (nI (i)))]) hx hb dX5_savedBy_153 hl (by decide) rfl (fun ls hl => ?_)
                                refine n_iinc (d := 1) (lv' := [(7, .int (nI (i + 1))), (6, .int (bI (true))), (0, .ref (h)), (1, .int (nI (k))), (2, .int (all)), (3, .int (own)), (4, .int (nI (tk))), (5, .int (nI (r)))]) C dX5_savedBy_155 (by decide) hl (k := 7) rfl (by decide) rfl (fun ls hl => ?_)
                                refine lv_goto (tgt := 99) hx hb dX5_savedBy_158 (by decide) ?_
                                exact ih_l4 (i + 1) (true) ls (by omega) (by omega) (al_yes hv4 c107 (by simp [c145])) (lv_sub hl [2, 3, 4, 5, 6, 7, 1, 0] rfl)
                    exact l4 (5) (0) (true) ls (by omega) (by omega) (al_0 (by simp [c75])) (lv_sub hl [2, 3, 4, 5, 6, 7, 1, 0] rfl)
                  · skip
                    refine lv_aload_n hx hb dX5_savedBy_78 rfl (lv_at hl 0 rfl) ?_
                    refine q_get C f_X5_34 hM 0 rw_0 ro_11 dX5_savedBy_79 ?_
                    refine lv_iload hx hb dX5_savedBy_82 (lv_at hl 5 rfl) ?_
                    refine n_iald C hM 9 rw_11 (by omega) (by decide) dX5_savedBy_84 ?_
                    refine w_topi (y := (rSeed (tRun τ r))) (R_r.seed) ?_
                    refine lv_iload_n hx hb dX5_savedBy_85 rfl (lv_at hl 3 rfl) ?_
                    refine lv_icmp_ne (tgt := 93) hx hb dX5_savedBy_86 (by decide) (fun c86 => ?_) (fun c86 => ?_)
                    · skip
                      refine lv_iconst (v := bI false) hx hb dX5_savedBy_93 (by decide) ?_
                      refine lv_istore (lv' := [(6, .int (bI (false))), (0, .ref (h)), (1, .int (nI (k))), (2, .int (all)), (3, .int (own)), (4, .int (nI (tk))), (5, .int (nI (r)))]) hx hb dX5_savedBy_94 hl (by decide) rfl (fun ls hl => ?_)
                      refine lv_iconst (v := nI 0) hx hb dX5_savedBy_96 (by decide) ?_
                      refine lv_istore (lv' := [(7, .int (nI (0))), (6, .int (bI (false))), (0, .ref (h)), (1, .int (nI (k))), (2, .int (all)), (3, .int (own)), (4, .int (nI (tk))), (5, .int (nI (r)))]) hx hb dX5_savedBy_97 hl (by decide) rfl (fun ls hl => ?_)
                      have l4 : ∀ (n_l4 : Nat) (i : Nat) (w : Bool) (ls : Array Slot), (i ≤ 4) → (4 + 1 ≤ i + n_l4) → (w = true ↔ (!rSd (tRun τ r) || decide (rSeed (tRun τ r) = own)) = true ∧ ∀ j, j < i → (!hasB (rRS (tRun τ r)) j || decide (sett (rSet (tRun τ r)) j = sett all j)) = true) → lv_has ls 8 [(0, .ref (h)), (1, .int (nI (k))), (2, .int (all)), (3, .int (own)), (4, .int (nI (tk))), (5, .int (nI (r))), (6, .int (bI (w))), (7, .int (nI (i)))] → W p l e ({ frames := 1, cells := 0, slots := 0, locals := 23 } : Room) s m ([.ref (h), .int (nI (k)), .int (all), .int (own), .int (nI (tk))] : List Value).toArray below meth c s.heap [] 0 0 (MQ below (vp_Si (fun z => z = savedI τ k all own tk)) (([.ref (h), .int (nI (k)), .int (all), .int (own), .int (nI (tk))] : List Value).toArray) s 0 0 (fun _ => False)) (F0 m 99 ls []) := by
                        intro n_l4
                        induction n_l4 with
                        | zero =>
                          intro i w ls hi4 hn4 hv4
                          exact absurd hn (by omega)
                        | succ n_l4 ih_l4 =>
                          intro i w ls hi4 hn4 hv4 hl
                          refine lv_iload hx hb dX5_savedBy_99 (lv_at hl 7 rfl) ?_
                          refine lv_iconst (v := nI 4) hx hb dX5_savedBy_101 (by decide) ?_
                          refine n_icmp_ge (tgt := 161) C (by omega) (by omega) dX5_savedBy_102 (by decide) (fun c102 => ?_) (fun c102 => ?_)
                          · skip
                            rw [show i = 4 by omega] at hv4
                            refine lv_iconst (v := nI 0) hx hb dX5_savedBy_161 (by decide) ?_
                            refine lv_istore (lv' := [(7, .int (nI (0))), (0, .ref (h)), (1, .int (nI (k))), (2, .int (all)), (3, .int (own)), (4, .int (nI (tk))), (5, .int (nI (r))), (6, .int (bI (w)))]) hx hb dX5_savedBy_162 hl (by decide) rfl (fun ls hl => ?_)
                            have l8 : ∀ (n_l8 : Nat) (i : Nat) (w8 : Bool) (ls : Array Slot), (i ≤ 8) → (8 + 1 ≤ i + n_l8) → (w8 = true ↔ w = true ∧ ∀ j, j < i → (!chgB (tDat τ) (tRun τ r) j) = true) → lv_has ls 8 [(0, .ref (h)), (1, .int (nI (k))), (2, .int (all)), (3, .int (own)), (4, .int (nI (tk))), (5, .int (nI (r))), (6, .int (bI (w8))), (7, .int (nI (i)))] → W p l e ({ frames := 1, cells := 0, slots := 0, locals := 23 } : Room) s m ([.ref (h), .int (nI (k)), .int (all), .int (own), .int (nI (tk))] : List Value).toArray below meth c s.heap [] 0 0 (MQ below (vp_Si (fun z => z = savedI τ k all own tk)) (([.ref (h), .int (nI (k)), .int (all), .int (own), .int (nI (tk))] : List Value).toArray) s 0 0 (fun _ => False)) (F0 m 164 ls []) := by
                              intro n_l8
                              induction n_l8 with
                              | zero =>
                                intro i w8 ls hi8 hn8 hv8
                                exact absurd hn (by omega)
                              | succ n_l8 ih_l8 =>
                                intro i w8 ls hi8 hn8 hv8 hl
                                refine lv_iload hx hb dX5_savedBy_164 (lv_at hl 7 rfl) ?_
                                refine lv_bipush (v := nI 8) hx hb dX5_savedBy_166 (by decide) ?_
                                refine n_icmp_ge (tgt := 200) C (by omega) (by omega) dX5_savedBy_168 (by decide) (fun c168 => ?_) (fun c168 => ?_)
                                · skip
                                  rw [show i = 8 by omega] at hv8
                                  refine lv_iload hx hb dX5_savedBy_200 (lv_at hl 6 rfl) ?_
                                  refine b_ifeq (tgt := 208) C dX5_savedBy_202 (by decide) (fun c202 => ?_) (fun c202 => ?_)
                                  · skip
                                    refine n_iinc (d := 1) (lv' := [(5, .int (nI (r + 1))), (0, .ref (h)), (1, .int (nI (k))), (2, .int (all)), (3, .int (own)), (4, .int (nI (tk))), (6, .int (bI (w8))), (7, .int (nI (i)))]) C dX5_savedBy_208 (by decide) hl (k := 5) rfl (by decide) rfl (fun ls hl => ?_)
                                    refine lv_goto (tgt := 3) hx hb dX5_savedBy_211 (by decide) ?_
                                    exact ih_lp (r + 1) ls (by omega) (by omega) (fst_no hv (by omega) (by simp only [savB, c20, c30, c40, c52, c62, decide_true, Bool.true_and, Bool.not_false]; exact sav_no hv4 hv8 c202)) (lv_sub hl [1, 2, 3, 4, 5, 0] rfl)
                                  · skip
                                    refine lv_iload hx hb dX5_savedBy_205 (lv_at hl 5 rfl) ?_
                                    exact r_i C hr hlk (fst_yes hv (by omega) (by simp only [savB, c20, c30, c40, c52, c62, decide_true, Bool.true_and, Bool.not_false]; exact sav_yes hv4 hv8 c202)) dX5_savedBy_207
                                · skip
                                  refine lv_iload hx hb dX5_savedBy_171 (lv_at hl 6 rfl) ?_
                                  refine b_ifeq (tgt := 191) C dX5_savedBy_173 (by decide) (fun c173 => ?_) (fun c173 => ?_)
                                  · skip
                                    refine lv_iconst (v := bI false) hx hb dX5_savedBy_191 (by decide) ?_
                                    refine lv_istore (lv' := [(6, .int (bI (false))), (0, .ref (h)), (1, .int (nI (k))), (2, .int (all)), (3, .int (own)), (4, .int (nI (tk))), (5, .int (nI (r))), (7, .int (nI (i)))]) hx hb dX5_savedBy_192 hl (by decide) rfl (fun ls hl => ?_)
                                    refine n_iinc (d := 1) (lv' := [(7, .int (nI (i + 1))), (6, .int (bI (false))), (0, .ref (h)), (1, .int (nI (k))), (2, .int (all)), (3, .int (own)), (4, .int (nI (tk))), (5, .int (nI (r)))]) C dX5_savedBy_194 (by decide) hl (k := 7) rfl (by decide) rfl (fun ls hl => ?_)
                                    refine lv_goto (tgt := 164) hx hb dX5_savedBy_197 (by decide) ?_
                                    exact ih_l8 (i + 1) (false) ls (by omega) (by omega) (al_no1 hv8 c173) (lv_sub hl [2, 3, 4, 5, 6, 7, 1, 0] rfl)
                                  · skip
                                    refine lv_aload_n hx hb dX5_savedBy_176 rfl (lv_at hl 0 rfl) ?_
                                    refine lv_iload hx hb dX5_savedBy_177 (lv_at hl 5 rfl) ?_
                                    refine lv_iload hx hb dX5_savedBy_179 (lv_at hl 7 rfl) ?_
                                    refine k_i (c_V (As := [.int (nI (r)), .int (nI (i))]) (rest := []) C v_X5_149 (c5_isOtherWord l g h ad φ α τ hR hT r i (by omega) (by omega)) ⟨Nat.le_of_ble_eq_true rfl, Nat.le_of_ble_eq_true rfl⟩ (hrec) (hM) hl.1 rfl rfl (Nat.le_of_ble_eq_true rfl) dX5_savedBy_181 ⟨Nat.le_of_ble_eq_true rfl, Nat.le_of_ble_eq_true rfl⟩) (fun r181 q181 => ?_)
                                    subst q181
                                    refine b_ifne (tgt := 191) C dX5_savedBy_184 (by decide) (fun c184 => ?_) (fun c184 => ?_)
                                    · skip
                                      refine lv_iconst (v := bI false) hx hb dX5_savedBy_191 (by decide) ?_
                                      refine lv_istore (lv' := [(6, .int (bI (false))), (0, .ref (h)), (1, .int (nI (k))), (2, .int (all)), (3, .int (own)), (4, .int (nI (tk))), (5, .int (nI (r))), (7, .int (nI (i)))]) hx hb dX5_savedBy_192 hl (by decide) rfl (fun ls hl => ?_)
                                      refine n_iinc (d := 1) (lv' := [(7, .int (nI (i + 1))), (6, .int (bI (false))), (0, .ref (h)), (1, .int (nI (k))), (2, .int (all)), (3, .int (own)), (4, .int (nI (tk))), (5, .int (nI (r)))]) C dX5_savedBy_194 (by decide) hl (k := 7) rfl (by decide) rfl (fun ls hl => ?_)
                                      refine lv_goto (tgt := 164) hx hb dX5_savedBy_197 (by decide) ?_
                                      exact ih_l8 (i + 1) (false) ls (by omega) (by omega) (al_no2 hv8 (by simp [c184])) (lv_sub hl [2, 3, 4, 5, 6, 7, 1, 0] rfl)
                                    · skip
                                      refine lv_iconst (v := bI true) hx hb dX5_savedBy_187 (by decide) ?_
                                      refine lv_goto (tgt := 192) hx hb dX5_savedBy_188 (by decide) ?_
                                      refine lv_istore (lv' := [(6, .int (bI (true))), (0, .ref (h)), (1, .int (nI (k))), (2, .int (all)), (3, .int (own)), (4, .int (nI (tk))), (5, .int (nI (r))), (7, .int (nI (i)))]) hx hb dX5_savedBy_192 hl (by decide) rfl (fun ls hl => ?_)
                                      refine n_iinc (d := 1) (lv' := [(7, .int (nI (i + 1))), (6, .int (bI (true))), (0, .ref (h)), (1, .int (nI (k))), (2, .int (all)), (3, .int (own)), (4, .int (nI (tk))), (5, .int (nI (r)))]) C dX5_savedBy_194 (by decide) hl (k := 7) rfl (by decide) rfl (fun ls hl => ?_)
                                      refine lv_goto (tgt := 164) hx hb dX5_savedBy_197 (by decide) ?_
                                      exact ih_l8 (i + 1) (true) ls (by omega) (by omega) (al_yes hv8 c173 (by simp [c184])) (lv_sub hl [2, 3, 4, 5, 6, 7, 1, 0] rfl)
                            exact l8 (9) (0) (w) ls (by omega) (by omega) (al_0 rfl) (lv_sub hl [1, 2, 3, 4, 5, 6, 7, 0] rfl)
                          · skip
                            refine lv_iload hx hb dX5_savedBy_105 (lv_at hl 6 rfl) ?_
                            refine b_ifeq (tgt := 152) C dX5_savedBy_107 (by decide) (fun c107 => ?_) (fun c107 => ?_)
                            · skip
                              refine lv_iconst (v := bI false) hx hb dX5_savedBy_152 (by decide) ?_
                              refine lv_istore (lv' := [(6, .int (bI (false))), (0, .ref (h)), (1, .int (nI (k))), (2, .int (all)), (3, .int (own)), (4, .int (nI (tk))), (5, .int (nI (r))), (7, .int (nI (i)))]) hx hb dX5_savedBy_153 hl (by decide) rfl (fun ls hl => ?_)
                              refine n_iinc (d := 1) (lv' := [(7, .int (nI (i + 1))), (6, .int (bI (false))), (0, .ref (h)), (1, .int (nI (k))), (2, .int (all)), (3, .int (own)), (4, .int (nI (tk))), (5, .int (nI (r)))]) C dX5_savedBy_155 (by decide) hl (k := 7) rfl (by decide) rfl (fun ls hl => ?_)
                              refine lv_goto (tgt := 99) hx hb dX5_savedBy_158 (by decide) ?_
                              exact ih_l4 (i + 1) (false) ls (by omega) (by omega) (al_no1 hv4 c107) (lv_sub hl [2, 3, 4, 5, 6, 7, 1, 0] rfl)
                            · skip
                              refine lv_aload_n hx hb dX5_savedBy_110 rfl (lv_at hl 0 rfl) ?_
                              refine q_get C f_X5_56 hM 0 rw_0 ro_18 dX5_savedBy_111 ?_
                              refine lv_iload hx hb dX5_savedBy_114 (lv_at hl 5 rfl) ?_
                              refine n_iald C hM 16 rw_18 (by omega) (by decide) dX5_savedBy_116 ?_
                              refine w_topi (y := (rRS (tRun τ r))) (R_r.rs) ?_
                              refine lv_iload hx hb dX5_savedBy_117 (lv_at hl 7 rfl) ?_
                              refine lv_ishr hx hb dX5_savedBy_119 ?_
                              refine lv_iconst (v := 1) hx hb dX5_savedBy_120 (by decide) ?_
                              refine lv_iand hx hb dX5_savedBy_121 ?_
                              refine lv_if_eq (tgt := 148) hx hb dX5_savedBy_122 (by decide) (fun c122 => ?_) (fun c122 => ?_)
                              · skip
                                refine lv_iconst (v := bI true) hx hb dX5_savedBy_148 (by decide) ?_
                                refine lv_goto (tgt := 153) hx hb dX5_savedBy_149 (by decide) ?_
                                refine lv_istore (lv' := [(6, .int (bI (true))), (0, .ref (h)), (1, .int (nI (k))), (2, .int (all)), (3, .int (own)), (4, .int (nI (tk))), (5, .int (nI (r))), (7, .int (nI (i)))]) hx hb dX5_savedBy_153 hl (by decide) rfl (fun ls hl => ?_)
                                refine n_iinc (d := 1) (lv' := [(7, .int (nI (i + 1))), (6, .int (bI (true))), (0, .ref (h)), (1, .int (nI (k))), (2, .int (all)), (3, .int (own)), (4, .int (nI (tk))), (5, .int (nI (r)))]) C dX5_savedBy_155 (by decide) hl (k := 7) rfl (by decide) rfl (fun ls hl => ?_)
                                refine lv_goto (tgt := 99) hx hb dX5_savedBy_158 (by decide) ?_
                                exact ih_l4 (i + 1) (true) ls (by omega) (by omega) (al_yes hv4 c107 (by simp [bit0f c122])) (lv_sub hl [2, 3, 4, 5, 6, 7, 1, 0] rfl)
                              · skip
                                refine lv_aload_n hx hb dX5_savedBy_125 rfl (lv_at hl 0 rfl) ?_
                                refine lv_aload_n hx hb dX5_savedBy_126 rfl (lv_at hl 0 rfl) ?_
                                refine q_get C f_X5_31 hM 0 rw_0 ro_10 dX5_savedBy_127 ?_
                                refine lv_iload hx hb dX5_savedBy_130 (lv_at hl 5 rfl) ?_
                                refine n_iald C hM 8 rw_10 (by omega) (by decide) dX5_savedBy_132 ?_
                                refine w_topi (y := (rSet (tRun τ r))) (R_r.set) ?_
                                refine lv_iload hx hb dX5_savedBy_133 (lv_at hl 7 rfl) ?_
                                refine k_i (c_V (As := [.int (rSet (tRun τ r)), .int (nI (i))]) (rest := []) C v_X5_86 (c5_setting l g h (rSet (tRun τ r)) (i)) ⟨Nat.le_of_ble_eq_true rfl, Nat.le_of_ble_eq_true rfl⟩ (hrec) (trivial) hl.1 rfl rfl (Nat.le_of_ble_eq_true rfl) dX5_savedBy_135 ⟨Nat.le_of_ble_eq_true rfl, Nat.le_of_ble_eq_true rfl⟩) (fun r135 q135 => ?_)
                                subst q135
                                refine lv_aload_n hx hb dX5_savedBy_138 rfl (lv_at hl 0 rfl) ?_
                                refine lv_iload_n hx hb dX5_savedBy_139 rfl (lv_at hl 2 rfl) ?_
                                refine lv_iload hx hb dX5_savedBy_140 (lv_at hl 7 rfl) ?_
                                refine k_i (c_V (As := [.int (all), .int (nI (i))]) (rest := [.int (sett (rSet (tRun τ r)) i)]) C v_X5_86 (c5_setting l g h (all) (i)) ⟨Nat.le_of_ble_eq_true rfl, Nat.le_of_ble_eq_true rfl⟩ (hrec) (trivial) hl.1 rfl rfl (Nat.le_of_ble_eq_true rfl) dX5_savedBy_142 ⟨Nat.le_of_ble_eq_true rfl, Nat.le_of_ble_eq_true rfl⟩) (fun r142 q142 => ?_)
                                subst q142
                                refine lv_icmp_ne (tgt := 152) hx hb dX5_savedBy_145 (by decide) (fun c145 => ?_) (fun c145 => ?_)
                                · skip
                                  refine lv_iconst (v := bI false) hx hb dX5_savedBy_152 (by decide) ?_
                                  refine lv_istore (lv' := [(6, .int (bI (false))), (0, .ref (h)), (1, .int (nI (k))), (2, .int (all)), (3, .int (own)), (4, .int (nI (tk))), (5, .int (nI (r))), (7, .int (nI (i)))]) hx hb dX5_savedBy_153 hl (by decide) rfl (fun ls hl => ?_)
                                  refine n_iinc (d := 1) (lv' := [(7, .int (nI (i + 1))), (6, .int (bI (false))), (0, .ref (h)), (1, .int (nI (k))), (2, .int (all)), (3, .int (own)), (4, .int (nI (tk))), (5, .int (nI (r)))]) C dX5_savedBy_155 (by decide) hl (k := 7) rfl (by decide) rfl (fun ls hl => ?_)
                                  refine lv_goto (tgt := 99) hx hb dX5_savedBy_158 (by decide) ?_
                                  exact ih_l4 (i + 1) (false) ls (by omega) (by omega) (al_no2 hv4 (by simp [bit0t c122, c145])) (lv_sub hl [2, 3, 4, 5, 6, 7, 1, 0] rfl)
                                · skip
                                  refine lv_iconst (v := bI true) hx hb dX5_savedBy_148 (by decide) ?_
                                  refine lv_goto (tgt := 153) hx hb dX5_savedBy_149 (by decide) ?_
                                  refine lv_istore (lv' := [(6, .int (bI (true))), (0, .ref (h)), (1, .int (nI (k))), (2, .int (all)), (3, .int (own)), (4, .int (nI (tk))), (5, .int (nI (r))), (7, .int (nI (i)))]) hx hb dX5_savedBy_153 hl (by decide) rfl (fun ls hl => ?_)
                                  refine n_iinc (d := 1) (lv' := [(7, .int (nI (i + 1))), (6, .int (bI (true))), (0, .ref (h)), (1, .int (nI (k))), (2, .int (all)), (3, .int (own)), (4, .int (nI (tk))), (5, .int (nI (r)))]) C dX5_savedBy_155 (by decide) hl (k := 7) rfl (by decide) rfl (fun ls hl => ?_)
                                  refine lv_goto (tgt := 99) hx hb dX5_savedBy_158 (by decide) ?_
                                  exact ih_l4 (i + 1) (true) ls (by omega) (by omega) (al_yes hv4 c107 (by simp [c145])) (lv_sub hl [2, 3, 4, 5, 6, 7, 1, 0] rfl)
                      exact l4 (5) (0) (false) ls (by omega) (by omega) (al_0 (by simp [c75, c86])) (lv_sub hl [2, 3, 4, 5, 6, 7, 1, 0] rfl)
                    · skip
                      refine lv_iconst (v := bI true) hx hb dX5_savedBy_89 (by decide) ?_
                      refine lv_goto (tgt := 94) hx hb dX5_savedBy_90 (by decide) ?_
                      refine lv_istore (lv' := [(6, .int (bI (true))), (0, .ref (h)), (1, .int (nI (k))), (2, .int (all)), (3, .int (own)), (4, .int (nI (tk))), (5, .int (nI (r)))]) hx hb dX5_savedBy_94 hl (by decide) rfl (fun ls hl => ?_)
                      refine lv_iconst (v := nI 0) hx hb dX5_savedBy_96 (by decide) ?_
                      refine lv_istore (lv' := [(7, .int (nI (0))), (6, .int (bI (true))), (0, .ref (h)), (1, .int (nI (k))), (2, .int (all)), (3, .int (own)), (4, .int (nI (tk))), (5, .int (nI (r)))]) hx hb dX5_savedBy_97 hl (by decide) rfl (fun ls hl => ?_)
                      have l4 : ∀ (n_l4 : Nat) (i : Nat) (w : Bool) (ls : Array Slot), (i ≤ 4) → (4 + 1 ≤ i + n_l4) → (w = true ↔ (!rSd (tRun τ r) || decide (rSeed (tRun τ r) = own)) = true ∧ ∀ j, j < i → (!hasB (rRS (tRun τ r)) j || decide (sett (rSet (tRun τ r)) j = sett all j)) = true) → lv_has ls 8 [(0, .ref (h)), (1, .int (nI (k))), (2, .int (all)), (3, .int (own)), (4, .int (nI (tk))), (5, .int (nI (r))), (6, .int (bI (w))), (7, .int (nI (i)))] → W p l e ({ frames := 1, cells := 0, slots := 0, locals := 23 } : Room) s m ([.ref (h), .int (nI (k)), .int (all), .int (own), .int (nI (tk))] : List Value).toArray below meth c s.heap [] 0 0 (MQ below (vp_Si (fun z => z = savedI τ k all own tk)) (([.ref (h), .int (nI (k)), .int (all), .int (own), .int (nI (tk))] : List Value).toArray) s 0 0 (fun _ => False)) (F0 m 99 ls []) := by
                        intro n_l4
                        induction n_l4 with
                        | zero =>
                          intro i w ls hi4 hn4 hv4
                          exact absurd hn (by omega)
                        | succ n_l4 ih_l4 =>
                          intro i w ls hi4 hn4 hv4 hl
                          refine lv_iload hx hb dX5_savedBy_99 (lv_at hl 7 rfl) ?_
                          refine lv_iconst (v := nI 4) hx hb dX5_savedBy_101 (by decide) ?_
                          refine n_icmp_ge (tgt := 161) C (by omega) (by omega) dX5_savedBy_102 (by decide) (fun c102 => ?_) (fun c102 => ?_)
                          · skip
                            rw [show i = 4 by omega] at hv4
                            refine lv_iconst (v := nI 0) hx hb dX5_savedBy_161 (by decide) ?_
                            refine lv_istore (lv' := [(7, .int (nI (0))), (0, .ref (h)), (1, .int (nI (k))), (2, .int (all)), (3, .int (own)), (4, .int (nI (tk))), (5, .int (nI (r))), (6, .int (bI (w)))]) hx hb dX5_savedBy_162 hl (by decide) rfl (fun ls hl => ?_)
                            have l8 : ∀ (n_l8 : Nat) (i : Nat) (w8 : Bool) (ls : Array Slot), (i ≤ 8) → (8 + 1 ≤ i + n_l8) → (w8 = true ↔ w = true ∧ ∀ j, j < i → (!chgB (tDat τ) (tRun τ r) j) = true) → lv_has ls 8 [(0, .ref (h)), (1, .int (nI (k))), (2, .int (all)), (3, .int (own)), (4, .int (nI (tk))), (5, .int (nI (r))), (6, .int (bI (w8))), (7, .int (nI (i)))] → W p l e ({ frames := 1, cells := 0, slots := 0, locals := 23 } : Room) s m ([.ref (h), .int (nI (k)), .int (all), .int (own), .int (nI (tk))] : List Value).toArray below meth c s.heap [] 0 0 (MQ below (vp_Si (fun z => z = savedI τ k all own tk)) (([.ref (h), .int (nI (k)), .int (all), .int (own), .int (nI (tk))] : List Value).toArray) s 0 0 (fun _ => False)) (F0 m 164 ls []) := by
                              intro n_l8
                              induction n_l8 with
                              | zero =>
                                intro i w8 ls hi8 hn8 hv8
                                exact absurd hn (by omega)
                              | succ n_l8 ih_l8 =>
                                intro i w8 ls hi8 hn8 hv8 hl
                                refine lv_iload hx hb dX5_savedBy_164 (lv_at hl 7 rfl) ?_
                                refine lv_bipush (v := nI 8) hx hb dX5_savedBy_166 (by decide) ?_
                                refine n_icmp_ge (tgt := 200) C (by omega) (by omega) dX5_savedBy_168 (by decide) (fun c168 => ?_) (fun c168 => ?_)
                                · skip
                                  rw [show i = 8 by omega] at hv8
                                  refine lv_iload hx hb dX5_savedBy_200 (lv_at hl 6 rfl) ?_
                                  refine b_ifeq (tgt := 208) C dX5_savedBy_202 (by decide) (fun c202 => ?_) (fun c202 => ?_)
                                  · skip
                                    refine n_iinc (d := 1) (lv' := [(5, .int (nI (r + 1))), (0, .ref (h)), (1, .int (nI (k))), (2, .int (all)), (3, .int (own)), (4, .int (nI (tk))), (6, .int (bI (w8))), (7, .int (nI (i)))]) C dX5_savedBy_208 (by decide) hl (k := 5) rfl (by decide) rfl (fun ls hl => ?_)
                                    refine lv_goto (tgt := 3) hx hb dX5_savedBy_211 (by decide) ?_
                                    exact ih_lp (r + 1) ls (by omega) (by omega) (fst_no hv (by omega) (by simp only [savB, c20, c30, c40, c52, c62, decide_true, Bool.true_and, Bool.not_false]; exact sav_no hv4 hv8 c202)) (lv_sub hl [1, 2, 3, 4, 5, 0] rfl)
                                  · skip
                                    refine lv_iload hx hb dX5_savedBy_205 (lv_at hl 5 rfl) ?_
                                    exact r_i C hr hlk (fst_yes hv (by omega) (by simp only [savB, c20, c30, c40, c52, c62, decide_true, Bool.true_and, Bool.not_false]; exact sav_yes hv4 hv8 c202)) dX5_savedBy_207
                                · skip
                                  refine lv_iload hx hb dX5_savedBy_171 (lv_at hl 6 rfl) ?_
                                  refine b_ifeq (tgt := 191) C dX5_savedBy_173 (by decide) (fun c173 => ?_) (fun c173 => ?_)
                                  · skip
                                    refine lv_iconst (v := bI false) hx hb dX5_savedBy_191 (by decide) ?_
                                    refine lv_istore (lv' := [(6, .int (bI (false))), (0, .ref (h)), (1, .int (nI (k))), (2, .int (all)), (3, .int (own)), (4, .int (nI (tk))), (5, .int (nI (r))), (7, .int (nI (i)))]) hx hb dX5_savedBy_192 hl (by decide) rfl (fun ls hl => ?_)
                                    refine n_iinc (d := 1) (lv' := [(7, .int (nI (i + 1))), (6, .int (bI (false))), (0, .ref (h)), (1, .int (nI (k))), (2, .int (all)), (3, .int (own)), (4, .int (nI (tk))), (5, .int (nI (r)))]) C dX5_savedBy_194 (by decide) hl (k := 7) rfl (by decide) rfl (fun ls hl => ?_)
                                    refine lv_goto (tgt := 164) hx hb dX5_savedBy_197 (by decide) ?_
                                    exact ih_l8 (i + 1) (false) ls (by omega) (by omega) (al_no1 hv8 c173) (lv_sub hl [2, 3, 4, 5, 6, 7, 1, 0] rfl)
                                  · skip
                                    refine lv_aload_n hx hb dX5_savedBy_176 rfl (lv_at hl 0 rfl) ?_
                                    refine lv_iload hx hb dX5_savedBy_177 (lv_at hl 5 rfl) ?_
                                    refine lv_iload hx hb dX5_savedBy_179 (lv_at hl 7 rfl) ?_
                                    refine k_i (c_V (As := [.int (nI (r)), .int (nI (i))]) (rest := []) C v_X5_149 (c5_isOtherWord l g h ad φ α τ hR hT r i (by omega) (by omega)) ⟨Nat.le_of_ble_eq_true rfl, Nat.le_of_ble_eq_true rfl⟩ (hrec) (hM) hl.1 rfl rfl (Nat.le_of_ble_eq_true rfl) dX5_savedBy_181 ⟨Nat.le_of_ble_eq_true rfl, Nat.le_of_ble_eq_true rfl⟩) (fun r181 q181 => ?_)
                                    subst q181
                                    refine b_ifne (tgt := 191) C dX5_savedBy_184 (by decide) (fun c184 => ?_) (fun c184 => ?_)
                                    · skip
                                      refine lv_iconst (v := bI false) hx hb dX5_savedBy_191 (by decide) ?_
                                      refine lv_istore (lv' := [(6, .int (bI (false))), (0, .ref (h)), (1, .int (nI (k))), (2, .int (all)), (3, .int (own)), (4, .int (nI (tk))), (5, .int (nI (r))), (7, .int (nI (i)))]) hx hb dX5_savedBy_192 hl (by decide) rfl (fun ls hl => ?_)
                                      refine n_iinc (d := 1) (lv' := [(7, .int (nI (i + 1))), (6, .int (bI (false))), (0, .ref (h)), (1, .int (nI (k))), (2, .int (all)), (3, .int (own)), (4, .int (nI (tk))), (5, .int (nI (r)))]) C dX5_savedBy_194 (by decide) hl (k := 7) rfl (by decide) rfl (fun ls hl => ?_)
                                      refine lv_goto (tgt := 164) hx hb dX5_savedBy_197 (by decide) ?_
                                      exact ih_l8 (i + 1) (false) ls (by omega) (by omega) (al_no2 hv8 (by simp [c184])) (lv_sub hl [2, 3, 4, 5, 6, 7, 1, 0] rfl)
                                    · skip
                                      refine lv_iconst (v := bI true) hx hb dX5_savedBy_187 (by decide) ?_
                                      refine lv_goto (tgt := 192) hx hb dX5_savedBy_188 (by decide) ?_
                                      refine lv_istore (lv' := [(6, .int (bI (true))), (0, .ref (h)), (1, .int (nI (k))), (2, .int (all)), (3, .int (own)), (4, .int (nI (tk))), (5, .int (nI (r))), (7, .int (nI (i)))]) hx hb dX5_savedBy_192 hl (by decide) rfl (fun ls hl => ?_)
                                      refine n_iinc (d := 1) (lv' := [(7, .int (nI (i + 1))), (6, .int (bI (true))), (0, .ref (h)), (1, .int (nI (k))), (2, .int (all)), (3, .int (own)), (4, .int (nI (tk))), (5, .int (nI (r)))]) C dX5_savedBy_194 (by decide) hl (k := 7) rfl (by decide) rfl (fun ls hl => ?_)
                                      refine lv_goto (tgt := 164) hx hb dX5_savedBy_197 (by decide) ?_
                                      exact ih_l8 (i + 1) (true) ls (by omega) (by omega) (al_yes hv8 c173 (by simp [c184])) (lv_sub hl [2, 3, 4, 5, 6, 7, 1, 0] rfl)
                            exact l8 (9) (0) (w) ls (by omega) (by omega) (al_0 rfl) (lv_sub hl [1, 2, 3, 4, 5, 6, 7, 0] rfl)
                          · skip
                            refine lv_iload hx hb dX5_savedBy_105 (lv_at hl 6 rfl) ?_
                            refine b_ifeq (tgt := 152) C dX5_savedBy_107 (by decide) (fun c107 => ?_) (fun c107 => ?_)
                            · skip
                              refine lv_iconst (v := bI false) hx hb dX5_savedBy_152 (by decide) ?_
                              refine lv_istore (lv' := [(6, .int (bI (false))), (0, .ref (h)), (1, .int (nI (k))), (2, .int (all)), (3, .int (own)), (4, .int (nI (tk))), (5, .int (nI (r))), (7, .int (nI (i)))]) hx hb dX5_savedBy_153 hl (by decide) rfl (fun ls hl => ?_)
                              refine n_iinc (d := 1) (lv' := [(7, .int (nI (i + 1))), (6, .int (bI (false))), (0, .ref (h)), (1, .int (nI (k))), (2, .int (all)), (3, .int (own)), (4, .int (nI (tk))), (5, .int (nI (r)))]) C dX5_savedBy_155 (by decide) hl (k := 7) rfl (by decide) rfl (fun ls hl => ?_)
                              refine lv_goto (tgt := 99) hx hb dX5_savedBy_158 (by decide) ?_
                              exact ih_l4 (i + 1) (false) ls (by omega) (by omega) (al_no1 hv4 c107) (lv_sub hl [2, 3, 4, 5, 6, 7, 1, 0] rfl)
                            · skip
                              refine lv_aload_n hx hb dX5_savedBy_110 rfl (lv_at hl 0 rfl) ?_
                              refine q_get C f_X5_56 hM 0 rw_0 ro_18 dX5_savedBy_111 ?_
                              refine lv_iload hx hb dX5_savedBy_114 (lv_at hl 5 rfl) ?_
                              refine n_iald C hM 16 rw_18 (by omega) (by decide) dX5_savedBy_116 ?_
                              refine w_topi (y := (rRS (tRun τ r))) (R_r.rs) ?_
                              refine lv_iload hx hb dX5_savedBy_117 (lv_at hl 7 rfl) ?_
                              refine lv_ishr hx hb dX5_savedBy_119 ?_
                              refine lv_iconst (v := 1) hx hb dX5_savedBy_120 (by decide) ?_
                              refine lv_iand hx hb dX5_savedBy_121 ?_
                              refine lv_if_eq (tgt := 148) hx hb dX5_savedBy_122 (by decide) (fun c122 => ?_) (fun c122 => ?_)
                              · skip
                                refine lv_iconst (v := bI true) hx hb dX5_savedBy_148 (by decide) ?_
                                refine lv_goto (tgt := 153) hx hb dX5_savedBy_149 (by decide) ?_
                                refine lv_istore (lv' := [(6, .int (bI (true))), (0, .ref (h)), (1, .int (nI (k))), (2, .int (all)), (3, .int (own)), (4, .int (nI (tk))), (5, .int (nI (r))), (7, .int (nI (i)))]) hx hb dX5_savedBy_153 hl (by decide) rfl (fun ls hl => ?_)
                                refine n_iinc (d := 1) (lv' := [(7, .int (nI (i + 1))), (6, .int (bI (true))), (0, .ref (h)), (1, .int (nI (k))), (2, .int (all)), (3, .int (own)), (4, .int (nI (tk))), (5, .int (nI (r)))]) C dX5_savedBy_155 (by decide) hl (k := 7) rfl (by decide) rfl (fun ls hl => ?_)
                                refine lv_goto (tgt := 99) hx hb dX5_savedBy_158 (by decide) ?_
                                exact ih_l4 (i + 1) (true) ls (by omega) (by omega) (al_yes hv4 c107 (by simp [bit0f c122])) (lv_sub hl [2, 3, 4, 5, 6, 7, 1, 0] rfl)
                              · skip
                                refine lv_aload_n hx hb dX5_savedBy_125 rfl (lv_at hl 0 rfl) ?_
                                refine lv_aload_n hx hb dX5_savedBy_126 rfl (lv_at hl 0 rfl) ?_
                                refine q_get C f_X5_31 hM 0 rw_0 ro_10 dX5_savedBy_127 ?_
                                refine lv_iload hx hb dX5_savedBy_130 (lv_at hl 5 rfl) ?_
                                refine n_iald C hM 8 rw_10 (by omega) (by decide) dX5_savedBy_132 ?_
                                refine w_topi (y := (rSet (tRun τ r))) (R_r.set) ?_
                                refine lv_iload hx hb dX5_savedBy_133 (lv_at hl 7 rfl) ?_
                                refine k_i (c_V (As := [.int (rSet (tRun τ r)), .int (nI (i))]) (rest := []) C v_X5_86 (c5_setting l g h (rSet (tRun τ r)) (i)) ⟨Nat.le_of_ble_eq_true rfl, Nat.le_of_ble_eq_true rfl⟩ (hrec) (trivial) hl.1 rfl rfl (Nat.le_of_ble_eq_true rfl) dX5_savedBy_135 ⟨Nat.le_of_ble_eq_true rfl, Nat.le_of_ble_eq_true rfl⟩) (fun r135 q135 => ?_)
                                subst q135
                                refine lv_aload_n hx hb dX5_savedBy_138 rfl (lv_at hl 0 rfl) ?_
                                refine lv_iload_n hx hb dX5_savedBy_139 rfl (lv_at hl 2 rfl) ?_
                                refine lv_iload hx hb dX5_savedBy_140 (lv_at hl 7 rfl) ?_
                                refine k_i (c_V (As := [.int (all), .int (nI (i))]) (rest := [.int (sett (rSet (tRun τ r)) i)]) C v_X5_86 (c5_setting l g h (all) (i)) ⟨Nat.le_of_ble_eq_true rfl, Nat.le_of_ble_eq_true rfl⟩ (hrec) (trivial) hl.1 rfl rfl (Nat.le_of_ble_eq_true rfl) dX5_savedBy_142 ⟨Nat.le_of_ble_eq_true rfl, Nat.le_of_ble_eq_true rfl⟩) (fun r142 q142 => ?_)
                                subst q142
                                refine lv_icmp_ne (tgt := 152) hx hb dX5_savedBy_145 (by decide) (fun c145 => ?_) (fun c145 => ?_)
                                · skip
                                  refine lv_iconst (v := bI false) hx hb dX5_savedBy_152 (by decide) ?_
                                  refine lv_istore (lv' := [(6, .int (bI (false))), (0, .ref (h)), (1, .int (nI (k))), (2, .int (all)), (3, .int (own)), (4, .int (nI (tk))), (5, .int (nI (r))), (7, .int (nI (i)))]) hx hb dX5_savedBy_153 hl (by decide) rfl (fun ls hl => ?_)
                                  refine n_iinc (d := 1) (lv' := [(7, .int (nI (i + 1))), (6, .int (bI (false))), (0, .ref (h)), (1, .int (nI (k))), (2, .int (all)), (3, .int (own)), (4, .int (nI (tk))), (5, .int (nI (r)))]) C dX5_savedBy_155 (by decide) hl (k := 7) rfl (by decide) rfl (fun ls hl => ?_)
                                  refine lv_goto (tgt := 99) hx hb dX5_savedBy_158 (by decide) ?_
                                  exact ih_l4 (i + 1) (false) ls (by omega) (by omega) (al_no2 hv4 (by simp [bit0t c122, c145])) (lv_sub hl [2, 3, 4, 5, 6, 7, 1, 0] rfl)
                                · skip
                                  refine lv_iconst (v := bI true) hx hb dX5_savedBy_148 (by decide) ?_
                                  refine lv_goto (tgt := 153) hx hb dX5_savedBy_149 (by decide) ?_
                                  refine lv_istore (lv' := [(6, .int (bI (true))), (0, .ref (h)), (1, .int (nI (k))), (2, .int (all)), (3, .int (own)), (4, .int (nI (tk))), (5, .int (nI (r))), (7, .int (nI (i)))]) hx hb dX5_savedBy_153 hl (by decide) rfl (fun ls hl => ?_)
                                  refine n_iinc (d := 1) (lv' := [(7, .int (nI (i + 1))), (6, .int (bI (true))), (0, .ref (h)), (1, .int (nI (k))), (2, .int (all)), (3, .int (own)), (4, .int (nI (tk))), (5, .int (nI (r)))]) C dX5_savedBy_155 (by decide) hl (k := 7) rfl (by decide) rfl (fun ls hl => ?_)
                                  refine lv_goto (tgt := 99) hx hb dX5_savedBy_158 (by decide) ?_
                                  exact ih_l4 (i + 1) (true) ls (by omega) (by omega) (al_yes hv4 c107 (by simp [c145])) (lv_sub hl [2, 3, 4, 5, 6, 7, 1, 0] rfl)
                      exact l4 (5) (0) (true) ls (by omega) (by omega) (al_0 (by simp [c75, c86])) (lv_sub hl [2, 3, 4, 5, 6, 7, 1, 0] rfl)
                · skip
                  refine lv_goto (tgt := 208) hx hb dX5_savedBy_65 (by decide) ?_
                  refine n_iinc (d := 1) (lv' := [(5, .int (nI (r + 1))), (0, .ref (h)), (1, .int (nI (k))), (2, .int (all)), (3, .int (own)), (4, .int (nI (tk)))]) C dX5_savedBy_208 (by decide) hl (k := 5) rfl (by decide) rfl (fun ls hl => ?_)
                  refine lv_goto (tgt := 3) hx hb dX5_savedBy_211 (by decide) ?_
                  exact ih_lp (r + 1) ls (by omega) (by omega) (fst_no hv (by omega) (by simp [savB, c20, c30, c40, c52, c62])) (lv_sub hl [1, 2, 3, 4, 5, 0] rfl)
  exact lp (tN τ + 1) (0) ls (by omega) (by omega) (rfl) (lv_sub hl [1, 2, 3, 4, 5, 0] rfl)

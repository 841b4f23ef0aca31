/-! THE CLASS: statics -/
theorem sett_ge (all : Int32) (i : Nat) : 0 ≤ (sett all i).toInt := by
  unfold sett
  rw [pk_and _ 4 (by decide), nI_toInt (by omega)]
  omega
theorem sett_lt (all : Int32) (i : Nat) : (sett all i).toInt ≤ 15 := by
  unfold sett
  rw [pk_and _ 4 (by decide), nI_toInt (by omega)]
  omega
theorem in0f {x : Int32} {lo hi : Int} (h : lo ≤ x.toInt ∧ x.toInt ≤ hi) : inR x lo hi = true := inR_iff.mpr h
set_option maxHeartbeats 4000000 in
set_option maxRecDepth 100000 in
theorem c4_areSettings (l : Launch) (g : GG) (all : Int32) : Met l yX4_areSettings (.code yX4_areSettings cX4_areSettings 2 (some .boolean) :: wsL_law) ({ frames := 1, cells := 0, slots := 0, locals := 21 } : Room) (mP g [.int (all)] (fun _ => True)) (vp_Si (fun z => z = bI (sOK all))) 0 0 ((fun _ => False)) := by
  refine mMet (by decide) (Nat.le_of_ble_eq_true rfl) ?_
  intro p e s m below meth c C hr hlk hnm hP ls hl
  have hx := C.1.1
  have hb := C.1.2.1
  have hl : lv_has ls 2 [(0, .int (all))] := hl
  refine lv_iload_n hx hb dX4_areSettings_0 rfl (lv_at hl 0 rfl) ?_
  refine lv_if_lt (tgt := 11) hx hb dX4_areSettings_1 (by decide) (fun c1 => ?_) (fun c1 => ?_)
  · skip
    refine lv_iconst (v := 0) hx hb dX4_areSettings_11 (by decide) ?_
    exact r_z C hr hlk (by first | exact Or.inl rfl | exact Or.inr rfl | exact bI_or _) (bif0 (Bool.eq_false_iff.mpr (fun hz => by have hz := (sOK_iff.mp hz).1; simp only [fa_lt, fa_le, li_0, li_65536] at c1; omega))) dX4_areSettings_12
  · skip
    refine lv_iload_n hx hb dX4_areSettings_4 rfl (lv_at hl 0 rfl) ?_
    refine lv_ldcw (v := 65536) hx hb C.1.2.2.2.1 (C.1.2.2.2.2 _ (inr_5 _ (List.mem_of_getElem? (i := 15) rfl))) dX4_areSettings_5 ?_
    refine lv_icmp_lt (tgt := 13) hx hb dX4_areSettings_8 (by decide) (fun c8 => ?_) (fun c8 => ?_)
    · skip
      refine lv_iconst (v := nI 0) hx hb dX4_areSettings_13 (by decide) ?_
      refine lv_istore_n (lv' := [(1, .int (nI (0))), (0, .int (all))]) hx hb dX4_areSettings_14 rfl hl (by decide) rfl (fun ls hl => ?_)
      have lp : ∀ (n_lp : Nat) (i : Nat) (ls : Array Slot), (i ≤ 4) → (4 + 1 ≤ i + n_lp) → (∀ j, j < i → sett all j ≤ 5) → lv_has ls 2 [(0, .int (all)), (1, .int (nI (i)))] → W p l e ({ frames := 1, cells := 0, slots := 0, locals := 21 } : Room) s m ([.int (all)] : List Value).toArray below meth c s.heap [] 0 0 (MQ below (vp_Si (fun z => z = bI (sOK all))) (([.int (all)] : List Value).toArray) s 0 0 (fun _ => False)) (F0 m 15 ls []) := by
        intro n_lp
        induction n_lp with
        | zero =>
          intro i ls hi hn hv
          exact absurd hn (by omega)
        | succ n_lp ih_lp =>
          intro i ls hi hn hv hl
          refine lv_iload_n hx hb dX4_areSettings_15 rfl (lv_at hl 1 rfl) ?_
          refine lv_iconst (v := nI 4) hx hb dX4_areSettings_16 (by decide) ?_
          refine n_icmp_ge (tgt := 39) C (by omega) (by omega) dX4_areSettings_17 (by decide) (fun c17 => ?_) (fun c17 => ?_)
          · skip
            refine lv_iconst (v := 1) hx hb dX4_areSettings_39 (by decide) ?_
            exact r_z C hr hlk (by first | exact Or.inl rfl | exact Or.inr rfl | exact bI_or _) (bit1 (sOK_iff.mpr ⟨by simp only [fa_lt, fa_le, li_0, li_65536] at c1 c8; omega, fun j hj => hv j (by omega)⟩)) dX4_areSettings_40
          · skip
            refine lv_iload_n hx hb dX4_areSettings_20 rfl (lv_at hl 0 rfl) ?_
            refine lv_iload_n hx hb dX4_areSettings_21 rfl (lv_at hl 1 rfl) ?_
            refine k_i (c_S (As := [.int (all), .int (nI (i))]) (rest := []) C v_X4_252 (c4_settingOf l g (all) i) ⟨Nat.le_of_ble_eq_true rfl, Nat.le_of_ble_eq_true rfl⟩ (trivial) hl.1 rfl rfl (Nat.le_of_ble_eq_true rfl) dX4_areSettings_22 ⟨Nat.le_of_ble_eq_true rfl, Nat.le_of_ble_eq_true rfl⟩) (fun r22 q22 => ?_)
            subst q22
            refine k_i (c_S (As := [.int (sett (all) i)]) (rest := []) C v_X4_249 (c4_isValue l g (sett (all) i)) ⟨Nat.le_of_ble_eq_true rfl, Nat.le_of_ble_eq_true rfl⟩ (trivial) hl.1 rfl rfl (Nat.le_of_ble_eq_true rfl) dX4_areSettings_25 ⟨Nat.le_of_ble_eq_true rfl, Nat.le_of_ble_eq_true rfl⟩) (fun r25 q25 => ?_)
            subst q25
            refine b_ifne (tgt := 33) C dX4_areSettings_28 (by decide) (fun c28 => ?_) (fun c28 => ?_)
            · skip
              refine n_iinc (d := 1) (lv' := [(1, .int (nI (i + 1))), (0, .int (all))]) C dX4_areSettings_33 (by decide) hl (k := 1) rfl (by decide) rfl (fun ls hl => ?_)
              refine lv_goto (tgt := 15) hx hb dX4_areSettings_36 (by decide) ?_
              exact ih_lp (i + 1) ls (by omega) (by omega) (lt_s1 hv (by have c28 := (inR_iff.mp c28).2; rw [fa_le, li_5]; exact c28)) (lv_sub hl [1, 0] rfl)
            · skip
              refine lv_iconst (v := 0) hx hb dX4_areSettings_31 (by decide) ?_
              exact r_z C hr hlk (by first | exact Or.inl rfl | exact Or.inr rfl | exact bI_or _) (bif0 (Bool.eq_false_iff.mpr (fun hz => by have hz := (sOK_iff.mp hz).2 i (by omega); have h0 := sett_ge all i; rw [fa_le, li_5] at hz; rw [in0f ⟨h0, hz⟩] at c28; cases c28))) dX4_areSettings_32
      exact lp (5) (0) ls (by omega) (by omega) (fun j hj => absurd hj (by omega)) (lv_sub hl [1, 0] rfl)
    · skip
      refine lv_iconst (v := 0) hx hb dX4_areSettings_11 (by decide) ?_
      exact r_z C hr hlk (by first | exact Or.inl rfl | exact Or.inr rfl | exact bI_or _) (bif0 (Bool.eq_false_iff.mpr (fun hz => by have hz := (sOK_iff.mp hz).1; simp only [fa_lt, fa_le, li_0, li_65536] at c1 c8; omega))) dX4_areSettings_12
set_option maxHeartbeats 4000000 in
set_option maxRecDepth 100000 in
theorem c4_canCompare (l : Launch) (g : GG) (i u v t : Int32) : Met l yX4_canCompare (.code yX4_canCompare cX4_canCompare 4 (some .boolean) :: wsL_law) ({ frames := 1, cells := 0, slots := 0, locals := 20 } : Room) (mP g [.int (i), .int (u), .int (v), .int (t)] (fun _ => True)) (vp_Si (fun z => z = bI (canPairB i u v t))) 0 0 ((fun _ => False)) := by
  refine mMet (by decide) (Nat.le_of_ble_eq_true rfl) ?_
  intro p e s m below meth c C hr hlk hnm hP ls hl
  have hx := C.1.1
  have hb := C.1.2.1
  have hl : lv_has ls 4 [(0, .int (i)), (1, .int (u)), (2, .int (v)), (3, .int (t))] := hl
  refine lv_iload_n hx hb dX4_canCompare_0 rfl (lv_at hl 0 rfl) ?_
  refine k_i (c_S (As := [.int (i)]) (rest := []) C v_X4_195 (c4_isSetting l g (i)) ⟨Nat.le_of_ble_eq_true rfl, Nat.le_of_ble_eq_true rfl⟩ (trivial) hl.1 rfl rfl (Nat.le_of_ble_eq_true rfl) dX4_canCompare_1 ⟨Nat.le_of_ble_eq_true rfl, Nat.le_of_ble_eq_true rfl⟩) (fun r1 q1 => ?_)
  subst q1
  refine b_ifeq (tgt := 37) C dX4_canCompare_4 (by decide) (fun c4 => ?_) (fun c4 => ?_)
  · skip
    refine lv_iconst (v := 0) hx hb dX4_canCompare_37 (by decide) ?_
    exact r_z C hr hlk (by first | exact Or.inl rfl | exact Or.inr rfl | exact bI_or _) (bif0 (by simp [canPairB, c4])) dX4_canCompare_38
  · skip
    refine lv_iload_n hx hb dX4_canCompare_7 rfl (lv_at hl 1 rfl) ?_
    refine k_i (c_S (As := [.int (u)]) (rest := []) C v_X4_249 (c4_isValue l g (u)) ⟨Nat.le_of_ble_eq_true rfl, Nat.le_of_ble_eq_true rfl⟩ (trivial) hl.1 rfl rfl (Nat.le_of_ble_eq_true rfl) dX4_canCompare_8 ⟨Nat.le_of_ble_eq_true rfl, Nat.le_of_ble_eq_true rfl⟩) (fun r8 q8 => ?_)
    subst q8
    refine b_ifeq (tgt := 37) C dX4_canCompare_11 (by decide) (fun c11 => ?_) (fun c11 => ?_)
    · skip
      refine lv_iconst (v := 0) hx hb dX4_canCompare_37 (by decide) ?_
      exact r_z C hr hlk (by first | exact Or.inl rfl | exact Or.inr rfl | exact bI_or _) (bif0 (by simp [canPairB, c4, c11])) dX4_canCompare_38
    · skip
      refine lv_iload_n hx hb dX4_canCompare_14 rfl (lv_at hl 2 rfl) ?_
      refine k_i (c_S (As := [.int (v)]) (rest := []) C v_X4_249 (c4_isValue l g (v)) ⟨Nat.le_of_ble_eq_true rfl, Nat.le_of_ble_eq_true rfl⟩ (trivial) hl.1 rfl rfl (Nat.le_of_ble_eq_true rfl) dX4_canCompare_15 ⟨Nat.le_of_ble_eq_true rfl, Nat.le_of_ble_eq_true rfl⟩) (fun r15 q15 => ?_)
      subst q15
      refine b_ifeq (tgt := 37) C dX4_canCompare_18 (by decide) (fun c18 => ?_) (fun c18 => ?_)
      · skip
        refine lv_iconst (v := 0) hx hb dX4_canCompare_37 (by decide) ?_
        exact r_z C hr hlk (by first | exact Or.inl rfl | exact Or.inr rfl | exact bI_or _) (bif0 (by simp [canPairB, c4, c11, c18])) dX4_canCompare_38
      · skip
        refine lv_iload_n hx hb dX4_canCompare_21 rfl (lv_at hl 1 rfl) ?_
        refine lv_iload_n hx hb dX4_canCompare_22 rfl (lv_at hl 2 rfl) ?_
        refine lv_icmp_eq (tgt := 37) hx hb dX4_canCompare_23 (by decide) (fun c23 => ?_) (fun c23 => ?_)
        · skip
          refine lv_iconst (v := 0) hx hb dX4_canCompare_37 (by decide) ?_
          exact r_z C hr hlk (by first | exact Or.inl rfl | exact Or.inr rfl | exact bI_or _) (bif0 (by simp [canPairB, c4, c11, c18, c23])) dX4_canCompare_38
        · skip
          refine lv_iload_n hx hb dX4_canCompare_26 rfl (lv_at hl 3 rfl) ?_
          refine k_i (c_S (As := [.int (t)]) (rest := []) C v_X4_59 (c4_areTicks l g (t)) ⟨Nat.le_of_ble_eq_true rfl, Nat.le_of_ble_eq_true rfl⟩ (trivial) hl.1 rfl rfl (Nat.le_of_ble_eq_true rfl) dX4_canCompare_27 ⟨Nat.le_of_ble_eq_true rfl, Nat.le_of_ble_eq_true rfl⟩) (fun r27 q27 => ?_)
          subst q27
          refine b_ifeq (tgt := 37) C dX4_canCompare_30 (by decide) (fun c30 => ?_) (fun c30 => ?_)
          · skip
            refine lv_iconst (v := 0) hx hb dX4_canCompare_37 (by decide) ?_
            exact r_z C hr hlk (by first | exact Or.inl rfl | exact Or.inr rfl | exact bI_or _) (bif0 (by simp [canPairB, c4, c11, c18, c23, c30])) dX4_canCompare_38
          · skip
            refine lv_iconst (v := 1) hx hb dX4_canCompare_33 (by decide) ?_
            refine lv_goto (tgt := 38) hx hb dX4_canCompare_34 (by decide) ?_
            exact r_z C hr hlk (by first | exact Or.inl rfl | exact Or.inr rfl | exact bI_or _) (bit1 (by simp [canPairB, c4, c11, c18, c23, c30])) dX4_canCompare_38
def askB (a b : Int32) (w : Int32) : Bool := if w = 1 then decide (a < b) else if w = 2 then decide (b < a) else true
set_option maxHeartbeats 4000000 in
set_option maxRecDepth 100000 in
theorem c4_endsAsAsked (l : Launch) (g : GG) (a b w : Int32) : Met l yX4_endsAsAsked (.code yX4_endsAsAsked cX4_endsAsAsked 3 (some .boolean) :: wsL_law) ({ frames := 0, cells := 0, slots := 0, locals := 0 } : Room) (mP g [.int (a), .int (b), .int (w)] (fun _ => True)) (vp_Si (fun z => z = bI (askB a b w))) 0 0 ((fun _ => False)) := by
  refine mMet (by decide) (Nat.le_of_ble_eq_true rfl) ?_
  intro p e s m below meth c C hr hlk hnm hP ls hl
  have hx := C.1.1
  have hb := C.1.2.1
  have hl : lv_has ls 3 [(0, .int (a)), (1, .int (b)), (2, .int (w))] := hl
  refine lv_iload_n hx hb dX4_endsAsAsked_0 rfl (lv_at hl 2 rfl) ?_
  refine lv_iconst (v := 1) hx hb dX4_endsAsAsked_1 (by decide) ?_
  refine lv_icmp_ne (tgt := 16) hx hb dX4_endsAsAsked_2 (by decide) (fun c2 => ?_) (fun c2 => ?_)
  · skip
    refine lv_iload_n hx hb dX4_endsAsAsked_16 rfl (lv_at hl 2 rfl) ?_
    refine lv_iconst (v := 2) hx hb dX4_endsAsAsked_17 (by decide) ?_
    refine lv_icmp_ne (tgt := 32) hx hb dX4_endsAsAsked_18 (by decide) (fun c18 => ?_) (fun c18 => ?_)
    · skip
      refine lv_iconst (v := 1) hx hb dX4_endsAsAsked_32 (by decide) ?_
      exact r_z C hr hlk (by first | exact Or.inl rfl | exact Or.inr rfl | exact bI_or _) (bit1 (by rw [askB, if_neg c2, if_neg c18])) dX4_endsAsAsked_33
    · skip
      refine lv_iload_n hx hb dX4_endsAsAsked_21 rfl (lv_at hl 1 rfl) ?_
      refine lv_iload_n hx hb dX4_endsAsAsked_22 rfl (lv_at hl 0 rfl) ?_
      refine lv_icmp_ge (tgt := 30) hx hb dX4_endsAsAsked_23 (by decide) (fun c23 => ?_) (fun c23 => ?_)
      · skip
        refine lv_iconst (v := 0) hx hb dX4_endsAsAsked_30 (by decide) ?_
        exact r_z C hr hlk (by first | exact Or.inl rfl | exact Or.inr rfl | exact bI_or _) (bif0 (by rw [askB, if_neg c2, if_pos c18]; exact decide_eq_false (fun hz => (fa_of_lt hz).2.1 c23))) dX4_endsAsAsked_31
      · skip
        refine lv_iconst (v := 1) hx hb dX4_endsAsAsked_26 (by decide) ?_
        refine lv_goto (tgt := 31) hx hb dX4_endsAsAsked_27 (by decide) ?_
        exact r_z C hr hlk (by first | exact Or.inl rfl | exact Or.inr rfl | exact bI_or _) (bit1 (by rw [askB, if_neg c2, if_pos c18]; exact decide_eq_true (fa_of_nle c23))) dX4_endsAsAsked_31
  · skip
    refine lv_iload_n hx hb dX4_endsAsAsked_5 rfl (lv_at hl 1 rfl) ?_
    refine lv_iload_n hx hb dX4_endsAsAsked_6 rfl (lv_at hl 0 rfl) ?_
    refine lv_icmp_le (tgt := 14) hx hb dX4_endsAsAsked_7 (by decide) (fun c7 => ?_) (fun c7 => ?_)
    · skip
      refine lv_iconst (v := 0) hx hb dX4_endsAsAsked_14 (by decide) ?_
      exact r_z C hr hlk (by first | exact Or.inl rfl | exact Or.inr rfl | exact bI_or _) (bif0 (by rw [askB, if_pos c2]; exact decide_eq_false (fun hz => (fa_of_lt hz).2.1 c7))) dX4_endsAsAsked_15
    · skip
      refine lv_iconst (v := 1) hx hb dX4_endsAsAsked_10 (by decide) ?_
      refine lv_goto (tgt := 15) hx hb dX4_endsAsAsked_11 (by decide) ?_
      exact r_z C hr hlk (by first | exact Or.inl rfl | exact Or.inr rfl | exact bI_or _) (bit1 (by rw [askB, if_pos c2]; exact decide_eq_true (fa_of_nle c7))) dX4_endsAsAsked_15
theorem ov_ww : ∀ n, n < 31 → ∀ w, w < n + 1 → ovN n w (n + 1) = fb_sm (chs n) (n - w + 1) := by decide +kernel
set_option maxHeartbeats 4000000 in
set_option maxRecDepth 100000 in
theorem c4_waysToWin (l : Launch) (g : GG) (n w : Nat) (hn : n ≤ 30) (hw : w ≤ n) : Met l yX4_waysToWin (.code yX4_waysToWin cX4_waysToWin 7 (some .long) :: wsL_law) ({ frames := 0, cells := 0, slots := 0, locals := 0 } : Room) (mP g [.int (nI (n)), .int (nI (w))] (fun _ => True)) (vp_Sl (fun z => z = lN (ovN n w (n + 1)))) 0 0 ((fun _ => False)) := by
  refine mMet (by decide) (Nat.le_of_ble_eq_true rfl) ?_
  intro p e s m below meth c C hr hlk hnm hP ls hl
  have hx := C.1.1
  have hb := C.1.2.1
  have hl : lv_has ls 7 [(0, .int (nI (n))), (1, .int (nI (w)))] := hl
  refine lv_lconst (v := 0) hx hb dX4_waysToWin_0 (by decide) ?_
  refine lv_lstore_n (lv' := [(2, .long (0)), (0, .int (nI (n))), (1, .int (nI (w)))]) hx hb dX4_waysToWin_1 rfl hl (by decide) rfl (fun ls hl => ?_)
  refine lv_lconst (v := 1) hx hb dX4_waysToWin_2 (by decide) ?_
  refine lv_lstore (lv' := [(4, .long (1)), (2, .long (0)), (0, .int (nI (n))), (1, .int (nI (w)))]) hx hb dX4_waysToWin_3 hl (by decide) rfl (fun ls hl => ?_)
  refine lv_iconst (v := nI 0) hx hb dX4_waysToWin_5 (by decide) ?_
  refine lv_istore (lv' := [(6, .int (nI (0))), (4, .long (1)), (2, .long (0)), (0, .int (nI (n))), (1, .int (nI (w)))]) hx hb dX4_waysToWin_6 hl (by decide) rfl (fun ls hl => ?_)
  have lp : ∀ (n_lp : Nat) (k : Nat) (z1 z2 : Int64) (ls : Array Slot), (k ≤ n - w + 1) → (n + 1 + 1 ≤ k + n_lp) → (z1 = lN (fb_sm (chs n) k)) → (z2 = lN (chs n k)) → lv_has ls 7 [(0, .int (nI (n))), (1, .int (nI (w))), (2, .long (z1)), (4, .long (z2)), (6, .int (nI (k)))] → W p l e ({ frames := 0, cells := 0, slots := 0, locals := 0 } : Room) s m ([.int (nI (n)), .int (nI (w))] : List Value).toArray below meth c s.heap [] 0 0 (MQ below (vp_Sl (fun z => z = lN (ovN n w (n + 1)))) (([.int (nI (n)), .int (nI (w))] : List Value).toArray) s 0 0 (fun _ => False)) (F0 m 8 ls []) := by
    intro n_lp
    induction n_lp with
    | zero =>
      intro k z1 z2 ls hk hn2 h1 h2
      exact absurd hn2 (by omega)
    | succ n_lp ih_lp =>
      intro k z1 z2 ls hk hn2 h1 h2 hl
      refine lv_iload hx hb dX4_waysToWin_8 (lv_at hl 4 rfl) ?_
      refine lv_iload_n hx hb dX4_waysToWin_10 rfl (lv_at hl 0 rfl) ?_
      refine lv_iload_n hx hb dX4_waysToWin_11 rfl (lv_at hl 1 rfl) ?_
      refine n_isub C (by omega) dX4_waysToWin_12 ?_
      refine n_icmp_gt (tgt := 43) C (by omega) (by omega) dX4_waysToWin_13 (by decide) (fun c13 => ?_) (fun c13 => ?_)
      · skip
        refine lv_lload_n hx hb dX4_waysToWin_43 rfl (lv_at hl 2 rfl) ?_
        exact r_l C hr hlk (by rw [ov_ww n (by omega) w (by omega), h1, show k = n - w + 1 by omega]) dX4_waysToWin_44
      · skip
        refine lv_lload_n hx hb dX4_waysToWin_16 rfl (lv_at hl 2 rfl) ?_
        refine lv_lload hx hb dX4_waysToWin_17 (lv_at hl 3 rfl) ?_
        refine lv_ladd hx hb dX4_waysToWin_19 ?_
        refine lv_lstore_n (lv' := [(2, .long ((z1) + (z2))), (0, .int (nI (n))), (1, .int (nI (w))), (4, .long (z2)), (6, .int (nI (k)))]) hx hb dX4_waysToWin_20 rfl hl (by decide) rfl (fun ls hl => ?_)
        refine lv_lload hx hb dX4_waysToWin_21 (lv_at hl 3 rfl) ?_
        refine lv_iload_n hx hb dX4_waysToWin_23 rfl (lv_at hl 1 rfl) ?_
        refine lv_iload hx hb dX4_waysToWin_24 (lv_at hl 4 rfl) ?_
        refine n_isub C (by omega) dX4_waysToWin_26 ?_
        refine lv_i2l (v := (nI (n - k)).toInt64) hx hb dX4_waysToWin_27 rfl ?_
        refine lv_lmul hx hb dX4_waysToWin_28 ?_
        refine lv_iload hx hb dX4_waysToWin_29 (lv_at hl 4 rfl) ?_
        refine lv_iconst (v := nI 1) hx hb dX4_waysToWin_31 (by decide) ?_
        refine n_iadd C dX4_waysToWin_32 ?_
        refine lv_i2l (v := (nI (k + 1)).toInt64) hx hb dX4_waysToWin_33 rfl ?_
        refine lv_ldiv hx hb dX4_waysToWin_34 (by rw [nI_l (by omega)]; exact fun hz => absurd ((pk_lEQ (a := k + 1) (b := 0) (by omega) (by omega)).mp hz) (by omega)) ?_
        refine lv_lstore (lv' := [(4, .long (((z2) * ((nI (n - k)).toInt64)) / ((nI (k + 1)).toInt64))), (2, .long ((z1) + (z2))), (0, .int (nI (n))), (1, .int (nI (w))), (6, .int (nI (k)))]) hx hb dX4_waysToWin_35 hl (by decide) rfl (fun ls hl => ?_)
        refine n_iinc (d := 1) (lv' := [(6, .int (nI (k + 1))), (4, .long (((z2) * ((nI (n - k)).toInt64)) / ((nI (k + 1)).toInt64))), (2, .long ((z1) + (z2))), (0, .int (nI (n))), (1, .int (nI (w)))]) C dX4_waysToWin_37 (by decide) hl (k := 4) rfl (by decide) rfl (fun ls hl => ?_)
        refine lv_goto (tgt := 8) hx hb dX4_waysToWin_40 (by decide) ?_
        exact ih_lp (k + 1) ((z1) + (z2)) (((z2) * ((nI (n - k)).toInt64)) / ((nI (k + 1)).toInt64)) ls (by omega) (by omega) (by rw [h1, h2, lN_add, fb_sm_succ]) (by rw [h2]; exact chs_step hn (by omega)) (lv_sub hl [3, 4, 2, 1, 0] rfl)
  exact lp (n + 2) (0) (0) (1) ls (by omega) (by omega) (by show (0 : Int64) = lN 0; decide) (by show (1 : Int64) = lN 1; decide) (lv_sub hl [3, 4, 2, 1, 0] rfl)
def memI (z : Option Nat) : Int32 := match z with
  | some q => nI q
  | none => -1
theorem km_no {f : Nat → Bool} {i k : Nat} (h : i < 8) (hf : f i = false) : kthRow f (8 - i) i k = kthRow f (8 - (i + 1)) (i + 1) k := by
  rw [show 8 - i = (8 - (i + 1)) + 1 by omega]; simp only [kthRow, hf, Bool.false_eq_true, if_false]
theorem km_skip {f : Nat → Bool} {i k : Nat} (h : i < 8) (hf : f i = true) (hk : ¬ k = 0) : kthRow f (8 - i) i k = kthRow f (8 - (i + 1)) (i + 1) (k - 1) := by
  rw [show 8 - i = (8 - (i + 1)) + 1 by omega]; simp only [kthRow, hf, if_true, hk, if_false]
theorem km_hit {f : Nat → Bool} {i k : Nat} (h : i < 8) (hf : f i = true) (hk : k = 0) : (kthRow f (8 - i) i k).1 = some i := by
  rw [show 8 - i = (8 - (i + 1)) + 1 by omega]; simp only [kthRow, hf, if_true, hk]
theorem nI_dec {k : Nat} (h : ¬ k = 0) : nI k + (-1) = nI (k - 1) := by
  obtain ⟨j, rfl⟩ : ∃ j, k = j + 1 := ⟨k - 1, by omega⟩
  rw [show nI (j + 1) = nI j + nI 1 by rw [nI_add], show j + 1 - 1 = j by omega, Int32.add_assoc, show nI 1 + (-1) = 0 by decide, Int32.add_zero]
set_option maxHeartbeats 4000000 in
set_option maxRecDepth 100000 in
theorem c4_memberAt (l : Launch) (g : GG) (x : Int32) (k0 : Nat) (hk0 : k0 < 2 ^ 31) : Met l yX4_memberAt (.code yX4_memberAt cX4_memberAt 4 (some .int) :: wsL_law) ({ frames := 1, cells := 0, slots := 0, locals := 21 } : Room) (mP g [.int (x), .int (nI (k0))] (fun _ => True)) (vp_Si (fun z => z = memI (kthRow (fun o => hasB x o) 8 0 k0).1)) 0 0 ((fun _ => False)) := by
  refine mMet (by decide) (Nat.le_of_ble_eq_true rfl) ?_
  intro p e s m below meth c C hr hlk hnm hP ls hl
  have hx := C.1.1
  have hb := C.1.2.1
  have hl : lv_has ls 4 [(0, .int (x)), (1, .int (nI (k0)))] := hl
  obtain ⟨Z, hZ⟩ : ∃ Z : Option Nat, Z = (kthRow (fun o => hasB x o) 8 0 k0).1 := ⟨_, rfl⟩
  refine lv_iload_n hx hb dX4_memberAt_0 rfl (lv_at hl 1 rfl) ?_
  refine lv_istore_n (lv' := [(2, .int (nI (k0))), (0, .int (x)), (1, .int (nI (k0)))]) hx hb dX4_memberAt_1 rfl hl (by decide) rfl (fun ls hl => ?_)
  refine lv_iconst (v := nI 0) hx hb dX4_memberAt_2 (by decide) ?_
  refine lv_istore_n (lv' := [(3, .int (nI (0))), (2, .int (nI (k0))), (0, .int (x)), (1, .int (nI (k0)))]) hx hb dX4_memberAt_3 rfl hl (by decide) rfl (fun ls hl => ?_)
  have lp : ∀ (n_lp : Nat) (i k : Nat) (ls : Array Slot), (i ≤ 8) → (k < 2 ^ 31) → (8 + 1 ≤ i + n_lp) → (Z = (kthRow (fun o => hasB x o) (8 - i) i k).1) → lv_has ls 4 [(0, .int (x)), (1, .int (nI (k0))), (2, .int (nI (k))), (3, .int (nI (i)))] → W p l e ({ frames := 1, cells := 0, slots := 0, locals := 21 } : Room) s m ([.int (x), .int (nI (k0))] : List Value).toArray below meth c s.heap [] 0 0 (MQ below (vp_Si (fun z => z = memI (kthRow (fun o => hasB x o) 8 0 k0).1)) (([.int (x), .int (nI (k0))] : List Value).toArray) s 0 0 (fun _ => False)) (F0 m 4 ls []) := by
    intro n_lp
    induction n_lp with
    | zero =>
      intro i k ls hi hk hn hz
      exact absurd hn (by omega)
    | succ n_lp ih_lp =>
      intro i k ls hi hk hn hz hl
      refine lv_iload_n hx hb dX4_memberAt_4 rfl (lv_at hl 3 rfl) ?_
      refine lv_bipush (v := nI 8) hx hb dX4_memberAt_5 (by decide) ?_
      refine n_icmp_ge (tgt := 36) C (by omega) (by omega) dX4_memberAt_7 (by decide) (fun c7 => ?_) (fun c7 => ?_)
      · skip
        refine lv_iconst (v := (-1)) hx hb dX4_memberAt_36 (by decide) ?_
        exact r_i C hr hlk (by rw [← hZ, hz, show 8 - i = 0 by omega]; rfl) dX4_memberAt_37
      · skip
        refine lv_iload_n hx hb dX4_memberAt_10 rfl (lv_at hl 3 rfl) ?_
        refine lv_iload_n hx hb dX4_memberAt_11 rfl (lv_at hl 0 rfl) ?_
        refine k_i (c_S (As := [.int (nI (i)), .int (x)]) (rest := []) C v_X4_269 (c4_isIn l g i (x)) ⟨Nat.le_of_ble_eq_true rfl, Nat.le_of_ble_eq_true rfl⟩ (trivial) hl.1 rfl rfl (Nat.le_of_ble_eq_true rfl) dX4_memberAt_12 ⟨Nat.le_of_ble_eq_true rfl, Nat.le_of_ble_eq_true rfl⟩) (fun r12 q12 => ?_)
        subst q12
        refine b_ifne (tgt := 21) C dX4_memberAt_15 (by decide) (fun c15 => ?_) (fun c15 => ?_)
        · skip
          refine lv_iload_n hx hb dX4_memberAt_21 rfl (lv_at hl 2 rfl) ?_
          refine n_ifne (tgt := 27) C (by omega) dX4_memberAt_22 (by decide) (fun c22 => ?_) (fun c22 => ?_)
          · skip
            refine lv_iinc (v := nI (k - 1)) (lv' := [(2, .int (nI (k - 1))), (0, .int (x)), (1, .int (nI (k0))), (3, .int (nI (i)))]) hx hb dX4_memberAt_27 hl (k := 2) rfl (nI_dec c22) (by decide) rfl (fun ls hl => ?_)
            refine n_iinc (d := 1) (lv' := [(3, .int (nI (i + 1))), (2, .int (nI (k - 1))), (0, .int (x)), (1, .int (nI (k0)))]) C dX4_memberAt_30 (by decide) hl (k := 3) rfl (by decide) rfl (fun ls hl => ?_)
            refine lv_goto (tgt := 4) hx hb dX4_memberAt_33 (by decide) ?_
            exact ih_lp (i + 1) (k - 1) ls (by omega) (by omega) (by omega) (by rw [hz, km_skip c7 c15 c22]) (lv_sub hl [2, 3, 1, 0] rfl)
          · skip
            refine lv_iload_n hx hb dX4_memberAt_25 rfl (lv_at hl 3 rfl) ?_
            exact r_i C hr hlk (by rw [← hZ, hz, km_hit c7 c15 c22]; rfl) dX4_memberAt_26
        · skip
          refine lv_goto (tgt := 30) hx hb dX4_memberAt_18 (by decide) ?_
          refine n_iinc (d := 1) (lv' := [(3, .int (nI (i + 1))), (0, .int (x)), (1, .int (nI (k0))), (2, .int (nI (k)))]) C dX4_memberAt_30 (by decide) hl (k := 3) rfl (by decide) rfl (fun ls hl => ?_)
          refine lv_goto (tgt := 4) hx hb dX4_memberAt_33 (by decide) ?_
          exact ih_lp (i + 1) (k) ls (by omega) (hk) (by omega) (by rw [hz, km_no c7 c15]) (lv_sub hl [1, 2, 3, 0] rfl)
  exact lp (9) (0) (k0) ls (by omega) (hk0) (by omega) (hZ) (lv_sub hl [2, 3, 1, 0] rfl)
def ush (x k : Int32) : Int32 := (x.toUInt32 >>> (k.toUInt32 &&& Int32.toUInt32 31)).toInt32
def bc1 (x : Int32) : Int32 := x - (ush x 1 &&& 1431655765)
def bc2 (x : Int32) : Int32 := (x &&& 858993459) + (ush x 2 &&& 858993459)
def bc3 (x : Int32) : Int32 := (x + ush x 4) &&& 252645135
def bc4 (x : Int32) : Int32 := x + ush x 8
def bc5 (x : Int32) : Int32 := x + ush x 16
theorem bc_e : ∀ n, n < 256 → bc5 (bc4 (bc3 (bc2 (bc1 (nI n))))) &&& 63 = nI (fb_ct (fun o => hasB (nI n) o) 8) := by decide +kernel
set_option maxHeartbeats 4000000 in
set_option maxRecDepth 100000 in
theorem c6_bitCount (l : Launch) (g : GG) (x : Int32) : Met l yJ6_bitCount_0f7a4 (.code yJ6_bitCount_0f7a4 cJ6_bitCount_0f7a4 1 (some .int) :: wsL_law) ({ frames := 0, cells := 0, slots := 0, locals := 0 } : Room) (mP g [.int (x)] (fun _ => True)) (vp_Si (fun z => z = bc5 (bc4 (bc3 (bc2 (bc1 x)))) &&& 63)) 0 0 ((fun _ => False)) := by
  refine mMet (by decide) (Nat.le_of_ble_eq_true rfl) ?_
  intro p e s m below meth c C hr hlk hnm hP ls hl
  have hx := C.1.1
  have hb := C.1.2.1
  have hl : lv_has ls 1 [(0, .int (x))] := hl
  refine lv_iload_n hx hb dJ6_bitCount_0f7a4_0 rfl (lv_at hl 0 rfl) ?_
  refine lv_iload_n hx hb dJ6_bitCount_0f7a4_1 rfl (lv_at hl 0 rfl) ?_
  refine lv_iconst (v := 1) hx hb dJ6_bitCount_0f7a4_2 (by decide) ?_
  refine lv_iushr hx hb dJ6_bitCount_0f7a4_3 rfl ?_
  refine lv_ldcw (v := 1431655765) hx hb C.1.2.2.2.1 (C.1.2.2.2.2 _ (inr_24 _ (List.mem_of_getElem? (i := 10) rfl))) dJ6_bitCount_0f7a4_4 ?_
  refine lv_iand hx hb dJ6_bitCount_0f7a4_7 ?_
  refine lv_isub hx hb dJ6_bitCount_0f7a4_8 ?_
  refine w_topi (y := (bc1 x)) (rfl) ?_
  refine lv_istore_n (lv' := [(0, .int (bc1 x))]) hx hb dJ6_bitCount_0f7a4_9 rfl hl (by decide) rfl (fun ls hl => ?_)
  refine lv_iload_n hx hb dJ6_bitCount_0f7a4_10 rfl (lv_at hl 0 rfl) ?_
  refine lv_ldcw (v := 858993459) hx hb C.1.2.2.2.1 (C.1.2.2.2.2 _ (inr_24 _ (List.mem_of_getElem? (i := 11) rfl))) dJ6_bitCount_0f7a4_11 ?_
  refine lv_iand hx hb dJ6_bitCount_0f7a4_14 ?_
  refine lv_iload_n hx hb dJ6_bitCount_0f7a4_15 rfl (lv_at hl 0 rfl) ?_
  refine lv_iconst (v := 2) hx hb dJ6_bitCount_0f7a4_16 (by decide) ?_
  refine lv_iushr hx hb dJ6_bitCount_0f7a4_17 rfl ?_
  refine lv_ldcw (v := 858993459) hx hb C.1.2.2.2.1 (C.1.2.2.2.2 _ (inr_24 _ (List.mem_of_getElem? (i := 11) rfl))) dJ6_bitCount_0f7a4_18 ?_
  refine lv_iand hx hb dJ6_bitCount_0f7a4_21 ?_
  refine lv_iadd hx hb dJ6_bitCount_0f7a4_22 ?_
  refine w_topi (y := (bc2 (bc1 x))) (rfl) ?_
  refine lv_istore_n (lv' := [(0, .int (bc2 (bc1 x)))]) hx hb dJ6_bitCount_0f7a4_23 rfl hl (by decide) rfl (fun ls hl => ?_)
  refine lv_iload_n hx hb dJ6_bitCount_0f7a4_24 rfl (lv_at hl 0 rfl) ?_
  refine lv_iload_n hx hb dJ6_bitCount_0f7a4_25 rfl (lv_at hl 0 rfl) ?_
  refine lv_iconst (v := 4) hx hb dJ6_bitCount_0f7a4_26 (by decide) ?_
  refine lv_iushr hx hb dJ6_bitCount_0f7a4_27 rfl ?_
  refine lv_iadd hx hb dJ6_bitCount_0f7a4_28 ?_
  refine lv_ldcw (v := 252645135) hx hb C.1.2.2.2.1 (C.1.2.2.2.2 _ (inr_24 _ (List.mem_of_getElem? (i := 12) rfl))) dJ6_bitCount_0f7a4_29 ?_
  refine lv_iand hx hb dJ6_bitCount_0f7a4_32 ?_
  refine w_topi (y := (bc3 (bc2 (bc1 x)))) (rfl) ?_
  refine lv_istore_n (lv' := [(0, .int (bc3 (bc2 (bc1 x))))]) hx hb dJ6_bitCount_0f7a4_33 rfl hl (by decide) rfl (fun ls hl => ?_)
  refine lv_iload_n hx hb dJ6_bitCount_0f7a4_34 rfl (lv_at hl 0 rfl) ?_
  refine lv_iload_n hx hb dJ6_bitCount_0f7a4_35 rfl (lv_at hl 0 rfl) ?_
  refine lv_bipush (v := 8) hx hb dJ6_bitCount_0f7a4_36 (by decide) ?_
  refine lv_iushr hx hb dJ6_bitCount_0f7a4_38 rfl ?_
  refine lv_iadd hx hb dJ6_bitCount_0f7a4_39 ?_
  refine w_topi (y := (bc4 (bc3 (bc2 (bc1 x))))) (rfl) ?_
  refine lv_istore_n (lv' := [(0, .int (bc4 (bc3 (bc2 (bc1 x)))))]) hx hb dJ6_bitCount_0f7a4_40 rfl hl (by decide) rfl (fun ls hl => ?_)
  refine lv_iload_n hx hb dJ6_bitCount_0f7a4_41 rfl (lv_at hl 0 rfl) ?_
  refine lv_iload_n hx hb dJ6_bitCount_0f7a4_42 rfl (lv_at hl 0 rfl) ?_
  refine lv_bipush (v := 16) hx hb dJ6_bitCount_0f7a4_43 (by decide) ?_
  refine lv_iushr hx hb dJ6_bitCount_0f7a4_45 rfl ?_
  refine lv_iadd hx hb dJ6_bitCount_0f7a4_46 ?_
  refine w_topi (y := (bc5 (bc4 (bc3 (bc2 (bc1 x)))))) (rfl) ?_
  refine lv_istore_n (lv' := [(0, .int (bc5 (bc4 (bc3 (bc2 (bc1 x))))))]) hx hb dJ6_bitCount_0f7a4_47 rfl hl (by decide) rfl (fun ls hl => ?_)
  refine lv_iload_n hx hb dJ6_bitCount_0f7a4_48 rfl (lv_at hl 0 rfl) ?_
  refine lv_bipush (v := 63) hx hb dJ6_bitCount_0f7a4_49 (by decide) ?_
  refine lv_iand hx hb dJ6_bitCount_0f7a4_51 ?_
  exact r_i C hr hlk (rfl) dJ6_bitCount_0f7a4_52
def stdB (ρ : RunT) (cnt : Bool) (i : Nat) (u : Int32) (tk : Nat) : Bool := cnt && decide (rTk ρ = tk) && decide (sett (rSet ρ) i = u)
set_option maxHeartbeats 4000000 in
set_option maxRecDepth 100000 in
theorem c4_standsFor (l : Launch) (g : GG) (a : Nat) (ρ : RunT) (cnt : Bool) (hO : RunOK ρ) (i : Nat) (u : Int32) (tk : Nat) (htk : tk ≤ 16) : Met l yX4_standsFor (.code yX4_standsFor cX4_standsFor 4 (some .boolean) :: wsL_law) ({ frames := 1, cells := 0, slots := 0, locals := 21 } : Room) (mP g [.ref (a), .int (nI (i)), .int (u), .int (nI (tk))] (RunAt g ρ cnt a)) (vp_Si (fun z => z = bI (stdB ρ cnt i u tk))) 0 0 ((fun _ => False)) := by
  refine mMet (by decide) (Nat.le_of_ble_eq_true rfl) ?_
  intro p e s m below meth c C hr hlk hnm hP ls hl
  have hx := C.1.1
  have hb := C.1.2.1
  have hl : lv_has ls 4 [(0, .ref (a)), (1, .int (nI (i))), (2, .int (u)), (3, .int (nI (tk)))] := hl
  obtain ⟨ca, na, va, ra, v, w, hv, hP⟩ := hP
  have ht16 := hO.2.2.2.2.2.2.1
  refine lv_aload_n hx hb dX4_standsFor_0 rfl (lv_at hl 0 rfl) ?_
  refine lv_ifnull hx hb dX4_standsFor_1 ?_
  refine lv_aload_n hx hb dX4_standsFor_4 rfl (lv_at hl 0 rfl) ?_
  refine q_get C f_X4_240 (hP) 0 rfl rfl dX4_standsFor_5 ?_
  refine b_ifeq (tgt := 35) C dX4_standsFor_8 (by decide) (fun c8 => ?_) (fun c8 => ?_)
  · skip
    refine lv_iconst (v := 0) hx hb dX4_standsFor_35 (by decide) ?_
    exact r_z C hr hlk (by first | exact Or.inl rfl | exact Or.inr rfl | exact bI_or _) (bif0 (by simp [stdB, c8])) dX4_standsFor_36
  · skip
    refine lv_aload_n hx hb dX4_standsFor_11 rfl (lv_at hl 0 rfl) ?_
    refine q_get C f_X4_88 (hP) 0 rfl rfl dX4_standsFor_12 ?_
    refine lv_iload_n hx hb dX4_standsFor_15 rfl (lv_at hl 3 rfl) ?_
    refine n_icmp_ne (tgt := 35) C (by omega) (by omega) dX4_standsFor_16 (by decide) (fun c16 => ?_) (fun c16 => ?_)
    · skip
      refine lv_iconst (v := 0) hx hb dX4_standsFor_35 (by decide) ?_
      exact r_z C hr hlk (by first | exact Or.inl rfl | exact Or.inr rfl | exact bI_or _) (bif0 (by simp [stdB, c8, c16])) dX4_standsFor_36
    · skip
      refine lv_aload_n hx hb dX4_standsFor_19 rfl (lv_at hl 0 rfl) ?_
      refine q_get C f_X4_113 (hP) 0 rfl rfl dX4_standsFor_20 ?_
      refine lv_iload_n hx hb dX4_standsFor_23 rfl (lv_at hl 1 rfl) ?_
      refine k_i (c_S (As := [.int (rSet ρ), .int (nI (i))]) (rest := []) C v_X4_252 (c4_settingOf l g (rSet ρ) i) ⟨Nat.le_of_ble_eq_true rfl, Nat.le_of_ble_eq_true rfl⟩ (trivial) hl.1 rfl rfl (Nat.le_of_ble_eq_true rfl) dX4_standsFor_24 ⟨Nat.le_of_ble_eq_true rfl, Nat.le_of_ble_eq_true rfl⟩) (fun r24 q24 => ?_)
      subst q24
      refine lv_iload_n hx hb dX4_standsFor_27 rfl (lv_at hl 2 rfl) ?_
      refine lv_icmp_ne (tgt := 35) hx hb dX4_standsFor_28 (by decide) (fun c28 => ?_) (fun c28 => ?_)
      · skip
        refine lv_iconst (v := 0) hx hb dX4_standsFor_35 (by decide) ?_
        exact r_z C hr hlk (by first | exact Or.inl rfl | exact Or.inr rfl | exact bI_or _) (bif0 (by simp [stdB, c8, c16, c28])) dX4_standsFor_36
      · skip
        refine lv_iconst (v := 1) hx hb dX4_standsFor_31 (by decide) ?_
        refine lv_goto (tgt := 36) hx hb dX4_standsFor_32 (by decide) ?_
        exact r_z C hr hlk (by first | exact Or.inl rfl | exact Or.inr rfl | exact bI_or _) (bit1 (by simp [stdB, c8, c16, c28])) dX4_standsFor_36

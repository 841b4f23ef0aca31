/-! THE CLASS: a tick, all ticks -/
theorem xT_two {dat : Nat → Int32} {clk all own : Int32} {t j : Nat} {X : XS} {qs : List Nat} : xTick dat clk all own t (qs.drop j) X true = xTick dat clk all own t (qs.drop (j + 1)) X false := by
  rcases Nat.lt_or_ge j qs.length with h | h
  · by_cases hs : xSt X = true
    · rw [xT_stop _ hs, xT_stop _ hs]
    · rw [xT_skip h (by simpa using hs)]
  · rw [xT_end h, xT_end (by omega)]
theorem or_0 (x : Int32) : x ||| 0 = x := by rw [Int32.or_comm]; exact or0 x
set_option maxHeartbeats 4000000 in
set_option maxRecDepth 100000 in
theorem c2_afterTick (l : Launch) (g : GG) (a ca na va ra wo wa : Nat) (k st sd og ot clk : Int32) (cnt : Bool) (tk : Nat) (d : Nat → Int32) (xs : va_W) (A : Nat → Prop) (nr : Nat) (rs0 rw0 : Int32) (s0 c0 : Bool) (v0 v w : Nat → Int32) (X : XS) (hv : ∀ i, i < 8 → v i = if hasB (xRW X) i then d i else v0 i) (t : Nat) (qs : List Nat) (hnC : ¬ A ca) (hq : ∀ q ∈ qs, q < 256) (hq8 : qs.length ≤ 8) (ht : t < 16) (hD : va_D A ([(a, .inr (2, [.int (k), .ref (ca), .int (st), .int (sd), .int (nI (tk)), .ref (na), .ref (ra), .int (nI (nr)), .int (bI (xSt (X))), .int (bI (cnt)), .int (og), .int (ot)])), (na, .inr (1, [.int (rs0 ||| xRS (X)), .int (rw0 ||| xRW (X)), .int (bI (s0 || xSd (X))), .int (bI (c0 || xCk (X))), .ref (va)])), (va, aI g 8 v), (ra, aI g 16 w), (wo, .inr (3, [.ref (wa), .int (clk)])), (wa, aI g 8 d)] ++ xs)) : Met l yX2_afterTick (.code yX2_afterTick cX2_afterTick 9 (some .int) :: wsL_law) ({ frames := 3, cells := 0, slots := 0, locals := 70 } : Room) (mP g [.ref (a), .int (xV X), .int (nI (t)), .ref (wo)] (fun H => va_P g.1 vwCl ([(a, .inr (2, [.int (k), .ref (ca), .int (st), .int (sd), .int (nI (tk)), .ref (na), .ref (ra), .int (nI (nr)), .int (bI (xSt (X))), .int (bI (cnt)), .int (og), .int (ot)])), (na, .inr (1, [.int (rs0 ||| xRS (X)), .int (rw0 ||| xRW (X)), .int (bI (s0 || xSd (X))), .int (bI (c0 || xCk (X))), .ref (va)])), (va, aI g 8 v), (ra, aI g 16 w), (wo, .inr (3, [.ref (wa), .int (clk)])), (wa, aI g 8 d)] ++ xs) H ∧ va_P g.1 vwCl [(ca, .inr (0, [.int (nI ((qs).length)), .long (lN (packN (qs)))]))] H)) (mQ A (fun z H => z = some (.int (xV (xTick d clk st sd t qs X false))) ∧ ∃ v' : Nat → Int32, (∀ i, i < 8 → v' i = if hasB (xRW (xTick d clk st sd t qs X false)) i then d i else v0 i) ∧ va_P g.1 vwCl ([(a, .inr (2, [.int (k), .ref (ca), .int (st), .int (sd), .int (nI (tk)), .ref (na), .ref (ra), .int (nI (nr)), .int (bI (xSt (xTick d clk st sd t qs X false))), .int (bI (cnt)), .int (og), .int (ot)])), (na, .inr (1, [.int (rs0 ||| xRS (xTick d clk st sd t qs X false)), .int (rw0 ||| xRW (xTick d clk st sd t qs X false)), .int (bI (s0 || xSd (xTick d clk st sd t qs X false))), .int (bI (c0 || xCk (xTick d clk st sd t qs X false))), .ref (va)])), (va, aI g 8 (v')), (ra, aI g 16 w), (wo, .inr (3, [.ref (wa), .int (clk)])), (wa, aI g 8 d)] ++ xs) H)) 0 0 (A) := by
  refine mMet (by decide) (Nat.le_of_ble_eq_true rfl) ?_
  intro p e s m below meth c C hr hlk hnm hP ls hl
  have hx := C.1.1
  have hb := C.1.2.1
  have hl : lv_has ls 9 [(0, .ref (a)), (1, .int (xV X)), (2, .int (nI (t))), (3, .ref (wo))] := hl
  have hS : va_S A s.heap s.heap [] := va_S.rf
  obtain ⟨hP, hC0⟩ := hP
  have hD0 := hD
  refine lv_iload_n hx hb dX2_afterTick_0 rfl (lv_at hl 1 rfl) ?_
  refine lv_istore (lv' := [(4, .int (xV X)), (0, .ref (a)), (1, .int (xV X)), (2, .int (nI (t))), (3, .ref (wo))]) hx hb dX2_afterTick_1 hl (by decide) rfl (fun ls hl => ?_)
  refine lv_iconst (v := nI 0) hx hb dX2_afterTick_3 (by decide) ?_
  refine lv_istore (lv' := [(5, .int (nI (0))), (4, .int (xV X)), (0, .ref (a)), (1, .int (xV X)), (2, .int (nI (t))), (3, .ref (wo))]) hx hb dX2_afterTick_4 hl (by decide) rfl (fun ls hl => ?_)
  have lp : ∀ (n_lp : Nat) (j : Nat) (X1 : XS) (v1 : Nat → Int32) (H : Heap) (locs : List Loc) (x1 : Int32) (ls : Array Slot), (j ≤ qs.length + 1) → (qs.length + 2 ≤ j + n_lp) → (va_P g.1 vwCl ([(a, .inr (2, [.int (k), .ref (ca), .int (st), .int (sd), .int (nI (tk)), .ref (na), .ref (ra), .int (nI (nr)), .int (bI (xSt (X1))), .int (bI (cnt)), .int (og), .int (ot)])), (na, .inr (1, [.int (rs0 ||| xRS (X1)), .int (rw0 ||| xRW (X1)), .int (bI (s0 || xSd (X1))), .int (bI (c0 || xCk (X1))), .ref (va)])), (va, aI g 8 v1), (ra, aI g 16 w), (wo, .inr (3, [.ref (wa), .int (clk)])), (wa, aI g 8 d)] ++ xs) H) → (va_S A s.heap H locs) → (∀ i, i < 8 → v1 i = if hasB (xRW X1) i then d i else v0 i) → (xTick d clk st sd t qs X false = xTick d clk st sd t (qs.drop j) X1 false) → (x1 = xV X1) → lv_has ls 9 [(0, .ref (a)), (1, .int (xV X)), (2, .int (nI (t))), (3, .ref (wo)), (4, .int (x1)), (5, .int (nI (j)))] → W p l e ({ frames := 3, cells := 0, slots := 0, locals := 70 } : Room) s m ([.ref (a), .int (xV X), .int (nI (t)), .ref (wo)] : List Value).toArray below meth c H locs 0 0 (MQ below (mQ A (fun z H => z = some (.int (xV (xTick d clk st sd t qs X false))) ∧ ∃ v' : Nat → Int32, (∀ i, i < 8 → v' i = if hasB (xRW (xTick d clk st sd t qs X false)) i then d i else v0 i) ∧ va_P g.1 vwCl ([(a, .inr (2, [.int (k), .ref (ca), .int (st), .int (sd), .int (nI (tk)), .ref (na), .ref (ra), .int (nI (nr)), .int (bI (xSt (xTick d clk st sd t qs X false))), .int (bI (cnt)), .int (og), .int (ot)])), (na, .inr (1, [.int (rs0 ||| xRS (xTick d clk st sd t qs X false)), .int (rw0 ||| xRW (xTick d clk st sd t qs X false)), .int (bI (s0 || xSd (xTick d clk st sd t qs X false))), .int (bI (c0 || xCk (xTick d clk st sd t qs X false))), .ref (va)])), (va, aI g 8 (v')), (ra, aI g 16 w), (wo, .inr (3, [.ref (wa), .int (clk)])), (wa, aI g 8 d)] ++ xs) H)) (([.ref (a), .int (xV X), .int (nI (t)), .ref (wo)] : List Value).toArray) s 0 0 (A)) (F0 m 6 ls []) := by
    intro n_lp
    induction n_lp with
    | zero =>
      intro j X1 v1 H locs x1 ls hj hn hP hS hv1 hT hx1
      exact absurd hn (by omega)
    | succ n_lp ih_lp =>
      intro j X1 v1 H locs x1 ls hj hn hP hS hv1 hT hx1 hl
      have hD : va_D A ([(a, .inr (2, [.int (k), .ref (ca), .int (st), .int (sd), .int (nI (tk)), .ref (na), .ref (ra), .int (nI (nr)), .int (bI (xSt (X1))), .int (bI (cnt)), .int (og), .int (ot)])), (na, .inr (1, [.int (rs0 ||| xRS (X1)), .int (rw0 ||| xRW (X1)), .int (bI (s0 || xSd (X1))), .int (bI (c0 || xCk (X1))), .ref (va)])), (va, aI g 8 v1), (ra, aI g 16 w), (wo, .inr (3, [.ref (wa), .int (clk)])), (wa, aI g 8 d)] ++ xs) := va_D_addr (ws := [(a, .inr (2, [.int (k), .ref (ca), .int (st), .int (sd), .int (nI (tk)), .ref (na), .ref (ra), .int (nI (nr)), .int (bI (xSt (X))), .int (bI (cnt)), .int (og), .int (ot)])), (na, .inr (1, [.int (rs0 ||| xRS (X)), .int (rw0 ||| xRW (X)), .int (bI (s0 || xSd (X))), .int (bI (c0 || xCk (X))), .ref (va)])), (va, aI g 8 v), (ra, aI g 16 w), (wo, .inr (3, [.ref (wa), .int (clk)])), (wa, aI g 8 d)] ++ xs) rfl hD0
      refine lv_iload hx hb dX2_afterTick_6 (lv_at hl 5 rfl) ?_
      refine lv_aload_n hx hb dX2_afterTick_8 rfl (lv_at hl 0 rfl) ?_
      refine q_get C f_X2_32 (hP) 0 rfl rfl dX2_afterTick_9 ?_
      refine q_get C f_X2_64 ((S_keep hS hC0 (one_n hnC))) 0 rfl rfl dX2_afterTick_12 ?_
      refine n_icmp_ge (tgt := 125) C (by omega) (by omega) dX2_afterTick_15 (by decide) (fun c15 => ?_) (fun c15 => ?_)
      · skip
        refine lv_iload hx hb dX2_afterTick_125 (lv_at hl 4 rfl) ?_
        exact r_wi C hr hlk hS (⟨sv (by rw [hx1, hT, xT_end c15]), v1, by rw [hT, xT_end c15]; exact hv1, by rw [hT, xT_end c15]; exact hP⟩) dX2_afterTick_127
      · skip
        refine lv_aload_n hx hb dX2_afterTick_18 rfl (lv_at hl 0 rfl) ?_
        refine q_get C f_X2_60 (hP) 0 rfl rfl dX2_afterTick_19 ?_
        refine b_ifne (tgt := 125) C dX2_afterTick_22 (by decide) (fun c22 => ?_) (fun c22 => ?_)
        · skip
          refine lv_iload hx hb dX2_afterTick_125 (lv_at hl 4 rfl) ?_
          exact r_wi C hr hlk hS (⟨sv (by rw [hx1, hT, xT_stop _ c22]), v1, by rw [hT, xT_stop _ c22]; exact hv1, by rw [hT, xT_stop _ c22]; exact hP⟩) dX2_afterTick_127
        · skip
          have hqj : qs.getD j 0 < 256 := hq _ (getD_mem c15)
          refine lv_aload_n hx hb dX2_afterTick_25 rfl (lv_at hl 0 rfl) ?_
          refine q_get C f_X2_32 (hP) 0 rfl rfl dX2_afterTick_26 ?_
          refine lv_iload hx hb dX2_afterTick_29 (lv_at hl 5 rfl) ?_
          refine k_i (c_V (As := [.int (nI (j))]) (rest := []) C v_X2_69 (c0_stepAt l g ca j qs hq hq8 c15) ⟨Nat.le_of_ble_eq_true rfl, Nat.le_of_ble_eq_true rfl⟩ (q_recv C (S_keep hS hC0 (one_n hnC)) 0 rfl rfl) ((S_keep hS hC0 (one_n hnC))) hl.1 rfl rfl (Nat.le_of_ble_eq_true rfl) dX2_afterTick_31 ⟨Nat.le_of_ble_eq_true rfl, Nat.le_of_ble_eq_true rfl⟩) (fun r31 q31 => ?_)
          subst q31
          refine lv_istore (lv' := [(6, .int (nI (qs.getD j 0))), (0, .ref (a)), (1, .int (xV X)), (2, .int (nI (t))), (3, .ref (wo)), (4, .int (x1)), (5, .int (nI (j)))]) hx hb dX2_afterTick_34 hl (by decide) rfl (fun ls hl => ?_)
          refine lv_iload hx hb dX2_afterTick_36 (lv_at hl 0 rfl) ?_
          refine lv_iconst (v := 4) hx hb dX2_afterTick_38 (by decide) ?_
          refine lv_ishr hx hb dX2_afterTick_39 ?_
          refine w_topi (y := (nI (qs.getD j 0 / 16))) (pk_shrN (by omega) (4 &&& 31) 4 (by decide)) ?_
          refine lv_istore (lv' := [(7, .int (nI (qs.getD j 0 / 16))), (6, .int (nI (qs.getD j 0))), (0, .ref (a)), (1, .int (xV X)), (2, .int (nI (t))), (3, .ref (wo)), (4, .int (x1)), (5, .int (nI (j)))]) hx hb dX2_afterTick_40 hl (by decide) rfl (fun ls hl => ?_)
          refine lv_iload hx hb dX2_afterTick_42 (lv_at hl 1 rfl) ?_
          refine lv_bipush (v := 15) hx hb dX2_afterTick_44 (by decide) ?_
          refine lv_iand hx hb dX2_afterTick_46 ?_
          refine w_topi (y := (nI (qs.getD j 0 % 16))) (pk_andN (by omega) 4 (by decide)) ?_
          refine lv_istore (lv' := [(8, .int (nI (qs.getD j 0 % 16))), (7, .int (nI (qs.getD j 0 / 16))), (6, .int (nI (qs.getD j 0))), (0, .ref (a)), (1, .int (xV X)), (2, .int (nI (t))), (3, .ref (wo)), (4, .int (x1)), (5, .int (nI (j)))]) hx hb dX2_afterTick_47 hl (by decide) rfl (fun ls hl => ?_)
          refine lv_iload hx hb dX2_afterTick_49 (lv_at hl 1 rfl) ?_
          refine lv_iconst (v := nI 3) hx hb dX2_afterTick_51 (by decide) ?_
          refine n_icmp_ne (tgt := 74) C (by omega) (by omega) dX2_afterTick_52 (by decide) (fun c52 => ?_) (fun c52 => ?_)
          · skip
            refine lv_iload hx hb dX2_afterTick_74 (lv_at hl 1 rfl) ?_
            refine lv_bipush (v := nI 9) hx hb dX2_afterTick_76 (by decide) ?_
            refine n_icmp_ne (tgt := 105) C (by omega) (by omega) dX2_afterTick_78 (by decide) (fun c78 => ?_) (fun c78 => ?_)
            · skip
              subst hx1
              refine lv_aload_n hx hb dX2_afterTick_105 rfl (lv_at hl 3 rfl) ?_
              refine lv_iload hx hb dX2_afterTick_106 (lv_at hl 7 rfl) ?_
              refine lv_iload hx hb dX2_afterTick_108 (lv_at hl 1 rfl) ?_
              refine lv_iload hx hb dX2_afterTick_110 (lv_at hl 0 rfl) ?_
              refine lv_iload_n hx hb dX2_afterTick_112 rfl (lv_at hl 5 rfl) ?_
              refine lv_aload_n hx hb dX2_afterTick_113 rfl (lv_at hl 6 rfl) ?_
              refine k_w (c_V (As := [.int (xV X1), .int (nI (qs.getD j 0 / 16)), .int (nI (qs.getD j 0 % 16)), .int (nI (t)), .ref (wo)]) (rest := []) C v_X2_79 (c2_afterStep l g a ca na va ra wo wa k st sd og ot clk cnt tk d xs A nr rs0 rw0 s0 c0 v0 v1 w X1 hv1 t (qs.getD j 0) hqj ht c52 c78 hD) ⟨Nat.le_of_ble_eq_true rfl, Nat.le_of_ble_eq_true rfl⟩ (q_recv C hP 0 rfl rfl) (hP) hl.1 rfl rfl (Nat.le_of_ble_eq_true rfl) dX2_afterTick_114 ⟨Nat.le_of_ble_eq_true rfl, Nat.le_of_ble_eq_true rfl⟩) hS (fun _ hq => hq) (fun r114 H1 locs q114 hz114 hk114 hS => ?_)
              obtain ⟨rfl, v2, hv2, hP⟩ := q114
              refine W.eq (g2 := F0 m 117 ls [.int (xV (xStep d clk st sd t (qs.getD j 0) X1))]) rfl ?_
              refine lv_istore (lv' := [(4, .int (xV (xStep d clk st sd t (qs.getD j 0) X1))), (8, .int (nI (qs.getD j 0 % 16))), (7, .int (nI (qs.getD j 0 / 16))), (6, .int (nI (qs.getD j 0))), (0, .ref (a)), (1, .int (xV X)), (2, .int (nI (t))), (3, .ref (wo)), (5, .int (nI (j)))]) hx hb dX2_afterTick_117 hl (by decide) rfl (fun ls hl => ?_)
              refine n_iinc (d := 1) (lv' := [(5, .int (nI (j + 1))), (4, .int (xV (xStep d clk st sd t (qs.getD j 0) X1))), (8, .int (nI (qs.getD j 0 % 16))), (7, .int (nI (qs.getD j 0 / 16))), (6, .int (nI (qs.getD j 0))), (0, .ref (a)), (1, .int (xV X)), (2, .int (nI (t))), (3, .ref (wo))]) C dX2_afterTick_119 (by decide) hl (k := 8) rfl (by decide) rfl (fun ls hl => ?_)
              refine lv_goto (tgt := 6) hx hb dX2_afterTick_122 (by decide) ?_
              exact ih_lp (j + 1) (xStep d clk st sd t (qs.getD j 0) X1) (v2) (H1) (locs) (xV (xStep d clk st sd t (qs.getD j 0) X1)) ls (by omega) (by omega) (hP) (hS) (hv2) (by rw [hT, xT_step c15 c22, xk_n c52]) (rfl) (lv_sub hl [5, 6, 7, 8, 1, 0] rfl)
            · skip
              subst hx1
              refine lv_aload_n hx hb dX2_afterTick_81 rfl (lv_at hl 3 rfl) ?_
              refine lv_iload hx hb dX2_afterTick_82 (lv_at hl 7 rfl) ?_
              refine lv_iload hx hb dX2_afterTick_84 (lv_at hl 0 rfl) ?_
              refine lv_iconst (v := nI 1) hx hb dX2_afterTick_86 (by decide) ?_
              refine n_iadd C dX2_afterTick_87 ?_
              refine k_i (c_SN (As := [.int (xV X1), .int (nI ((qs.getD j 0 % 16) + 1))]) (rest := [.ref (a)]) C v_X2_75 (inr_8 _ (List.mem_of_getElem? (i := 11) rfl)) (c4_remainder l g ((xV X1)) ((nI ((qs.getD j 0 % 16) + 1))) (nI_ne0 (by omega) (by omega))) ⟨Nat.le_of_ble_eq_true rfl, Nat.le_of_ble_eq_true rfl⟩ (trivial) hl.1 rfl rfl (Nat.le_of_ble_eq_true rfl) dX2_afterTick_88 ⟨Nat.le_of_ble_eq_true rfl, Nat.le_of_ble_eq_true rfl⟩) (fun r88 q88 => ?_)
              subst q88
              refine lv_if_ne (tgt := 98) hx hb dX2_afterTick_91 (by decide) (fun c91 => ?_) (fun c91 => ?_)
              · skip
                refine lv_iconst (v := bI false) hx hb dX2_afterTick_98 (by decide) ?_
                refine q_put C fp_X2_60 hP hD hS 0 rfl (fits01 (by first | exact Or.inl rfl | exact Or.inr rfl | exact bI_or _)).1 (fits01 (by first | exact Or.inl rfl | exact Or.inr rfl | exact bI_or _)).2.1 (Nat.le_of_ble_eq_true rfl) dX2_afterTick_99 (fun H locs hP hD hS => ?_)
                have hP : va_P g.1 vwCl ([(a, .inr (2, [.int (k), .ref (ca), .int (st), .int (sd), .int (nI (tk)), .ref (na), .ref (ra), .int (nI (nr)), .int (bI (false)), .int (bI (cnt)), .int (og), .int (ot)])), (na, .inr (1, [.int (rs0 ||| xRS (X1)), .int (rw0 ||| xRW (X1)), .int (bI (s0 || xSd (X1))), .int (bI (c0 || xCk (X1))), .ref (va)])), (va, aI g 8 v1), (ra, aI g 16 w), (wo, .inr (3, [.ref (wa), .int (clk)])), (wa, aI g 8 d)] ++ xs) H := hP
                have hD : va_D A ([(a, .inr (2, [.int (k), .ref (ca), .int (st), .int (sd), .int (nI (tk)), .ref (na), .ref (ra), .int (nI (nr)), .int (bI (false)), .int (bI (cnt)), .int (og), .int (ot)])), (na, .inr (1, [.int (rs0 ||| xRS (X1)), .int (rw0 ||| xRW (X1)), .int (bI (s0 || xSd (X1))), .int (bI (c0 || xCk (X1))), .ref (va)])), (va, aI g 8 v1), (ra, aI g 16 w), (wo, .inr (3, [.ref (wa), .int (clk)])), (wa, aI g 8 d)] ++ xs) := hD
                refine lv_goto (tgt := 119) hx hb dX2_afterTick_102 (by decide) ?_
                refine n_iinc (d := 1) (lv' := [(5, .int (nI (j + 1))), (8, .int (nI (qs.getD j 0 % 16))), (7, .int (nI (qs.getD j 0 / 16))), (6, .int (nI (qs.getD j 0))), (0, .ref (a)), (1, .int (xV X)), (2, .int (nI (t))), (3, .ref (wo)), (4, .int (xV X1))]) C dX2_afterTick_119 (by decide) hl (k := 8) rfl (by decide) rfl (fun ls hl => ?_)
                refine lv_goto (tgt := 6) hx hb dX2_afterTick_122 (by decide) ?_
                exact ih_lp (j + 1) (xStep d clk st sd t (qs.getD j 0) X1) (v1) (H) (locs) (xV X1) ls (by omega) (by omega) (by rw [xs_9 c78]; simp only [xRS, xRW, xSd, xCk, xSt]; rw [decide_eq_false (show ¬ jrem (xV X1) (nI (qs.getD j 0 % 16 + 1)) = 0 from c91)]; exact hP) (hS) (by rw [xs_9 c78]; exact hv1) (by rw [hT, xT_step c15 c22, xk_n c52]) (by rw [xs_9 c78]; rfl) (lv_sub hl [4, 5, 6, 7, 8, 0] rfl)
              · skip
                refine lv_iconst (v := bI true) hx hb dX2_afterTick_94 (by decide) ?_
                refine lv_goto (tgt := 99) hx hb dX2_afterTick_95 (by decide) ?_
                refine q_put C fp_X2_60 hP hD hS 0 rfl (fits01 (by first | exact Or.inl rfl | exact Or.inr rfl | exact bI_or _)).1 (fits01 (by first | exact Or.inl rfl | exact Or.inr rfl | exact bI_or _)).2.1 (Nat.le_of_ble_eq_true rfl) dX2_afterTick_99 (fun H locs hP hD hS => ?_)
                have hP : va_P g.1 vwCl ([(a, .inr (2, [.int (k), .ref (ca), .int (st), .int (sd), .int (nI (tk)), .ref (na), .ref (ra), .int (nI (nr)), .int (bI (true)), .int (bI (cnt)), .int (og), .int (ot)])), (na, .inr (1, [.int (rs0 ||| xRS (X1)), .int (rw0 ||| xRW (X1)), .int (bI (s0 || xSd (X1))), .int (bI (c0 || xCk (X1))), .ref (va)])), (va, aI g 8 v1), (ra, aI g 16 w), (wo, .inr (3, [.ref (wa), .int (clk)])), (wa, aI g 8 d)] ++ xs) H := hP
                have hD : va_D A ([(a, .inr (2, [.int (k), .ref (ca), .int (st), .int (sd), .int (nI (tk)), .ref (na), .ref (ra), .int (nI (nr)), .int (bI (true)), .int (bI (cnt)), .int (og), .int (ot)])), (na, .inr (1, [.int (rs0 ||| xRS (X1)), .int (rw0 ||| xRW (X1)), .int (bI (s0 || xSd (X1))), .int (bI (c0 || xCk (X1))), .ref (va)])), (va, aI g 8 v1), (ra, aI g 16 w), (wo, .inr (3, [.ref (wa), .int (clk)])), (wa, aI g 8 d)] ++ xs) := hD
                refine lv_goto (tgt := 119) hx hb dX2_afterTick_102 (by decide) ?_
                refine n_iinc (d := 1) (lv' := [(5, .int (nI (j + 1))), (8, .int (nI (qs.getD j 0 % 16))), (7, .int (nI (qs.getD j 0 / 16))), (6, .int (nI (qs.getD j 0))), (0, .ref (a)), (1, .int (xV X)), (2, .int (nI (t))), (3, .ref (wo)), (4, .int (xV X1))]) C dX2_afterTick_119 (by decide) hl (k := 8) rfl (by decide) rfl (fun ls hl => ?_)
                refine lv_goto (tgt := 6) hx hb dX2_afterTick_122 (by decide) ?_
                exact ih_lp (j + 1) (xStep d clk st sd t (qs.getD j 0) X1) (v1) (H) (locs) (xV X1) ls (by omega) (by omega) (by rw [xs_9 c78]; simp only [xRS, xRW, xSd, xCk, xSt]; rw [decide_eq_true (show jrem (xV X1) (nI (qs.getD j 0 % 16 + 1)) = 0 from c91)]; exact hP) (hS) (by rw [xs_9 c78]; exact hv1) (by rw [hT, xT_step c15 c22, xk_n c52]) (by rw [xs_9 c78]; rfl) (lv_sub hl [4, 5, 6, 7, 8, 0] rfl)
          · skip
            refine lv_aload_n hx hb dX2_afterTick_55 rfl (lv_at hl 3 rfl) ?_
            refine lv_iload hx hb dX2_afterTick_56 (lv_at hl 0 rfl) ?_
            refine k_w (c_V (As := [.int (nI (qs.getD j 0 % 16))]) (rest := []) C v_X2_72 (c2_readSetting l g a ca na va ra wo wa k st sd og ot clk cnt tk d xs A nr (xSt X1) (rs0 ||| xRS X1) (rw0 ||| xRW X1) (s0 || xSd X1) (c0 || xCk X1) v1 w (qs.getD j 0 % 16) (by omega) hD) ⟨Nat.le_of_ble_eq_true rfl, Nat.le_of_ble_eq_true rfl⟩ (q_recv C hP 0 rfl rfl) (hP) hl.1 rfl rfl (Nat.le_of_ble_eq_true rfl) dX2_afterTick_58 ⟨Nat.le_of_ble_eq_true rfl, Nat.le_of_ble_eq_true rfl⟩) hS (fun _ hq => hq) (fun r58 H1 locs q58 hz58 hk58 hS => ?_)
            obtain ⟨rfl, hP⟩ := q58
            refine W.eq (g2 := F0 m 61 ls [.int (sett st (qs.getD j 0 % 16 % 4))]) rfl ?_
            refine lv_iload hx hb dX2_afterTick_61 (lv_at hl 0 rfl) ?_
            refine lv_iconst (v := nI 4) hx hb dX2_afterTick_63 (by decide) ?_
            refine n_idiv C (by omega) (by omega) (by omega) dX2_afterTick_64 ?_
            refine lv_icmp_le (tgt := 119) hx hb dX2_afterTick_65 (by decide) (fun c65 => ?_) (fun c65 => ?_)
            · skip
              refine n_iinc (d := 1) (lv' := [(5, .int (nI (j + 1))), (8, .int (nI (qs.getD j 0 % 16))), (7, .int (nI (qs.getD j 0 / 16))), (6, .int (nI (qs.getD j 0))), (0, .ref (a)), (1, .int (xV X)), (2, .int (nI (t))), (3, .ref (wo)), (4, .int (x1))]) C dX2_afterTick_119 (by decide) hl (k := 8) rfl (by decide) rfl (fun ls hl => ?_)
              refine lv_goto (tgt := 6) hx hb dX2_afterTick_122 (by decide) ?_
              exact ih_lp (j + 1) (xStep d clk st sd t (qs.getD j 0) X1) (v1) (H1) (locs) (x1) ls (by omega) (by omega) (by rw [xs_3 c52]; simp only [xRS, xRW, xSd, xCk, xSt]; rw [← or_as]; exact hP) (hS) (by rw [xs_3 c52]; exact hv1) (by rw [hT, xT_step c15 c22, xk_3 c52, decide_eq_false (fun hz => (fa_of_lt hz).2.1 c65)]) (by rw [hx1, xs_3 c52]; rfl) (lv_sub hl [4, 5, 6, 7, 8, 0] rfl)
            · skip
              refine n_iinc (d := 1) (lv' := [(5, .int (nI (j + 1))), (8, .int (nI (qs.getD j 0 % 16))), (7, .int (nI (qs.getD j 0 / 16))), (6, .int (nI (qs.getD j 0))), (0, .ref (a)), (1, .int (xV X)), (2, .int (nI (t))), (3, .ref (wo)), (4, .int (x1))]) C dX2_afterTick_68 (by decide) hl (k := 8) rfl (by decide) rfl (fun ls hl => ?_)
              refine lv_goto (tgt := 119) hx hb dX2_afterTick_71 (by decide) ?_
              refine n_iinc (d := 1) (lv' := [(5, .int (nI (j + 1 + 1))), (8, .int (nI (qs.getD j 0 % 16))), (7, .int (nI (qs.getD j 0 / 16))), (6, .int (nI (qs.getD j 0))), (0, .ref (a)), (1, .int (xV X)), (2, .int (nI (t))), (3, .ref (wo)), (4, .int (x1))]) C dX2_afterTick_119 (by decide) hl (k := 0) rfl (by decide) rfl (fun ls hl => ?_)
              refine lv_goto (tgt := 6) hx hb dX2_afterTick_122 (by decide) ?_
              exact ih_lp (j + 1 + 1) (xStep d clk st sd t (qs.getD j 0) X1) (v1) (H1) (locs) (x1) ls (by omega) (by omega) (by rw [xs_3 c52]; simp only [xRS, xRW, xSd, xCk, xSt]; rw [← or_as]; exact hP) (hS) (by rw [xs_3 c52]; exact hv1) (by rw [hT, xT_step c15 c22, xk_3 c52, decide_eq_true (fa_of_nle c65), xT_two]) (by rw [hx1, xs_3 c52]; rfl) (lv_sub hl [4, 5, 6, 7, 8, 0] rfl)
  exact lp (qs.length + 2) (0) (X) (v) (s.heap) ([]) (xV X) ls (by omega) (by omega) (hP) (hS) (hv) (rfl) (rfl) (lv_sub hl [2, 3, 4, 5, 1, 0] rfl)
theorem rowsUpd {w : Nat → Int32} {rows : List Int32} {t : Nat} {x : Int32} (hlen : rows.length = t) (hw : ∀ j, j < rows.length → w j = rows.getD j 0) : ∀ j, j < (rows ++ [x]).length → upd w t x j = (rows ++ [x]).getD j 0 := by
  intro j h2
  rw [List.length_append, List.length_singleton] at h2
  rcases Nat.lt_or_ge j rows.length with h | h
  · rw [pk_un (by omega), hw j h, List.getD_eq_getElem?_getD, List.getD_eq_getElem?_getD, List.getElem?_append_left h]
  · have e : j = rows.length := by omega
    subst e
    rw [← hlen, pk_us, List.getD_eq_getElem?_getD, List.getElem?_append_right (Nat.le_refl _)]
    simp
set_option maxHeartbeats 4000000 in
set_option maxRecDepth 100000 in
theorem c2_doTicks (l : Launch) (g : GG) (a ca na va ra wo wa : Nat) (k st sd og ot clk : Int32) (cnt : Bool) (tk : Nat) (d : Nat → Int32) (xs : va_W) (A : Nat → Prop) (kk : Nat) (hkk : k = nI kk) (qs : List Nat) (hnC : ¬ A ca) (rs0 rw0 : Int32) (s0 c0 : Bool) (v0 w0 : Nat → Int32) (rows0 : List Int32) (hq : ∀ q ∈ qs, q < 256) (hq8 : qs.length ≤ 8) (hr0 : rows0.length ≤ tk) (htk : tk ≤ 16) (hw0 : ∀ j, j < rows0.length → w0 j = rows0.getD j 0) (hD : va_D A ([(a, .inr (2, [.int (k), .ref (ca), .int (st), .int (sd), .int (nI (tk)), .ref (na), .ref (ra), .int (nI (rows0.length)), .int (bI (false)), .int (bI (cnt)), .int (og), .int (ot)])), (na, .inr (1, [.int (rs0), .int (rw0), .int (bI (s0)), .int (bI (c0)), .ref (va)])), (va, aI g 8 v0), (ra, aI g 16 w0), (wo, .inr (3, [.ref (wa), .int (clk)])), (wa, aI g 8 d)] ++ xs)) : Met l yX2_doTicks (.code yX2_doTicks cX2_doTicks 4 none :: wsL_law) ({ frames := 4, cells := 0, slots := 0, locals := 98 } : Room) (mP g [.ref (a), .ref (wo)] (fun H => va_P g.1 vwCl ([(a, .inr (2, [.int (k), .ref (ca), .int (st), .int (sd), .int (nI (tk)), .ref (na), .ref (ra), .int (nI (rows0.length)), .int (bI (false)), .int (bI (cnt)), .int (og), .int (ot)])), (na, .inr (1, [.int (rs0), .int (rw0), .int (bI (s0)), .int (bI (c0)), .ref (va)])), (va, aI g 8 v0), (ra, aI g 16 w0), (wo, .inr (3, [.ref (wa), .int (clk)])), (wa, aI g 8 d)] ++ xs) H ∧ va_P g.1 vwCl [(ca, .inr (0, [.int (nI ((qs).length)), .long (lN (packN (qs)))]))] H)) (mQ A (fun z H => z = none ∧ ∃ v' w' : Nat → Int32, (∀ i, i < 8 → v' i = if hasB (xRW ((xRun d clk st sd qs tk rows0).1)) i then d i else v0 i) ∧ (∀ j, j < ((xRun d clk st sd qs tk rows0).2).length → w' j = ((xRun d clk st sd qs tk rows0).2).getD j 0) ∧ va_P g.1 vwCl ([(a, .inr (2, [.int (k), .ref (ca), .int (st), .int (sd), .int (nI (tk)), .ref (na), .ref (ra), .int (nI (((xRun d clk st sd qs tk rows0).2).length)), .int (bI (xSt (((xRun d clk st sd qs tk rows0).1)))), .int (bI (cnt)), .int (og), .int (ot)])), (na, .inr (1, [.int (rs0 ||| xRS (((xRun d clk st sd qs tk rows0).1))), .int (rw0 ||| xRW (((xRun d clk st sd qs tk rows0).1))), .int (bI (s0 || xSd (((xRun d clk st sd qs tk rows0).1)))), .int (bI (c0 || xCk (((xRun d clk st sd qs tk rows0).1)))), .ref (va)])), (va, aI g 8 (v')), (ra, aI g 16 (w')), (wo, .inr (3, [.ref (wa), .int (clk)])), (wa, aI g 8 d)] ++ xs) H)) 0 0 (A) := by
  refine mMet (by decide) (Nat.le_of_ble_eq_true rfl) ?_
  intro p e s m below meth c C hr hlk hnm hP ls hl
  have hx := C.1.1
  have hb := C.1.2.1
  have hl : lv_has ls 4 [(0, .ref (a)), (1, .ref (wo))] := hl
  have hS : va_S A s.heap s.heap [] := va_S.rf
  obtain ⟨hP, hC0⟩ := hP
  have hD0 := hD
  obtain ⟨Z, hZ⟩ : ∃ Z : XS × List Int32, Z = xRun d clk st sd qs tk rows0 := ⟨_, rfl⟩
  have hZ0 := hZ
  refine lv_aload_n hx hb dX2_doTicks_0 rfl (lv_at hl 0 rfl) ?_
  refine k_i (c_V (As := []) (rest := []) C v_X2_52 (c2_lastRow l g a (((kk, qs), (st, sd, tk), (rows0, false), (og, ot), (rs0, rw0, s0, c0, v0)) : RunT) cnt (by show rows0.length ≤ 16; omega)) ⟨Nat.le_of_ble_eq_true rfl, Nat.le_of_ble_eq_true rfl⟩ (q_recv C hP 0 rfl rfl) (⟨ca, na, va, ra, v0, w0, ⟨fun _ _ _ => rfl, hw0⟩, by have hP9 : va_P g.1 vwCl [(a, .inr (2, [.int (k), .ref (ca), .int (st), .int (sd), .int (nI (tk)), .ref (na), .ref (ra), .int (nI (rows0.length)), .int (bI (false)), .int (bI (cnt)), .int (og), .int (ot)])), (ca, .inr (0, [.int (nI ((qs).length)), .long (lN (packN (qs)))])), (na, .inr (1, [.int (rs0), .int (rw0), .int (bI (s0)), .int (bI (c0)), .ref (va)])), (va, aI g 8 v0), (ra, aI g 16 w0)] s.heap := ((hP.l.sub [0] rfl).app (w2 := [(ca, .inr (0, [.int (nI ((qs).length)), .long (lN (packN (qs)))]))]) hC0).app (w2 := [(na, .inr (1, [.int (rs0), .int (rw0), .int (bI (s0)), .int (bI (c0)), .ref (va)])), (va, aI g 8 v0), (ra, aI g 16 w0)]) (hP.l.sub [1, 2, 3] rfl); rw [hkk] at hP9; exact hP9⟩) hl.1 rfl rfl (Nat.le_of_ble_eq_true rfl) dX2_doTicks_1 ⟨Nat.le_of_ble_eq_true rfl, Nat.le_of_ble_eq_true rfl⟩) (fun r1 q1 => ?_)
  subst q1
  refine lv_istore_n (lv' := [(2, .int (lastR rows0)), (0, .ref (a)), (1, .ref (wo))]) hx hb dX2_doTicks_4 rfl hl (by decide) rfl (fun ls hl => ?_)
  refine lv_aload_n hx hb dX2_doTicks_5 rfl (lv_at hl 1 rfl) ?_
  refine q_get C f_X2_49 (hP) 0 rfl rfl dX2_doTicks_6 ?_
  refine lv_istore_n (lv' := [(3, .int (nI (rows0.length))), (2, .int (lastR rows0)), (0, .ref (a)), (1, .ref (wo))]) hx hb dX2_doTicks_9 rfl hl (by decide) rfl (fun ls hl => ?_)
  have lp : ∀ (n_lp : Nat) (t : Nat) (X : XS) (rows : List Int32) (v1 w1 : Nat → Int32) (H : Heap) (locs : List Loc) (x1 : Int32) (ls : Array Slot), (t ≤ tk) → (tk + 1 ≤ t + n_lp) → (va_P g.1 vwCl ([(a, .inr (2, [.int (k), .ref (ca), .int (st), .int (sd), .int (nI (tk)), .ref (na), .ref (ra), .int (nI (t)), .int (bI (xSt (X))), .int (bI (cnt)), .int (og), .int (ot)])), (na, .inr (1, [.int (rs0 ||| xRS (X)), .int (rw0 ||| xRW (X)), .int (bI (s0 || xSd (X))), .int (bI (c0 || xCk (X))), .ref (va)])), (va, aI g 8 v1), (ra, aI g 16 w1), (wo, .inr (3, [.ref (wa), .int (clk)])), (wa, aI g 8 d)] ++ xs) H) → (va_S A s.heap H locs) → (∀ i, i < 8 → v1 i = if hasB (xRW X) i then d i else v0 i) → (∀ j, j < rows.length → w1 j = rows.getD j 0) → (rows.length = t) → (xSt X = false) → (Z = xGo d clk st sd qs (tk - t) t X rows) → (x1 = xV X) → lv_has ls 4 [(0, .ref (a)), (1, .ref (wo)), (2, .int (x1)), (3, .int (nI (t)))] → W p l e ({ frames := 4, cells := 0, slots := 0, locals := 98 } : Room) s m ([.ref (a), .ref (wo)] : List Value).toArray below meth c H locs 0 0 (MQ below (mQ A (fun z H => z = none ∧ ∃ v' w' : Nat → Int32, (∀ i, i < 8 → v' i = if hasB (xRW ((xRun d clk st sd qs tk rows0).1)) i then d i else v0 i) ∧ (∀ j, j < ((xRun d clk st sd qs tk rows0).2).length → w' j = ((xRun d clk st sd qs tk rows0).2).getD j 0) ∧ va_P g.1 vwCl ([(a, .inr (2, [.int (k), .ref (ca), .int (st), .int (sd), .int (nI (tk)), .ref (na), .ref (ra), .int (nI (((xRun d clk st sd qs tk rows0).2).length)), .int (bI (xSt (((xRun d clk st sd qs tk rows0).1)))), .int (bI (cnt)), .int (og), .int (ot)])), (na, .inr (1, [.int (rs0 ||| xRS (((xRun d clk st sd qs tk rows0).1))), .int (rw0 ||| xRW (((xRun d clk st sd qs tk rows0).1))), .int (bI (s0 || xSd (((xRun d clk st sd qs tk rows0).1)))), .int (bI (c0 || xCk (((xRun d clk st sd qs tk rows0).1)))), .ref (va)])), (va, aI g 8 (v')), (ra, aI g 16 (w')), (wo, .inr (3, [.ref (wa), .int (clk)])), (wa, aI g 8 d)] ++ xs) H)) (([.ref (a), .ref (wo)] : List Value).toArray) s 0 0 (A)) (F0 m 10 ls []) := by
    intro n_lp
    induction n_lp with
    | zero =>
      intro t X rows v1 w1 H locs x1 ls ht hn hP hS hv1 hw1 hlr hst hZ hx1
      exact absurd hn (by omega)
    | succ n_lp ih_lp =>
      intro t X rows v1 w1 H locs x1 ls ht hn hP hS hv1 hw1 hlr hst hZ hx1 hl
      have hD : va_D A ([(a, .inr (2, [.int (k), .ref (ca), .int (st), .int (sd), .int (nI (tk)), .ref (na), .ref (ra), .int (nI (t)), .int (bI (xSt (X))), .int (bI (cnt)), .int (og), .int (ot)])), (na, .inr (1, [.int (rs0 ||| xRS (X)), .int (rw0 ||| xRW (X)), .int (bI (s0 || xSd (X))), .int (bI (c0 || xCk (X))), .ref (va)])), (va, aI g 8 v1), (ra, aI g 16 w1), (wo, .inr (3, [.ref (wa), .int (clk)])), (wa, aI g 8 d)] ++ xs) := va_D_addr (ws := [(a, .inr (2, [.int (k), .ref (ca), .int (st), .int (sd), .int (nI (tk)), .ref (na), .ref (ra), .int (nI (rows0.length)), .int (bI (false)), .int (bI (cnt)), .int (og), .int (ot)])), (na, .inr (1, [.int (rs0), .int (rw0), .int (bI (s0)), .int (bI (c0)), .ref (va)])), (va, aI g 8 v0), (ra, aI g 16 w0), (wo, .inr (3, [.ref (wa), .int (clk)])), (wa, aI g 8 d)] ++ xs) rfl hD0
      refine lv_iload_n hx hb dX2_doTicks_10 rfl (lv_at hl 3 rfl) ?_
      refine lv_aload_n hx hb dX2_doTicks_11 rfl (lv_at hl 0 rfl) ?_
      refine q_get C f_X2_42 (hP) 0 rfl rfl dX2_doTicks_12 ?_
      refine n_icmp_ge (tgt := 63) C (by omega) (by omega) dX2_doTicks_15 (by decide) (fun c15 => ?_) (fun c15 => ?_)
      · skip
        exact r_wv C hr hlk hS (⟨rfl, v1, w1, by rw [← hZ0, hZ, show tk - t = 0 by omega]; exact hv1, by rw [← hZ0, hZ, show tk - t = 0 by omega]; exact hw1, by rw [← hZ0, hZ, show tk - t = 0 by omega]; show va_P _ _ _ _; simp only [xGo]; rw [hlr]; exact hP⟩) dX2_doTicks_63
      · skip
        refine lv_iload_n hx hb dX2_doTicks_18 rfl (lv_at hl 3 rfl) ?_
        refine lv_aload_n hx hb dX2_doTicks_19 rfl (lv_at hl 0 rfl) ?_
        refine q_get C f_X2_18 (hP) 0 rfl rfl dX2_doTicks_20 ?_
        refine va_alen (v := nI 16) hx hb C.2.1 (hP) 3 0 rfl rfl rfl dX2_doTicks_23 ?_
        refine n_icmp_ge (tgt := 63) C (by omega) (by omega) dX2_doTicks_24 (by decide) (fun c24 => by exfalso; omega) (fun c24 => ?_)
        subst hx1
        refine lv_aload_n hx hb dX2_doTicks_27 rfl (lv_at hl 0 rfl) ?_
        refine lv_iload_n hx hb dX2_doTicks_28 rfl (lv_at hl 2 rfl) ?_
        refine lv_iload_n hx hb dX2_doTicks_29 rfl (lv_at hl 3 rfl) ?_
        refine lv_aload_n hx hb dX2_doTicks_30 rfl (lv_at hl 1 rfl) ?_
        refine k_w (c_V (As := [.int (xV X), .int (nI (t)), .ref (wo)]) (rest := []) C v_X2_56 (c2_afterTick l g a ca na va ra wo wa k st sd og ot clk cnt tk d xs A t rs0 rw0 s0 c0 v0 v1 w1 X hv1 t qs hnC hq hq8 (by omega) hD) ⟨Nat.le_of_ble_eq_true rfl, Nat.le_of_ble_eq_true rfl⟩ (q_recv C hP 0 rfl rfl) (⟨hP, (S_keep hS hC0 (one_n hnC))⟩) hl.1 rfl rfl (Nat.le_of_ble_eq_true rfl) dX2_doTicks_31 ⟨Nat.le_of_ble_eq_true rfl, Nat.le_of_ble_eq_true rfl⟩) hS (fun _ hq => hq) (fun r31 H1 locs q31 hz31 hk31 hS => ?_)
        obtain ⟨rfl, v2, hv2, hP⟩ := q31
        refine W.eq (g2 := F0 m 34 ls [.int (xV (xTick d clk st sd t qs X false))]) rfl ?_
        have hD : va_D A ([(a, .inr (2, [.int (k), .ref (ca), .int (st), .int (sd), .int (nI (tk)), .ref (na), .ref (ra), .int (nI (t)), .int (bI (xSt (xTick d clk st sd t qs X false))), .int (bI (cnt)), .int (og), .int (ot)])), (na, .inr (1, [.int (rs0 ||| xRS (xTick d clk st sd t qs X false)), .int (rw0 ||| xRW (xTick d clk st sd t qs X false)), .int (bI (s0 || xSd (xTick d clk st sd t qs X false))), .int (bI (c0 || xCk (xTick d clk st sd t qs X false))), .ref (va)])), (va, aI g 8 v2), (ra, aI g 16 w1), (wo, .inr (3, [.ref (wa), .int (clk)])), (wa, aI g 8 d)] ++ xs) := va_D_addr (ws := [(a, .inr (2, [.int (k), .ref (ca), .int (st), .int (sd), .int (nI (tk)), .ref (na), .ref (ra), .int (nI (rows0.length)), .int (bI (false)), .int (bI (cnt)), .int (og), .int (ot)])), (na, .inr (1, [.int (rs0), .int (rw0), .int (bI (s0)), .int (bI (c0)), .ref (va)])), (va, aI g 8 v0), (ra, aI g 16 w0), (wo, .inr (3, [.ref (wa), .int (clk)])), (wa, aI g 8 d)] ++ xs) rfl hD0
        refine lv_istore_n (lv' := [(2, .int (xV (xTick d clk st sd t qs X false))), (0, .ref (a)), (1, .ref (wo)), (3, .int (nI (t)))]) hx hb dX2_doTicks_34 rfl hl (by decide) rfl (fun ls hl => ?_)
        refine lv_aload_n hx hb dX2_doTicks_35 rfl (lv_at hl 1 rfl) ?_
        refine q_get C f_X2_60 (hP) 0 rfl rfl dX2_doTicks_36 ?_
        refine b_ifeq (tgt := 43) C dX2_doTicks_39 (by decide) (fun c39 => ?_) (fun c39 => ?_)
        · skip
          refine lv_aload_n hx hb dX2_doTicks_43 rfl (lv_at hl 1 rfl) ?_
          refine q_get C f_X2_18 (hP) 0 rfl rfl dX2_doTicks_44 ?_
          refine lv_iload_n hx hb dX2_doTicks_47 rfl (lv_at hl 3 rfl) ?_
          refine lv_iload_n hx hb dX2_doTicks_48 rfl (lv_at hl 0 rfl) ?_
          refine n_iast C hP hD hS 3 rfl (by omega) (by decide) dX2_doTicks_49 (fun H locs hP hD hS => ?_)
          have hP : va_P g.1 vwCl ([(a, .inr (2, [.int (k), .ref (ca), .int (st), .int (sd), .int (nI (tk)), .ref (na), .ref (ra), .int (nI (t)), .int (bI (xSt (xTick d clk st sd t qs X false))), .int (bI (cnt)), .int (og), .int (ot)])), (na, .inr (1, [.int (rs0 ||| xRS (xTick d clk st sd t qs X false)), .int (rw0 ||| xRW (xTick d clk st sd t qs X false)), .int (bI (s0 || xSd (xTick d clk st sd t qs X false))), .int (bI (c0 || xCk (xTick d clk st sd t qs X false))), .ref (va)])), (va, aI g 8 v2), (ra, aI g 16 (upd w1 t (xV (xTick d clk st sd t qs X false)))), (wo, .inr (3, [.ref (wa), .int (clk)])), (wa, aI g 8 d)] ++ xs) H := hP
          have hD : va_D A ([(a, .inr (2, [.int (k), .ref (ca), .int (st), .int (sd), .int (nI (tk)), .ref (na), .ref (ra), .int (nI (t)), .int (bI (xSt (xTick d clk st sd t qs X false))), .int (bI (cnt)), .int (og), .int (ot)])), (na, .inr (1, [.int (rs0 ||| xRS (xTick d clk st sd t qs X false)), .int (rw0 ||| xRW (xTick d clk st sd t qs X false)), .int (bI (s0 || xSd (xTick d clk st sd t qs X false))), .int (bI (c0 || xCk (xTick d clk st sd t qs X false))), .ref (va)])), (va, aI g 8 v2), (ra, aI g 16 (upd w1 t (xV (xTick d clk st sd t qs X false)))), (wo, .inr (3, [.ref (wa), .int (clk)])), (wa, aI g 8 d)] ++ xs) := hD
          refine lv_aload_n hx hb dX2_doTicks_50 rfl (lv_at hl 1 rfl) ?_
          refine lv_iload_n hx hb dX2_doTicks_51 rfl (lv_at hl 3 rfl) ?_
          refine lv_iconst (v := nI 1) hx hb dX2_doTicks_52 (by decide) ?_
          refine n_iadd C dX2_doTicks_53 ?_
          refine q_put C fp_X2_49 hP hD hS 0 rfl rfl rfl (Nat.le_of_ble_eq_true rfl) dX2_doTicks_54 (fun H locs hP hD hS => ?_)
          have hP : va_P g.1 vwCl ([(a, .inr (2, [.int (k), .ref (ca), .int (st), .int (sd), .int (nI (tk)), .ref (na), .ref (ra), .int (nI (t + 1)), .int (bI (xSt (xTick d clk st sd t qs X false))), .int (bI (cnt)), .int (og), .int (ot)])), (na, .inr (1, [.int (rs0 ||| xRS (xTick d clk st sd t qs X false)), .int (rw0 ||| xRW (xTick d clk st sd t qs X false)), .int (bI (s0 || xSd (xTick d clk st sd t qs X false))), .int (bI (c0 || xCk (xTick d clk st sd t qs X false))), .ref (va)])), (va, aI g 8 v2), (ra, aI g 16 (upd w1 t (xV (xTick d clk st sd t qs X false)))), (wo, .inr (3, [.ref (wa), .int (clk)])), (wa, aI g 8 d)] ++ xs) H := hP
          have hD : va_D A ([(a, .inr (2, [.int (k), .ref (ca), .int (st), .int (sd), .int (nI (tk)), .ref (na), .ref (ra), .int (nI (t + 1)), .int (bI (xSt (xTick d clk st sd t qs X false))), .int (bI (cnt)), .int (og), .int (ot)])), (na, .inr (1, [.int (rs0 ||| xRS (xTick d clk st sd t qs X false)), .int (rw0 ||| xRW (xTick d clk st sd t qs X false)), .int (bI (s0 || xSd (xTick d clk st sd t qs X false))), .int (bI (c0 || xCk (xTick d clk st sd t qs X false))), .ref (va)])), (va, aI g 8 v2), (ra, aI g 16 (upd w1 t (xV (xTick d clk st sd t qs X false)))), (wo, .inr (3, [.ref (wa), .int (clk)])), (wa, aI g 8 d)] ++ xs) := hD
          refine n_iinc (d := 1) (lv' := [(3, .int (nI (t + 1))), (2, .int (xV (xTick d clk st sd t qs X false))), (0, .ref (a)), (1, .ref (wo))]) C dX2_doTicks_57 (by decide) hl (k := 3) rfl (by decide) rfl (fun ls hl => ?_)
          refine lv_goto (tgt := 10) hx hb dX2_doTicks_60 (by decide) ?_
          exact ih_lp (t + 1) (xTick d clk st sd t qs X false) (rows ++ [xV (xTick d clk st sd t qs X false)]) (v2) (upd w1 t (xV (xTick d clk st sd t qs X false))) (H) (locs) (xV (xTick d clk st sd t qs X false)) ls (by omega) (by omega) (hP) (hS) (hv2) (rowsUpd hlr hw1) (lenApp hlr) (c39) (by rw [hZ, xG_step c15 c39]) (rfl) (lv_sub hl [2, 3, 1, 0] rfl)
        · skip
          exact r_wv C hr hlk hS (⟨rfl, v2, w1, by rw [← hZ0, hZ, xG_stop c15 c39]; exact hv2, by rw [← hZ0, hZ, xG_stop c15 c39]; exact hw1, by rw [← hZ0, hZ, xG_stop c15 c39]; simp only; rw [hlr]; exact hP⟩) dX2_doTicks_42
  exact lp (tk + 1) (rows0.length) ((lastR rows0, 0, 0, false, false, false)) (rows0) (v0) (w0) (s.heap) ([]) (lastR rows0) ls (by omega) (by omega) (by simpa only [xRS, xRW, xSd, xCk, xSt, or_0, Bool.or_false] using hP) (hS) (fun i hi => by rw [show hasB (xRW (lastR rows0, 0, 0, false, false, false)) i = false from (by decide +kernel : ∀ i, i < 8 → hasB 0 i = false) i hi]; rfl) (hw0) (rfl) (rfl) (hZ) (rfl) (lv_sub hl [2, 3, 1, 0] rfl)

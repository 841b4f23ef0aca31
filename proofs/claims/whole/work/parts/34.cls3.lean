/-! THE CLASS: a run under way -/
theorem S_keep {D : va_G} {cl : List vw_C} {A : Nat → Prop} {H0 H : Heap} {locs : List Loc} {ws : va_W} (hS : va_S A H0 H locs) (hP : va_P D cl ws H0) (hn : ∀ (k : Nat) (x : Nat × va_E), ws[k]? = some x → ¬ A x.1) : va_P D cl ws H := hP.kept (fun k x hx => hS.2.1 x.1 ((hP k x hx).lt) (hn k x hx))
theorem one_n {A : Nat → Prop} {a : Nat} {e : va_E} (h : ¬ A a) : ∀ (k : Nat) (x : Nat × va_E), [(a, e)][k]? = some x → ¬ A x.1 := by
  intro k x hx
  match k, hx with
  | 0, hx => cases hx; exact h
set_option maxHeartbeats 4000000 in
set_option maxRecDepth 100000 in
theorem c1_addWord (l : Launch) (g : GG) (na va : Nat) (rs rw : Int32) (sb cb : Bool) (v : Nat → Int32) (xs : va_W) (A : Nat → Prop) (i : Nat) (x : Int32) (hi : i < 8) (hD : va_D A ([(na, .inr (1, [.int (rs), .int (rw), .int (bI (sb)), .int (bI (cb)), .ref (va)])), (va, aI g 8 v)] ++ xs)) : Met l yX1_addWord (.code yX1_addWord cX1_addWord 3 none :: wsL_law) ({ frames := 0, cells := 0, slots := 0, locals := 0 } : Room) (mP g [.ref (na), .int (nI (i)), .int (x)] (fun H => va_P g.1 vwCl ([(na, .inr (1, [.int (rs), .int (rw), .int (bI (sb)), .int (bI (cb)), .ref (va)])), (va, aI g 8 v)] ++ xs) H)) (mQ A (fun z H => z = none ∧ va_P g.1 vwCl ([(na, .inr (1, [.int (rs), .int (rw ||| bitI i), .int (bI (sb)), .int (bI (cb)), .ref (va)])), (va, aI g 8 (upd v i x))] ++ xs) H)) 0 0 (A) := by
  refine mMet (by decide) (Nat.le_of_ble_eq_true rfl) ?_
  intro p e s m below meth c C hr hlk hnm hP ls hl
  have hx := C.1.1
  have hb := C.1.2.1
  have hl : lv_has ls 3 [(0, .ref (na)), (1, .int (nI (i))), (2, .int (x))] := hl
  have hS : va_S A s.heap s.heap [] := va_S.rf
  refine lv_iload_n hx hb dX1_addWord_0 rfl (lv_at hl 1 rfl) ?_
  refine lv_if_lt (tgt := 32) hx hb dX1_addWord_1 (by decide) (fun c1 => by exfalso; exact absurd c1 (nI_pos (by omega))) (fun c1 => ?_)
  refine lv_iload_n hx hb dX1_addWord_4 rfl (lv_at hl 1 rfl) ?_
  refine lv_aload_n hx hb dX1_addWord_5 rfl (lv_at hl 0 rfl) ?_
  refine q_get C f_X1_9 (hP) 0 rfl rfl dX1_addWord_6 ?_
  refine va_alen (v := nI 8) hx hb C.2.1 (hP) 1 0 rfl rfl rfl dX1_addWord_9 ?_
  refine n_icmp_ge (tgt := 32) C (by omega) (by omega) dX1_addWord_10 (by decide) (fun c10 => by exfalso; omega) (fun c10 => ?_)
  refine lv_aload_n hx hb dX1_addWord_13 rfl (lv_at hl 0 rfl) ?_
  refine lv_dup hx hb dX1_addWord_14 rfl ?_
  refine q_get C f_X1_15 (hP) 0 rfl rfl dX1_addWord_15 ?_
  refine lv_iconst (v := 1) hx hb dX1_addWord_18 (by decide) ?_
  refine lv_iload_n hx hb dX1_addWord_19 rfl (lv_at hl 1 rfl) ?_
  refine lv_ishl hx hb dX1_addWord_20 ?_
  refine lv_ior hx hb dX1_addWord_21 ?_
  refine q_put C fp_X1_15 hP hD hS 0 rfl rfl rfl (Nat.le_of_ble_eq_true rfl) dX1_addWord_22 (fun H locs hP hD hS => ?_)
  have hP : va_P g.1 vwCl ([(na, .inr (1, [.int (rs), .int ((rw) ||| ((1) <<< ((nI (i)) &&& 31))), .int (bI (sb)), .int (bI (cb)), .ref (va)])), (va, aI g 8 v)] ++ xs) H := hP
  have hD : va_D A ([(na, .inr (1, [.int (rs), .int ((rw) ||| ((1) <<< ((nI (i)) &&& 31))), .int (bI (sb)), .int (bI (cb)), .ref (va)])), (va, aI g 8 v)] ++ xs) := hD
  refine lv_aload_n hx hb dX1_addWord_25 rfl (lv_at hl 0 rfl) ?_
  refine q_get C f_X1_9 (hP) 0 rfl rfl dX1_addWord_26 ?_
  refine lv_iload_n hx hb dX1_addWord_29 rfl (lv_at hl 1 rfl) ?_
  refine lv_iload_n hx hb dX1_addWord_30 rfl (lv_at hl 2 rfl) ?_
  refine n_iast C hP hD hS 1 rfl (by omega) (by decide) dX1_addWord_31 (fun H locs hP hD hS => ?_)
  have hP : va_P g.1 vwCl ([(na, .inr (1, [.int (rs), .int ((rw) ||| ((1) <<< ((nI (i)) &&& 31))), .int (bI (sb)), .int (bI (cb)), .ref (va)])), (va, aI g 8 (upd v i (x)))] ++ xs) H := hP
  have hD : va_D A ([(na, .inr (1, [.int (rs), .int ((rw) ||| ((1) <<< ((nI (i)) &&& 31))), .int (bI (sb)), .int (bI (cb)), .ref (va)])), (va, aI g 8 (upd v i (x)))] ++ xs) := hD
  exact r_wv C hr hlk hS (⟨rfl, hP⟩) dX1_addWord_32
set_option maxHeartbeats 4000000 in
set_option maxRecDepth 100000 in
theorem c2_readSetting (l : Launch) (g : GG) (a ca na va ra wo wa : Nat) (k st sd og ot clk : Int32) (cnt : Bool) (tk : Nat) (d : Nat → Int32) (xs : va_W) (A : Nat → Prop) (nr : Nat) (br : Bool) (rs rw : Int32) (sb cb : Bool) (v w : Nat → Int32) (o : Nat) (ho : o < 16) (hD : va_D A ([(a, .inr (2, [.int (k), .ref (ca), .int (st), .int (sd), .int (nI (tk)), .ref (na), .ref (ra), .int (nI (nr)), .int (bI (br)), .int (bI (cnt)), .int (og), .int (ot)])), (na, .inr (1, [.int (rs), .int (rw), .int (bI (sb)), .int (bI (cb)), .ref (va)])), (va, aI g 8 v), (ra, aI g 16 w), (wo, .inr (3, [.ref (wa), .int (clk)])), (wa, aI g 8 d)] ++ xs)) : Met l yX2_readSetting (.code yX2_readSetting cX2_readSetting 3 (some .int) :: wsL_law) ({ frames := 1, cells := 0, slots := 0, locals := 21 } : Room) (mP g [.ref (a), .int (nI (o))] (fun H => va_P g.1 vwCl ([(a, .inr (2, [.int (k), .ref (ca), .int (st), .int (sd), .int (nI (tk)), .ref (na), .ref (ra), .int (nI (nr)), .int (bI (br)), .int (bI (cnt)), .int (og), .int (ot)])), (na, .inr (1, [.int (rs), .int (rw), .int (bI (sb)), .int (bI (cb)), .ref (va)])), (va, aI g 8 v), (ra, aI g 16 w), (wo, .inr (3, [.ref (wa), .int (clk)])), (wa, aI g 8 d)] ++ xs) H)) (mQ A (fun z H => z = some (.int (sett st (o % 4))) ∧ va_P g.1 vwCl ([(a, .inr (2, [.int (k), .ref (ca), .int (st), .int (sd), .int (nI (tk)), .ref (na), .ref (ra), .int (nI (nr)), .int (bI (br)), .int (bI (cnt)), .int (og), .int (ot)])), (na, .inr (1, [.int (rs ||| bitI (o % 4)), .int (rw), .int (bI (sb)), .int (bI (cb)), .ref (va)])), (va, aI g 8 v), (ra, aI g 16 w), (wo, .inr (3, [.ref (wa), .int (clk)])), (wa, aI g 8 d)] ++ xs) H)) 0 0 (A) := by
  refine mMet (by decide) (Nat.le_of_ble_eq_true rfl) ?_
  intro p e s m below meth c C hr hlk hnm hP ls hl
  have hx := C.1.1
  have hb := C.1.2.1
  have hl : lv_has ls 3 [(0, .ref (a)), (1, .int (nI (o)))] := hl
  have hS : va_S A s.heap s.heap [] := va_S.rf
  refine lv_iload_n hx hb dX2_readSetting_0 rfl (lv_at hl 1 rfl) ?_
  refine lv_iconst (v := nI 4) hx hb dX2_readSetting_1 (by decide) ?_
  refine n_irem C (by omega) (by omega) (by omega) dX2_readSetting_2 ?_
  refine lv_istore_n (lv' := [(2, .int (nI (o % 4))), (0, .ref (a)), (1, .int (nI (o)))]) hx hb dX2_readSetting_3 rfl hl (by decide) rfl (fun ls hl => ?_)
  refine lv_aload_n hx hb dX2_readSetting_4 rfl (lv_at hl 1 rfl) ?_
  refine q_get C f_X2_12 (hP) 0 rfl rfl dX2_readSetting_5 ?_
  refine lv_dup hx hb dX2_readSetting_8 rfl ?_
  refine q_get C f_X2_94 (hP) 1 rfl rfl dX2_readSetting_9 ?_
  refine lv_iconst (v := 1) hx hb dX2_readSetting_12 (by decide) ?_
  refine lv_iload_n hx hb dX2_readSetting_13 rfl (lv_at hl 0 rfl) ?_
  refine lv_ishl hx hb dX2_readSetting_14 ?_
  refine lv_ior hx hb dX2_readSetting_15 ?_
  refine q_put C fp_X2_94 hP hD hS 1 rfl rfl rfl (Nat.le_of_ble_eq_true rfl) dX2_readSetting_16 (fun H locs hP hD hS => ?_)
  have hP : va_P g.1 vwCl ([(a, .inr (2, [.int (k), .ref (ca), .int (st), .int (sd), .int (nI (tk)), .ref (na), .ref (ra), .int (nI (nr)), .int (bI (br)), .int (bI (cnt)), .int (og), .int (ot)])), (na, .inr (1, [.int ((rs) ||| ((1) <<< ((nI (o % 4)) &&& 31))), .int (rw), .int (bI (sb)), .int (bI (cb)), .ref (va)])), (va, aI g 8 v), (ra, aI g 16 w), (wo, .inr (3, [.ref (wa), .int (clk)])), (wa, aI g 8 d)] ++ xs) H := hP
  have hD : va_D A ([(a, .inr (2, [.int (k), .ref (ca), .int (st), .int (sd), .int (nI (tk)), .ref (na), .ref (ra), .int (nI (nr)), .int (bI (br)), .int (bI (cnt)), .int (og), .int (ot)])), (na, .inr (1, [.int ((rs) ||| ((1) <<< ((nI (o % 4)) &&& 31))), .int (rw), .int (bI (sb)), .int (bI (cb)), .ref (va)])), (va, aI g 8 v), (ra, aI g 16 w), (wo, .inr (3, [.ref (wa), .int (clk)])), (wa, aI g 8 d)] ++ xs) := hD
  refine lv_aload_n hx hb dX2_readSetting_19 rfl (lv_at hl 1 rfl) ?_
  refine q_get C f_X2_36 (hP) 0 rfl rfl dX2_readSetting_20 ?_
  refine lv_iload_n hx hb dX2_readSetting_23 rfl (lv_at hl 0 rfl) ?_
  refine k_i (c_SN (As := [.int (st), .int (nI (o % 4))]) (rest := []) C v_X2_95 (inr_5 _ (List.mem_of_getElem? (i := 17) rfl)) (c4_settingOf l g (st) (o % 4)) ⟨Nat.le_of_ble_eq_true rfl, Nat.le_of_ble_eq_true rfl⟩ (trivial) hl.1 rfl rfl (Nat.le_of_ble_eq_true rfl) dX2_readSetting_24 ⟨Nat.le_of_ble_eq_true rfl, Nat.le_of_ble_eq_true rfl⟩) (fun r24 q24 => ?_)
  subst q24
  exact r_wi C hr hlk hS (⟨rfl, hP⟩) dX2_readSetting_27
set_option maxHeartbeats 4000000 in
set_option maxRecDepth 100000 in
theorem c2_readSeed (l : Launch) (g : GG) (a ca na va ra wo wa : Nat) (k st sd og ot clk : Int32) (cnt : Bool) (tk : Nat) (d : Nat → Int32) (xs : va_W) (A : Nat → Prop) (nr : Nat) (br : Bool) (rs rw : Int32) (sb cb : Bool) (v w : Nat → Int32) (hD : va_D A ([(a, .inr (2, [.int (k), .ref (ca), .int (st), .int (sd), .int (nI (tk)), .ref (na), .ref (ra), .int (nI (nr)), .int (bI (br)), .int (bI (cnt)), .int (og), .int (ot)])), (na, .inr (1, [.int (rs), .int (rw), .int (bI (sb)), .int (bI (cb)), .ref (va)])), (va, aI g 8 v), (ra, aI g 16 w), (wo, .inr (3, [.ref (wa), .int (clk)])), (wa, aI g 8 d)] ++ xs)) : Met l yX2_readSeed (.code yX2_readSeed cX2_readSeed 1 (some .int) :: wsL_law) ({ frames := 0, cells := 0, slots := 0, locals := 0 } : Room) (mP g [.ref (a)] (fun H => va_P g.1 vwCl ([(a, .inr (2, [.int (k), .ref (ca), .int (st), .int (sd), .int (nI (tk)), .ref (na), .ref (ra), .int (nI (nr)), .int (bI (br)), .int (bI (cnt)), .int (og), .int (ot)])), (na, .inr (1, [.int (rs), .int (rw), .int (bI (sb)), .int (bI (cb)), .ref (va)])), (va, aI g 8 v), (ra, aI g 16 w), (wo, .inr (3, [.ref (wa), .int (clk)])), (wa, aI g 8 d)] ++ xs) H)) (mQ A (fun z H => z = some (.int sd) ∧ va_P g.1 vwCl ([(a, .inr (2, [.int (k), .ref (ca), .int (st), .int (sd), .int (nI (tk)), .ref (na), .ref (ra), .int (nI (nr)), .int (bI (br)), .int (bI (cnt)), .int (og), .int (ot)])), (na, .inr (1, [.int (rs), .int (rw), .int (bI (true)), .int (bI (cb)), .ref (va)])), (va, aI g 8 v), (ra, aI g 16 w), (wo, .inr (3, [.ref (wa), .int (clk)])), (wa, aI g 8 d)] ++ xs) H)) 0 0 (A) := by
  refine mMet (by decide) (Nat.le_of_ble_eq_true rfl) ?_
  intro p e s m below meth c C hr hlk hnm hP ls hl
  have hx := C.1.1
  have hb := C.1.2.1
  have hl : lv_has ls 1 [(0, .ref (a))] := hl
  have hS : va_S A s.heap s.heap [] := va_S.rf
  refine lv_aload_n hx hb dX2_readSeed_0 rfl (lv_at hl 0 rfl) ?_
  refine q_get C f_X2_12 (hP) 0 rfl rfl dX2_readSeed_1 ?_
  refine lv_iconst (v := bI true) hx hb dX2_readSeed_4 (by decide) ?_
  refine q_put C fp_X2_98 hP hD hS 1 rfl (fits01 (by first | exact Or.inl rfl | exact Or.inr rfl | exact bI_or _)).1 (fits01 (by first | exact Or.inl rfl | exact Or.inr rfl | exact bI_or _)).2.1 (Nat.le_of_ble_eq_true rfl) dX2_readSeed_5 (fun H locs hP hD hS => ?_)
  have hP : va_P g.1 vwCl ([(a, .inr (2, [.int (k), .ref (ca), .int (st), .int (sd), .int (nI (tk)), .ref (na), .ref (ra), .int (nI (nr)), .int (bI (br)), .int (bI (cnt)), .int (og), .int (ot)])), (na, .inr (1, [.int (rs), .int (rw), .int (bI (true)), .int (bI (cb)), .ref (va)])), (va, aI g 8 v), (ra, aI g 16 w), (wo, .inr (3, [.ref (wa), .int (clk)])), (wa, aI g 8 d)] ++ xs) H := hP
  have hD : va_D A ([(a, .inr (2, [.int (k), .ref (ca), .int (st), .int (sd), .int (nI (tk)), .ref (na), .ref (ra), .int (nI (nr)), .int (bI (br)), .int (bI (cnt)), .int (og), .int (ot)])), (na, .inr (1, [.int (rs), .int (rw), .int (bI (true)), .int (bI (cb)), .ref (va)])), (va, aI g 8 v), (ra, aI g 16 w), (wo, .inr (3, [.ref (wa), .int (clk)])), (wa, aI g 8 d)] ++ xs) := hD
  refine lv_aload_n hx hb dX2_readSeed_8 rfl (lv_at hl 0 rfl) ?_
  refine q_get C f_X2_39 (hP) 0 rfl rfl dX2_readSeed_9 ?_
  exact r_wi C hr hlk hS (⟨rfl, hP⟩) dX2_readSeed_12
set_option maxHeartbeats 4000000 in
set_option maxRecDepth 100000 in
theorem c2_readClock (l : Launch) (g : GG) (a ca na va ra wo wa : Nat) (k st sd og ot clk : Int32) (cnt : Bool) (tk : Nat) (d : Nat → Int32) (xs : va_W) (A : Nat → Prop) (nr : Nat) (br : Bool) (rs rw : Int32) (sb cb : Bool) (v w : Nat → Int32) (hD : va_D A ([(a, .inr (2, [.int (k), .ref (ca), .int (st), .int (sd), .int (nI (tk)), .ref (na), .ref (ra), .int (nI (nr)), .int (bI (br)), .int (bI (cnt)), .int (og), .int (ot)])), (na, .inr (1, [.int (rs), .int (rw), .int (bI (sb)), .int (bI (cb)), .ref (va)])), (va, aI g 8 v), (ra, aI g 16 w), (wo, .inr (3, [.ref (wa), .int (clk)])), (wa, aI g 8 d)] ++ xs)) : Met l yX2_readClock (.code yX2_readClock cX2_readClock 2 (some .int) :: wsL_law) ({ frames := 0, cells := 0, slots := 0, locals := 0 } : Room) (mP g [.ref (a), .ref (wo)] (fun H => va_P g.1 vwCl ([(a, .inr (2, [.int (k), .ref (ca), .int (st), .int (sd), .int (nI (tk)), .ref (na), .ref (ra), .int (nI (nr)), .int (bI (br)), .int (bI (cnt)), .int (og), .int (ot)])), (na, .inr (1, [.int (rs), .int (rw), .int (bI (sb)), .int (bI (cb)), .ref (va)])), (va, aI g 8 v), (ra, aI g 16 w), (wo, .inr (3, [.ref (wa), .int (clk)])), (wa, aI g 8 d)] ++ xs) H)) (mQ A (fun z H => z = some (.int clk) ∧ va_P g.1 vwCl ([(a, .inr (2, [.int (k), .ref (ca), .int (st), .int (sd), .int (nI (tk)), .ref (na), .ref (ra), .int (nI (nr)), .int (bI (br)), .int (bI (cnt)), .int (og), .int (ot)])), (na, .inr (1, [.int (rs), .int (rw), .int (bI (sb)), .int (bI (true)), .ref (va)])), (va, aI g 8 v), (ra, aI g 16 w), (wo, .inr (3, [.ref (wa), .int (clk)])), (wa, aI g 8 d)] ++ xs) H)) 0 0 (A) := by
  refine mMet (by decide) (Nat.le_of_ble_eq_true rfl) ?_
  intro p e s m below meth c C hr hlk hnm hP ls hl
  have hx := C.1.1
  have hb := C.1.2.1
  have hl : lv_has ls 2 [(0, .ref (a)), (1, .ref (wo))] := hl
  have hS : va_S A s.heap s.heap [] := va_S.rf
  refine lv_aload_n hx hb dX2_readClock_0 rfl (lv_at hl 0 rfl) ?_
  refine q_get C f_X2_12 (hP) 0 rfl rfl dX2_readClock_1 ?_
  refine lv_iconst (v := bI true) hx hb dX2_readClock_4 (by decide) ?_
  refine q_put C fp_X2_109 hP hD hS 1 rfl (fits01 (by first | exact Or.inl rfl | exact Or.inr rfl | exact bI_or _)).1 (fits01 (by first | exact Or.inl rfl | exact Or.inr rfl | exact bI_or _)).2.1 (Nat.le_of_ble_eq_true rfl) dX2_readClock_5 (fun H locs hP hD hS => ?_)
  have hP : va_P g.1 vwCl ([(a, .inr (2, [.int (k), .ref (ca), .int (st), .int (sd), .int (nI (tk)), .ref (na), .ref (ra), .int (nI (nr)), .int (bI (br)), .int (bI (cnt)), .int (og), .int (ot)])), (na, .inr (1, [.int (rs), .int (rw), .int (bI (sb)), .int (bI (true)), .ref (va)])), (va, aI g 8 v), (ra, aI g 16 w), (wo, .inr (3, [.ref (wa), .int (clk)])), (wa, aI g 8 d)] ++ xs) H := hP
  have hD : va_D A ([(a, .inr (2, [.int (k), .ref (ca), .int (st), .int (sd), .int (nI (tk)), .ref (na), .ref (ra), .int (nI (nr)), .int (bI (br)), .int (bI (cnt)), .int (og), .int (ot)])), (na, .inr (1, [.int (rs), .int (rw), .int (bI (sb)), .int (bI (true)), .ref (va)])), (va, aI g 8 v), (ra, aI g 16 w), (wo, .inr (3, [.ref (wa), .int (clk)])), (wa, aI g 8 d)] ++ xs) := hD
  refine lv_aload_n hx hb dX2_readClock_8 rfl (lv_at hl 1 rfl) ?_
  refine q_get C f_X2_112 (hP) 4 rfl rfl dX2_readClock_9 ?_
  exact r_wi C hr hlk hS (⟨rfl, hP⟩) dX2_readClock_12
set_option maxHeartbeats 4000000 in
set_option maxRecDepth 100000 in
theorem c2_readWord (l : Launch) (g : GG) (a ca na va ra wo wa : Nat) (k st sd og ot clk : Int32) (cnt : Bool) (tk : Nat) (d : Nat → Int32) (xs : va_W) (A : Nat → Prop) (nr : Nat) (br : Bool) (rs rw : Int32) (sb cb : Bool) (v w : Nat → Int32) (i : Nat) (hi : i < 8) (hD : va_D A ([(a, .inr (2, [.int (k), .ref (ca), .int (st), .int (sd), .int (nI (tk)), .ref (na), .ref (ra), .int (nI (nr)), .int (bI (br)), .int (bI (cnt)), .int (og), .int (ot)])), (na, .inr (1, [.int (rs), .int (rw), .int (bI (sb)), .int (bI (cb)), .ref (va)])), (va, aI g 8 v), (ra, aI g 16 w), (wo, .inr (3, [.ref (wa), .int (clk)])), (wa, aI g 8 d)] ++ xs)) : Met l yX2_readWord (.code yX2_readWord cX2_readWord 4 (some .int) :: wsL_law) ({ frames := 1, cells := 0, slots := 0, locals := 22 } : Room) (mP g [.ref (a), .int (nI (i)), .ref (wo)] (fun H => va_P g.1 vwCl ([(a, .inr (2, [.int (k), .ref (ca), .int (st), .int (sd), .int (nI (tk)), .ref (na), .ref (ra), .int (nI (nr)), .int (bI (br)), .int (bI (cnt)), .int (og), .int (ot)])), (na, .inr (1, [.int (rs), .int (rw), .int (bI (sb)), .int (bI (cb)), .ref (va)])), (va, aI g 8 v), (ra, aI g 16 w), (wo, .inr (3, [.ref (wa), .int (clk)])), (wa, aI g 8 d)] ++ xs) H)) (mQ A (fun z H => z = some (.int (d i)) ∧ va_P g.1 vwCl ([(a, .inr (2, [.int (k), .ref (ca), .int (st), .int (sd), .int (nI (tk)), .ref (na), .ref (ra), .int (nI (nr)), .int (bI (br)), .int (bI (cnt)), .int (og), .int (ot)])), (na, .inr (1, [.int (rs), .int (rw ||| bitI i), .int (bI (sb)), .int (bI (cb)), .ref (va)])), (va, aI g 8 (upd v i (d i))), (ra, aI g 16 w), (wo, .inr (3, [.ref (wa), .int (clk)])), (wa, aI g 8 d)] ++ xs) H)) 0 0 (A) := by
  refine mMet (by decide) (Nat.le_of_ble_eq_true rfl) ?_
  intro p e s m below meth c C hr hlk hnm hP ls hl
  have hx := C.1.1
  have hb := C.1.2.1
  have hl : lv_has ls 4 [(0, .ref (a)), (1, .int (nI (i))), (2, .ref (wo))] := hl
  have hS : va_S A s.heap s.heap [] := va_S.rf
  refine lv_aload_n hx hb dX2_readWord_0 rfl (lv_at hl 2 rfl) ?_
  refine lv_iload_n hx hb dX2_readWord_1 rfl (lv_at hl 1 rfl) ?_
  refine k_i (c_V (As := [.int (nI (i))]) (rest := []) C v_X2_100 (c3_wordAt l g wo i d clk hi) ⟨Nat.le_of_ble_eq_true rfl, Nat.le_of_ble_eq_true rfl⟩ (q_recv C hP 4 rfl rfl) (⟨wa, d, fun _ _ => rfl, hP.l.sub [4, 5] rfl⟩) hl.1 rfl rfl (Nat.le_of_ble_eq_true rfl) dX2_readWord_2 ⟨Nat.le_of_ble_eq_true rfl, Nat.le_of_ble_eq_true rfl⟩) (fun r2 q2 => ?_)
  subst q2
  refine lv_istore_n (lv' := [(3, .int (d i)), (0, .ref (a)), (1, .int (nI (i))), (2, .ref (wo))]) hx hb dX2_readWord_5 rfl hl (by decide) rfl (fun ls hl => ?_)
  refine lv_aload_n hx hb dX2_readWord_6 rfl (lv_at hl 1 rfl) ?_
  refine q_get C f_X2_12 (hP) 0 rfl rfl dX2_readWord_7 ?_
  refine lv_iload_n hx hb dX2_readWord_10 rfl (lv_at hl 2 rfl) ?_
  refine lv_iload_n hx hb dX2_readWord_11 rfl (lv_at hl 0 rfl) ?_
  refine k_w (c_V (As := [.int (nI (i)), .int (d i)]) (rest := []) C v_X2_105 (c1_addWord l g na va rs rw sb cb v ([(a, .inr (2, [.int (k), .ref (ca), .int (st), .int (sd), .int (nI (tk)), .ref (na), .ref (ra), .int (nI (nr)), .int (bI (br)), .int (bI (cnt)), .int (og), .int (ot)])), (ra, aI g 16 w), (wo, .inr (3, [.ref (wa), .int (clk)])), (wa, aI g 8 d)] ++ xs) A i (d i) (by omega) (hD.perm (a' := [(na, .inr (1, [.int (rs), .int (rw), .int (bI (sb)), .int (bI (cb)), .ref (va)])), (va, aI g 8 v), (a, .inr (2, [.int (k), .ref (ca), .int (st), .int (sd), .int (nI (tk)), .ref (na), .ref (ra), .int (nI (nr)), .int (bI (br)), .int (bI (cnt)), .int (og), .int (ot)])), (ra, aI g 16 w), (wo, .inr (3, [.ref (wa), .int (clk)])), (wa, aI g 8 d)]) [1, 2, 0, 3, 4, 5] (by decide) rfl)) ⟨Nat.le_of_ble_eq_true rfl, Nat.le_of_ble_eq_true rfl⟩ (q_recv C hP 1 rfl rfl) (hP.perm (a' := [(na, .inr (1, [.int (rs), .int (rw), .int (bI (sb)), .int (bI (cb)), .ref (va)])), (va, aI g 8 v), (a, .inr (2, [.int (k), .ref (ca), .int (st), .int (sd), .int (nI (tk)), .ref (na), .ref (ra), .int (nI (nr)), .int (bI (br)), .int (bI (cnt)), .int (og), .int (ot)])), (ra, aI g 16 w), (wo, .inr (3, [.ref (wa), .int (clk)])), (wa, aI g 8 d)]) [1, 2, 0, 3, 4, 5] rfl) hl.1 rfl rfl (Nat.le_of_ble_eq_true rfl) dX2_readWord_12 ⟨Nat.le_of_ble_eq_true rfl, Nat.le_of_ble_eq_true rfl⟩) hS (fun _ hq => hq) (fun r12 H1 locs q12 hz12 hk12 hS => ?_)
  obtain ⟨rfl, hP⟩ := q12
  have hP : va_P g.1 vwCl ([(a, .inr (2, [.int (k), .ref (ca), .int (st), .int (sd), .int (nI (tk)), .ref (na), .ref (ra), .int (nI (nr)), .int (bI (br)), .int (bI (cnt)), .int (og), .int (ot)])), (na, .inr (1, [.int (rs), .int (rw ||| bitI i), .int (bI (sb)), .int (bI (cb)), .ref (va)])), (va, aI g 8 (upd v i (d i))), (ra, aI g 16 w), (wo, .inr (3, [.ref (wa), .int (clk)])), (wa, aI g 8 d)] ++ xs) H1 := va_P.perm (a := [(na, .inr (1, [.int (rs), .int (rw ||| bitI i), .int (bI (sb)), .int (bI (cb)), .ref (va)])), (va, aI g 8 (upd v i (d i))), (a, .inr (2, [.int (k), .ref (ca), .int (st), .int (sd), .int (nI (tk)), .ref (na), .ref (ra), .int (nI (nr)), .int (bI (br)), .int (bI (cnt)), .int (og), .int (ot)])), (ra, aI g 16 w), (wo, .inr (3, [.ref (wa), .int (clk)])), (wa, aI g 8 d)]) hP [2, 0, 1, 3, 4, 5] rfl
  refine W.eq (g2 := F0 m 15 ls []) rfl ?_
  refine lv_iload_n hx hb dX2_readWord_15 rfl (lv_at hl 0 rfl) ?_
  exact r_wi C hr hlk hS (⟨rfl, hP⟩) dX2_readWord_16
theorem or_as (a b c : Int32) : (a ||| b) ||| c = a ||| (b ||| c) := Int32.or_assoc a b c
theorem jrot_e (x : Int32) {o : Nat} (ho : o < 16) : (x <<< ((nI o) &&& 31)) ||| (x.toUInt32 >>> ((nI (32 - o)).toUInt32 &&& Int32.toUInt32 31)).toInt32 = jrot x o := by
  unfold jrot
  by_cases h : o = 0
  · subst h
    rw [if_pos rfl]
    apply Int32.toBitVec_inj.mp
    simp [nI]
  · rw [if_neg h]
theorem upd_has {d v v0 : Nat → Int32} {m : Int32} {i : Nat} (hi : i < 8) (hv : ∀ j, j < 8 → v j = if hasB m j then d j else v0 j) : ∀ j, j < 8 → upd v i (d i) j = if hasB (m ||| bitI i) j then d j else v0 j := by
  intro j hj
  rw [hasOr]
  by_cases e : j = i
  · subst e
    rw [pk_us, show hasB (bitI j) j = true from (by decide +kernel : ∀ j, j < 8 → hasB (bitI j) j = true) j hj, Bool.or_true, if_pos rfl]
  · rw [pk_un e, show hasB (bitI i) j = false from (by decide +kernel : ∀ i, i < 8 → ∀ j, j < 8 → j ≠ i → hasB (bitI i) j = false) i hi j hj e, Bool.or_false]
    exact hv j hj
set_option maxHeartbeats 4000000 in
set_option maxRecDepth 100000 in
theorem c2_afterStep (l : Launch) (g : GG) (a ca na va ra wo wa : Nat) (k st sd og ot clk : Int32) (cnt : Bool) (tk : Nat) (d : Nat → Int32) (xs : va_W) (A : Nat → Prop) (nr : Nat) (rs0 rw0 : Int32) (s0 c0 : Bool) (v0 v w : Nat → Int32) (X : XS) (hv : ∀ i, i < 8 → v i = if hasB (xRW X) i then d i else v0 i) (t q : Nat) (hq : q < 256) (ht : t < 16) (hk3 : ¬ q / 16 = 3) (hk9 : ¬ q / 16 = 9) (hD : va_D A ([(a, .inr (2, [.int (k), .ref (ca), .int (st), .int (sd), .int (nI (tk)), .ref (na), .ref (ra), .int (nI (nr)), .int (bI (xSt (X))), .int (bI (cnt)), .int (og), .int (ot)])), (na, .inr (1, [.int (rs0 ||| xRS (X)), .int (rw0 ||| xRW (X)), .int (bI (s0 || xSd (X))), .int (bI (c0 || xCk (X))), .ref (va)])), (va, aI g 8 v), (ra, aI g 16 w), (wo, .inr (3, [.ref (wa), .int (clk)])), (wa, aI g 8 d)] ++ xs)) : Met l yX2_afterStep (.code yX2_afterStep cX2_afterStep 6 (some .int) :: wsL_law) ({ frames := 2, cells := 0, slots := 0, locals := 45 } : Room) (mP g [.ref (a), .int (xV X), .int (nI (q / 16)), .int (nI (q % 16)), .int (nI (t)), .ref (wo)] (fun H => va_P g.1 vwCl ([(a, .inr (2, [.int (k), .ref (ca), .int (st), .int (sd), .int (nI (tk)), .ref (na), .ref (ra), .int (nI (nr)), .int (bI (xSt (X))), .int (bI (cnt)), .int (og), .int (ot)])), (na, .inr (1, [.int (rs0 ||| xRS (X)), .int (rw0 ||| xRW (X)), .int (bI (s0 || xSd (X))), .int (bI (c0 || xCk (X))), .ref (va)])), (va, aI g 8 v), (ra, aI g 16 w), (wo, .inr (3, [.ref (wa), .int (clk)])), (wa, aI g 8 d)] ++ xs) H)) (mQ A (fun z H => z = some (.int (xV (xStep d clk st sd t q X))) ∧ ∃ v' : Nat → Int32, (∀ i, i < 8 → v' i = if hasB (xRW (xStep d clk st sd t q X)) i then d i else v0 i) ∧ va_P g.1 vwCl ([(a, .inr (2, [.int (k), .ref (ca), .int (st), .int (sd), .int (nI (tk)), .ref (na), .ref (ra), .int (nI (nr)), .int (bI (xSt (xStep d clk st sd t q X))), .int (bI (cnt)), .int (og), .int (ot)])), (na, .inr (1, [.int (rs0 ||| xRS (xStep d clk st sd t q X)), .int (rw0 ||| xRW (xStep d clk st sd t q X)), .int (bI (s0 || xSd (xStep d clk st sd t q X))), .int (bI (c0 || xCk (xStep d clk st sd t q X))), .ref (va)])), (va, aI g 8 (v')), (ra, aI g 16 w), (wo, .inr (3, [.ref (wa), .int (clk)])), (wa, aI g 8 d)] ++ xs) H)) 0 0 (A) := by
  refine mMet (by decide) (Nat.le_of_ble_eq_true rfl) ?_
  intro p e s m below meth c C hr hlk hnm hP ls hl
  have hx := C.1.1
  have hb := C.1.2.1
  have hl : lv_has ls 6 [(0, .ref (a)), (1, .int (xV X)), (2, .int (nI (q / 16))), (3, .int (nI (q % 16))), (4, .int (nI (t))), (5, .ref (wo))] := hl
  have hS : va_S A s.heap s.heap [] := va_S.rf
  refine lv_iload_n hx hb dX2_afterStep_0 rfl (lv_at hl 2 rfl) ?_
  by_cases k1_0 : q / 16 = 0
  · skip
    refine n_tabIn (tgt := 52) (off := 51) C (nI 0) (by rw [k1_0]) dX2_afterStep_1 (by decide) (by decide) (by decide) (by decide) ?_
    refine lv_iload_n hx hb dX2_afterStep_52 rfl (lv_at hl 1 rfl) ?_
    refine lv_iload_n hx hb dX2_afterStep_53 rfl (lv_at hl 3 rfl) ?_
    refine lv_iadd hx hb dX2_afterStep_54 ?_
    exact r_wi C hr hlk hS (⟨sv (by rw [xs_0 k1_0]; rfl), v, by rw [xs_0 k1_0]; exact hv, by rw [xs_0 k1_0]; exact hP⟩) dX2_afterStep_55
  by_cases k1_1 : q / 16 = 1
  · skip
    refine n_tabIn (tgt := 56) (off := 55) C (nI 1) (by rw [k1_1]) dX2_afterStep_1 (by decide) (by decide) (by decide) (by decide) ?_
    refine lv_iload_n hx hb dX2_afterStep_56 rfl (lv_at hl 1 rfl) ?_
    refine lv_iload_n hx hb dX2_afterStep_57 rfl (lv_at hl 3 rfl) ?_
    refine lv_imul hx hb dX2_afterStep_58 ?_
    exact r_wi C hr hlk hS (⟨sv (by rw [xs_1 k1_1]; rfl), v, by rw [xs_1 k1_1]; exact hv, by rw [xs_1 k1_1]; exact hP⟩) dX2_afterStep_59
  by_cases k1_2 : q / 16 = 2
  · skip
    refine n_tabIn (tgt := 60) (off := 59) C (nI 2) (by rw [k1_2]) dX2_afterStep_1 (by decide) (by decide) (by decide) (by decide) ?_
    refine lv_iload_n hx hb dX2_afterStep_60 rfl (lv_at hl 1 rfl) ?_
    refine lv_aload_n hx hb dX2_afterStep_61 rfl (lv_at hl 0 rfl) ?_
    refine lv_iload_n hx hb dX2_afterStep_62 rfl (lv_at hl 3 rfl) ?_
    refine k_w (c_V (As := [.int (nI (q % 16))]) (rest := [.int (xV X)]) C v_X2_72 (c2_readSetting l g a ca na va ra wo wa k st sd og ot clk cnt tk d xs A nr (xSt X) (rs0 ||| xRS X) (rw0 ||| xRW X) (s0 || xSd X) (c0 || xCk X) v w (q % 16) (by omega) hD) ⟨Nat.le_of_ble_eq_true rfl, Nat.le_of_ble_eq_true rfl⟩ (q_recv C hP 0 rfl rfl) (hP) hl.1 rfl rfl (Nat.le_of_ble_eq_true rfl) dX2_afterStep_63 ⟨Nat.le_of_ble_eq_true rfl, Nat.le_of_ble_eq_true rfl⟩) hS (fun _ hq => hq) (fun r63 H1 locs q63 hz63 hk63 hS => ?_)
    obtain ⟨rfl, hP⟩ := q63
    refine W.eq (g2 := F0 m 66 ls [.int (sett st (q % 16 % 4)), .int (xV X)]) rfl ?_
    refine lv_iadd hx hb dX2_afterStep_66 ?_
    exact r_wi C hr hlk hS (⟨sv (by rw [xs_2 k1_2]; rfl), v, by rw [xs_2 k1_2]; exact hv, by rw [xs_2 k1_2]; simp only [xRS, xRW, xSd, xCk, xSt]; rw [← or_as]; exact hP⟩) dX2_afterStep_67
  by_cases k1_4 : q / 16 = 4
  · skip
    refine n_tabIn (tgt := 68) (off := 67) C (nI 4) (by rw [k1_4]) dX2_afterStep_1 (by decide) (by decide) (by decide) (by decide) ?_
    refine lv_iload_n hx hb dX2_afterStep_68 rfl (lv_at hl 1 rfl) ?_
    refine lv_aload_n hx hb dX2_afterStep_69 rfl (lv_at hl 0 rfl) ?_
    refine k_w (c_V (As := []) (rest := [.int (xV X)]) C v_X2_83 (c2_readSeed l g a ca na va ra wo wa k st sd og ot clk cnt tk d xs A nr (xSt X) (rs0 ||| xRS X) (rw0 ||| xRW X) (s0 || xSd X) (c0 || xCk X) v w  hD) ⟨Nat.le_of_ble_eq_true rfl, Nat.le_of_ble_eq_true rfl⟩ (q_recv C hP 0 rfl rfl) (hP) hl.1 rfl rfl (Nat.le_of_ble_eq_true rfl) dX2_afterStep_70 ⟨Nat.le_of_ble_eq_true rfl, Nat.le_of_ble_eq_true rfl⟩) hS (fun _ hq => hq) (fun r70 H1 locs q70 hz70 hk70 hS => ?_)
    obtain ⟨rfl, hP⟩ := q70
    refine W.eq (g2 := F0 m 73 ls [.int (sd), .int (xV X)]) rfl ?_
    refine lv_iload_n hx hb dX2_afterStep_73 rfl (lv_at hl 3 rfl) ?_
    refine lv_iconst (v := nI 1) hx hb dX2_afterStep_74 (by decide) ?_
    refine n_iadd C dX2_afterStep_75 ?_
    refine lv_imul hx hb dX2_afterStep_76 ?_
    refine lv_ixor hx hb dX2_afterStep_77 ?_
    exact r_wi C hr hlk hS (⟨sv (by rw [xs_4 k1_4]; rfl), v, by rw [xs_4 k1_4]; exact hv, by rw [xs_4 k1_4]; simp only [xRS, xRW, xSd, xCk, xSt, Bool.or_true]; exact hP⟩) dX2_afterStep_78
  by_cases k1_5 : q / 16 = 5
  · skip
    refine n_tabIn (tgt := 79) (off := 78) C (nI 5) (by rw [k1_5]) dX2_afterStep_1 (by decide) (by decide) (by decide) (by decide) ?_
    refine lv_iload_n hx hb dX2_afterStep_79 rfl (lv_at hl 1 rfl) ?_
    refine lv_aload_n hx hb dX2_afterStep_80 rfl (lv_at hl 0 rfl) ?_
    refine lv_iload hx hb dX2_afterStep_81 (lv_at hl 4 rfl) ?_
    refine lv_iload_n hx hb dX2_afterStep_83 rfl (lv_at hl 3 rfl) ?_
    refine n_iadd C dX2_afterStep_84 ?_
    refine lv_bipush (v := nI 8) hx hb dX2_afterStep_85 (by decide) ?_
    refine n_irem C (by omega) (by omega) (by omega) dX2_afterStep_87 ?_
    refine lv_aload hx hb dX2_afterStep_88 (lv_at hl 5 rfl) ?_
    refine k_w (c_V (As := [.int (nI ((t + (q % 16)) % 8)), .ref (wo)]) (rest := [.int (xV X)]) C v_X2_86 (c2_readWord l g a ca na va ra wo wa k st sd og ot clk cnt tk d xs A nr (xSt X) (rs0 ||| xRS X) (rw0 ||| xRW X) (s0 || xSd X) (c0 || xCk X) v w ((t + (q % 16)) % 8) (by omega) hD) ⟨Nat.le_of_ble_eq_true rfl, Nat.le_of_ble_eq_true rfl⟩ (q_recv C hP 0 rfl rfl) (hP) hl.1 rfl rfl (Nat.le_of_ble_eq_true rfl) dX2_afterStep_90 ⟨Nat.le_of_ble_eq_true rfl, Nat.le_of_ble_eq_true rfl⟩) hS (fun _ hq => hq) (fun r90 H1 locs q90 hz90 hk90 hS => ?_)
    obtain ⟨rfl, hP⟩ := q90
    refine W.eq (g2 := F0 m 93 ls [.int (d ((t + q % 16) % 8)), .int (xV X)]) rfl ?_
    refine lv_iadd hx hb dX2_afterStep_93 ?_
    exact r_wi C hr hlk hS (⟨sv (by rw [xs_5 k1_5]; rfl), upd v ((t + q % 16) % 8) (d ((t + q % 16) % 8)), by rw [xs_5 k1_5]; exact upd_has (by omega) hv, by rw [xs_5 k1_5]; simp only [xRS, xRW, xSd, xCk, xSt]; rw [← or_as]; exact hP⟩) dX2_afterStep_94
  by_cases k1_6 : q / 16 = 6
  · skip
    refine n_tabIn (tgt := 95) (off := 94) C (nI 6) (by rw [k1_6]) dX2_afterStep_1 (by decide) (by decide) (by decide) (by decide) ?_
    refine lv_iload_n hx hb dX2_afterStep_95 rfl (lv_at hl 1 rfl) ?_
    refine lv_aload_n hx hb dX2_afterStep_96 rfl (lv_at hl 0 rfl) ?_
    refine lv_aload hx hb dX2_afterStep_97 (lv_at hl 5 rfl) ?_
    refine k_w (c_V (As := [.ref (wo)]) (rest := [.int (xV X)]) C v_X2_90 (c2_readClock l g a ca na va ra wo wa k st sd og ot clk cnt tk d xs A nr (xSt X) (rs0 ||| xRS X) (rw0 ||| xRW X) (s0 || xSd X) (c0 || xCk X) v w  hD) ⟨Nat.le_of_ble_eq_true rfl, Nat.le_of_ble_eq_true rfl⟩ (q_recv C hP 0 rfl rfl) (hP) hl.1 rfl rfl (Nat.le_of_ble_eq_true rfl) dX2_afterStep_99 ⟨Nat.le_of_ble_eq_true rfl, Nat.le_of_ble_eq_true rfl⟩) hS (fun _ hq => hq) (fun r99 H1 locs q99 hz99 hk99 hS => ?_)
    obtain ⟨rfl, hP⟩ := q99
    refine W.eq (g2 := F0 m 102 ls [.int (clk), .int (xV X)]) rfl ?_
    refine lv_iadd hx hb dX2_afterStep_102 ?_
    exact r_wi C hr hlk hS (⟨sv (by rw [xs_6 k1_6]; rfl), v, by rw [xs_6 k1_6]; exact hv, by rw [xs_6 k1_6]; simp only [xRS, xRW, xSd, xCk, xSt, Bool.or_true]; exact hP⟩) dX2_afterStep_103
  by_cases k1_7 : q / 16 = 7
  · skip
    refine n_tabIn (tgt := 104) (off := 103) C (nI 7) (by rw [k1_7]) dX2_afterStep_1 (by decide) (by decide) (by decide) (by decide) ?_
    refine lv_iload_n hx hb dX2_afterStep_104 rfl (lv_at hl 1 rfl) ?_
    refine lv_iload_n hx hb dX2_afterStep_105 rfl (lv_at hl 3 rfl) ?_
    refine lv_ishl hx hb dX2_afterStep_106 ?_
    refine lv_iload_n hx hb dX2_afterStep_107 rfl (lv_at hl 1 rfl) ?_
    refine lv_bipush (v := nI 32) hx hb dX2_afterStep_108 (by decide) ?_
    refine lv_iload_n hx hb dX2_afterStep_110 rfl (lv_at hl 3 rfl) ?_
    refine n_isub C (by omega) dX2_afterStep_111 ?_
    refine lv_iushr hx hb dX2_afterStep_112 rfl ?_
    refine lv_ior hx hb dX2_afterStep_113 ?_
    exact r_wi C hr hlk hS (⟨sv (by rw [xs_7 k1_7]; exact jrot_e _ (by omega)), v, by rw [xs_7 k1_7]; exact hv, by rw [xs_7 k1_7]; exact hP⟩) dX2_afterStep_114
  by_cases k1_8 : q / 16 = 8
  · skip
    refine n_tabIn (tgt := 115) (off := 114) C (nI 8) (by rw [k1_8]) dX2_afterStep_1 (by decide) (by decide) (by decide) (by decide) ?_
    refine lv_iload_n hx hb dX2_afterStep_115 rfl (lv_at hl 1 rfl) ?_
    refine lv_iload_n hx hb dX2_afterStep_116 rfl (lv_at hl 3 rfl) ?_
    refine lv_iconst (v := nI 2) hx hb dX2_afterStep_117 (by decide) ?_
    refine n_iadd C dX2_afterStep_118 ?_
    refine k_i (c_SN (As := [.int (xV X), .int (nI ((q % 16) + 2))]) (rest := []) C v_X2_75 (inr_8 _ (List.mem_of_getElem? (i := 11) rfl)) (c4_remainder l g ((xV X)) ((nI ((q % 16) + 2))) (nI_ne0 (by omega) (by omega))) ⟨Nat.le_of_ble_eq_true rfl, Nat.le_of_ble_eq_true rfl⟩ (trivial) hl.1 rfl rfl (Nat.le_of_ble_eq_true rfl) dX2_afterStep_119 ⟨Nat.le_of_ble_eq_true rfl, Nat.le_of_ble_eq_true rfl⟩) (fun r119 q119 => ?_)
    subst q119
    exact r_wi C hr hlk hS (⟨sv (by rw [xs_8 k1_8]; rfl), v, by rw [xs_8 k1_8]; exact hv, by rw [xs_8 k1_8]; exact hP⟩) dX2_afterStep_122
  refine n_tabOut (tgt := 123) C dX2_afterStep_1 (Or.inr (by rw [nI_toInt (by omega)]; omega)) (by decide) ?_
  refine lv_iload_n hx hb dX2_afterStep_123 rfl (lv_at hl 1 rfl) ?_
  exact r_wi C hr hlk hS (⟨sv (by rw [xs_n (by omega)]), v, by rw [xs_n (by omega)]; exact hv, by rw [xs_n (by omega)]; exact hP⟩) dX2_afterStep_124

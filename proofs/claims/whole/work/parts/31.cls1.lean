/-! THE CLASS: Code, World, Notes, Run: what is read -/
theorem hasAnd {x y : Int32} {i : Nat} (h : hasB (x &&& y) i = true) : hasB x i = true ∧ hasB y i = true := andHas (by simpa [hasB] using h)
theorem step_at {qs : List Nat} {j : Nat} (hq : ∀ q ∈ qs, q < 256) (hl8 : qs.length ≤ 8) (hj : j < qs.length) : (((lN (packN qs)).toUInt64 >>> ((nI (8 * (qs.length - 1 - j))).toInt64.toUInt64 &&& Int64.toUInt64 63)).toInt64).toInt32 &&& 255 = nI (qs.getD j 0) := by
  rw [wb_shr (pack_64 hq hl8) (by omega), lN_i, pk_and _ 8 (by decide)]
  refine congrArg nI ?_
  rw [show (nI (packN qs / 2 ^ (8 * (qs.length - 1 - j)))).toBitVec.toNat = packN qs / 2 ^ (8 * (qs.length - 1 - j)) % 4294967296 from rfl]
  have e : 2 ^ (8 * (qs.length - 1 - j)) = 256 ^ (qs.length - 1 - j) := by rw [Nat.pow_mul]
  rw [e, ← pack_get hq hj]
  omega
theorem like_at {a b : List Nat} (ha : ∀ q ∈ a, q < 256) (hb : ∀ q ∈ b, q < 256) (ha8 : a.length ≤ 8) (hb8 : b.length ≤ 8) (hl : a.length = b.length) : lg_cmp (lN (packN a)) (lN (packN b)) = 0 ↔ a = b := by
  constructor
  · intro h
    refine pack_inj ha hb hl ?_
    have h2 : lN (packN a) = lN (packN b) := by
      simp only [lg_cmp] at h
      split at h
      · exact absurd h (by decide)
      · split at h
        · assumption
        · exact absurd h (by decide)
    have h3 := congrArg (fun z : Int64 => z.toBitVec.toNat) h2
    simpa [wb_tn (pack_64 ha ha8), wb_tn (pack_64 hb hb8)] using h3
  · rintro rfl
    simp [lg_cmp]
def CodeAt (g : GG) (qs : List Nat) (a : Nat) (H : Heap) : Prop := va_P g.1 vwCl [(a, .inr (0, [.int (nI ((qs).length)), .long (lN (packN (qs)))]))] H
def WorldAt (g : GG) (dat : Nat → Int32) (clk : Int32) (wo : Nat) (H : Heap) : Prop := ∃ (wa : Nat) (d : Nat → Int32), (∀ i, i < 8 → d i = dat i) ∧ va_P g.1 vwCl [(wo, .inr (3, [.ref (wa), .int (clk)])), (wa, aI g 8 d)] H
def RV (ρ : RunT) (v w : Nat → Int32) : Prop := (∀ i, i < 8 → hasB (rRW ρ) i = true → v i = rWas ρ i) ∧ (∀ t, t < (rRow ρ).length → w t = (rRow ρ).getD t 0)
def RunAt (g : GG) (ρ : RunT) (cnt : Bool) (a : Nat) (H : Heap) : Prop := ∃ (ca na va ra : Nat) (v w : Nat → Int32), RV ρ v w ∧ va_P g.1 vwCl [(a, .inr (2, [.int (nI (rCode ρ)), .ref (ca), .int (rSet ρ), .int (rSeed ρ), .int (nI (rTk ρ)), .ref (na), .ref (ra), .int (nI ((rRow ρ).length)), .int (bI (rBr ρ)), .int (bI (cnt)), .int (rOrg ρ), .int (rAt ρ)])), (ca, .inr (0, [.int (nI ((rStp ρ).length)), .long (lN (packN (rStp ρ)))])), (na, .inr (1, [.int (rRS ρ), .int (rRW ρ), .int (bI (rSd ρ)), .int (bI (rCk ρ)), .ref (va)])), (va, aI g 8 v), (ra, aI g 16 w)] H
def NoteAt (g : GG) (ρ : RunT) (na : Nat) (H : Heap) : Prop := ∃ (va : Nat) (v : Nat → Int32), (∀ i, i < 8 → hasB (rRW ρ) i = true → v i = rWas ρ i) ∧ va_P g.1 vwCl [(na, .inr (1, [.int (rRS ρ), .int (rRW ρ), .int (bI (rSd ρ)), .int (bI (rCk ρ)), .ref (va)])), (va, aI g 8 v)] H
set_option maxHeartbeats 4000000 in
set_option maxRecDepth 100000 in
theorem c0_stepAt (l : Launch) (g : GG) (a j : Nat) (qs : List Nat) (hq : ∀ q ∈ qs, q < 256) (hl8 : qs.length ≤ 8) (hj : j < qs.length) : Met l yX0_stepAt (.code yX0_stepAt cX0_stepAt 2 (some .int) :: wsL_law) ({ frames := 0, cells := 0, slots := 0, locals := 0 } : Room) (mP g [.ref (a), .int (nI (j))] (CodeAt g qs a)) (vp_Si (fun z => z = nI (qs.getD j 0))) 0 0 ((fun _ => False)) := by
  refine mMet (by decide) (Nat.le_of_ble_eq_true rfl) ?_
  intro p e s m below meth c C hr hlk hnm hP ls hl
  have hx := C.1.1
  have hb := C.1.2.1
  have hl : lv_has ls 2 [(0, .ref (a)), (1, .int (nI (j)))] := hl
  have hP : va_P g.1 vwCl [(a, .inr (0, [.int (nI ((qs).length)), .long (lN (packN (qs)))]))] s.heap := hP
  refine lv_aload_n hx hb dX0_stepAt_0 rfl (lv_at hl 0 rfl) ?_
  refine q_get C f_X0_17 (hP) 0 rfl rfl dX0_stepAt_1 ?_
  refine lv_bipush (v := nI 8) hx hb dX0_stepAt_4 (by decide) ?_
  refine lv_aload_n hx hb dX0_stepAt_6 rfl (lv_at hl 0 rfl) ?_
  refine q_get C f_X0_11 (hP) 0 rfl rfl dX0_stepAt_7 ?_
  refine lv_iconst (v := nI 1) hx hb dX0_stepAt_10 (by decide) ?_
  refine n_isub C (by omega) dX0_stepAt_11 ?_
  refine lv_iload_n hx hb dX0_stepAt_12 rfl (lv_at hl 1 rfl) ?_
  refine n_isub C (by omega) dX0_stepAt_13 ?_
  refine n_imul C dX0_stepAt_14 ?_
  refine lv_lushr (v := ((lN (packN (qs))).toUInt64 >>> ((nI (8 * ((((qs).length) - 1) - j))).toInt64.toUInt64 &&& Int64.toUInt64 63)).toInt64) hx hb dX0_stepAt_15 rfl ?_
  refine lv_l2i (v := (((lN (packN (qs))).toUInt64 >>> ((nI (8 * ((((qs).length) - 1) - j))).toInt64.toUInt64 &&& Int64.toUInt64 63)).toInt64).toInt32) hx hb dX0_stepAt_16 rfl ?_
  refine lv_sipush (v := 255) hx hb dX0_stepAt_17 (by decide) ?_
  refine lv_iand hx hb dX0_stepAt_20 ?_
  exact r_i C hr hlk (step_at hq hl8 hj) dX0_stepAt_21
set_option maxHeartbeats 4000000 in
set_option maxRecDepth 100000 in
theorem c0_isLike (l : Launch) (g : GG) (a b : Nat) (qa qb : List Nat) (hqa : ∀ q ∈ qa, q < 256) (hqb : ∀ q ∈ qb, q < 256) (ha8 : qa.length ≤ 8) (hb8 : qb.length ≤ 8) : Met l yX0_isLike (.code yX0_isLike cX0_isLike 2 (some .boolean) :: wsL_law) ({ frames := 0, cells := 0, slots := 0, locals := 0 } : Room) (mP g [.ref (a), .ref (b)] (fun H => CodeAt g qa a H ∧ CodeAt g qb b H)) (vp_Si (fun z => z = bI (decide (qa = qb)))) 0 0 ((fun _ => False)) := by
  refine mMet (by decide) (Nat.le_of_ble_eq_true rfl) ?_
  intro p e s m below meth c C hr hlk hnm hP ls hl
  have hx := C.1.1
  have hb := C.1.2.1
  have hl : lv_has ls 2 [(0, .ref (a)), (1, .ref (b))] := hl
  have hP : va_P g.1 vwCl [(a, .inr (0, [.int (nI ((qa).length)), .long (lN (packN (qa)))])), (b, .inr (0, [.int (nI ((qb).length)), .long (lN (packN (qb)))]))] s.heap := hP.1.app hP.2
  refine lv_aload_n hx hb dX0_isLike_0 rfl (lv_at hl 1 rfl) ?_
  refine lv_ifnull hx hb dX0_isLike_1 ?_
  refine lv_aload_n hx hb dX0_isLike_4 rfl (lv_at hl 0 rfl) ?_
  refine q_get C f_X0_11 (hP) 0 rfl rfl dX0_isLike_5 ?_
  refine lv_aload_n hx hb dX0_isLike_8 rfl (lv_at hl 1 rfl) ?_
  refine q_get C f_X0_11 (hP) 1 rfl rfl dX0_isLike_9 ?_
  refine n_icmp_ne (tgt := 31) C (by omega) (by omega) dX0_isLike_12 (by decide) (fun c12 => ?_) (fun c12 => ?_)
  · skip
    refine lv_iconst (v := 0) hx hb dX0_isLike_31 (by decide) ?_
    exact r_z C hr hlk (by first | exact Or.inl rfl | exact Or.inr rfl | exact bI_or _) (bif0 (decide_eq_false (fun hz => c12 (by rw [hz])))) dX0_isLike_32
  · skip
    refine lv_aload_n hx hb dX0_isLike_15 rfl (lv_at hl 0 rfl) ?_
    refine q_get C f_X0_17 (hP) 0 rfl rfl dX0_isLike_16 ?_
    refine lv_aload_n hx hb dX0_isLike_19 rfl (lv_at hl 1 rfl) ?_
    refine q_get C f_X0_17 (hP) 1 rfl rfl dX0_isLike_20 ?_
    refine W.lcmp hx hb dX0_isLike_23 ?_
    refine lv_if_ne (tgt := 31) hx hb dX0_isLike_24 (by decide) (fun c24 => ?_) (fun c24 => ?_)
    · skip
      refine lv_iconst (v := 0) hx hb dX0_isLike_31 (by decide) ?_
      exact r_z C hr hlk (by first | exact Or.inl rfl | exact Or.inr rfl | exact bI_or _) (bif0 (decide_eq_false (fun hz => c24 ((like_at hqa hqb ha8 hb8 c12).mpr hz)))) dX0_isLike_32
    · skip
      refine lv_iconst (v := 1) hx hb dX0_isLike_27 (by decide) ?_
      refine lv_goto (tgt := 32) hx hb dX0_isLike_28 (by decide) ?_
      exact r_z C hr hlk (by first | exact Or.inl rfl | exact Or.inr rfl | exact bI_or _) (bit1 (decide_eq_true ((like_at hqa hqb ha8 hb8 c12).mp c24))) dX0_isLike_32
set_option maxHeartbeats 4000000 in
set_option maxRecDepth 100000 in
theorem c3_wordAt (l : Launch) (g : GG) (wo i : Nat) (dat : Nat → Int32) (clk : Int32) (hi : i < 8) : Met l yX3_wordAt (.code yX3_wordAt cX3_wordAt 2 (some .int) :: wsL_law) ({ frames := 0, cells := 0, slots := 0, locals := 0 } : Room) (mP g [.ref (wo), .int (nI (i))] (WorldAt g dat clk wo)) (vp_Si (fun z => z = dat i)) 0 0 ((fun _ => False)) := by
  refine mMet (by decide) (Nat.le_of_ble_eq_true rfl) ?_
  intro p e s m below meth c C hr hlk hnm hP ls hl
  have hx := C.1.1
  have hb := C.1.2.1
  have hl : lv_has ls 2 [(0, .ref (wo)), (1, .int (nI (i)))] := hl
  obtain ⟨wa, d, hd, hP⟩ := hP
  refine lv_iload_n hx hb dX3_wordAt_0 rfl (lv_at hl 1 rfl) ?_
  refine lv_if_lt (tgt := 22) hx hb dX3_wordAt_1 (by decide) (fun c1 => by exfalso; exact absurd c1 (nI_pos (by omega))) (fun c1 => ?_)
  refine lv_iload_n hx hb dX3_wordAt_4 rfl (lv_at hl 1 rfl) ?_
  refine lv_aload_n hx hb dX3_wordAt_5 rfl (lv_at hl 0 rfl) ?_
  refine q_get C f_X3_9 (hP) 0 rfl rfl dX3_wordAt_6 ?_
  refine va_alen (v := nI 8) hx hb C.2.1 (hP) 1 0 rfl rfl rfl dX3_wordAt_9 ?_
  refine n_icmp_ge (tgt := 22) C (by omega) (by omega) dX3_wordAt_10 (by decide) (fun c10 => by exfalso; omega) (fun c10 => ?_)
  refine lv_aload_n hx hb dX3_wordAt_13 rfl (lv_at hl 0 rfl) ?_
  refine q_get C f_X3_9 (hP) 0 rfl rfl dX3_wordAt_14 ?_
  refine lv_iload_n hx hb dX3_wordAt_17 rfl (lv_at hl 1 rfl) ?_
  refine n_iald C (hP) 1 rfl (by omega) (by decide) dX3_wordAt_18 ?_
  refine lv_goto (tgt := 23) hx hb dX3_wordAt_19 (by decide) ?_
  exact r_i C hr hlk (hd i hi) dX3_wordAt_23
set_option maxHeartbeats 4000000 in
set_option maxRecDepth 100000 in
theorem c1_changedWords (l : Launch) (g : GG) (na wo : Nat) (ρ : RunT) (dat : Nat → Int32) (clk : Int32) : Met l yX1_changedWords (.code yX1_changedWords cX1_changedWords 4 (some .int) :: wsL_law) ({ frames := 1, cells := 0, slots := 0, locals := 21 } : Room) (mP g [.ref (na), .ref (wo)] (fun H => NoteAt g ρ na H ∧ WorldAt g dat clk wo H)) (vp_Si (fun z => z = chgM dat ρ 8)) 0 0 ((fun _ => False)) := by
  refine mMet (by decide) (Nat.le_of_ble_eq_true rfl) ?_
  intro p e s m below meth c C hr hlk hnm hP ls hl
  have hx := C.1.1
  have hb := C.1.2.1
  have hl : lv_has ls 4 [(0, .ref (na)), (1, .ref (wo))] := hl
  obtain ⟨⟨va, v, hv, hP1⟩, hW⟩ := hP
  obtain ⟨wa, d, hd, hP2⟩ := id hW
  have hP : va_P g.1 vwCl [(na, .inr (1, [.int (rRS ρ), .int (rRW ρ), .int (bI (rSd ρ)), .int (bI (rCk ρ)), .ref (va)])), (va, aI g 8 v), (wo, .inr (3, [.ref (wa), .int (clk)])), (wa, aI g 8 d)] s.heap := hP1.app hP2
  refine lv_iconst (v := 0) hx hb dX1_changedWords_0 (by decide) ?_
  refine lv_istore_n (lv' := [(2, .int (0)), (0, .ref (na)), (1, .ref (wo))]) hx hb dX1_changedWords_1 rfl hl (by decide) rfl (fun ls hl => ?_)
  refine lv_iconst (v := nI 0) hx hb dX1_changedWords_2 (by decide) ?_
  refine lv_istore_n (lv' := [(3, .int (nI (0))), (2, .int (0)), (0, .ref (na)), (1, .ref (wo))]) hx hb dX1_changedWords_3 rfl hl (by decide) rfl (fun ls hl => ?_)
  have lp : ∀ (n_lp : Nat) (i : Nat) (x : Int32) (ls : Array Slot), (i ≤ 8) → (8 + 1 ≤ i + n_lp) → (x = chgM dat ρ i) → lv_has ls 4 [(0, .ref (na)), (1, .ref (wo)), (2, .int (x)), (3, .int (nI (i)))] → W p l e ({ frames := 1, cells := 0, slots := 0, locals := 21 } : Room) s m ([.ref (na), .ref (wo)] : List Value).toArray below meth c s.heap [] 0 0 (MQ below (vp_Si (fun z => z = chgM dat ρ 8)) (([.ref (na), .ref (wo)] : List Value).toArray) s 0 0 (fun _ => False)) (F0 m 4 ls []) := by
    intro n_lp
    induction n_lp with
    | zero =>
      intro i x ls hi hn ex
      exact absurd hn (by omega)
    | succ n_lp ih_lp =>
      intro i x ls hi hn ex hl
      refine lv_iload_n hx hb dX1_changedWords_4 rfl (lv_at hl 3 rfl) ?_
      refine lv_aload_n hx hb dX1_changedWords_5 rfl (lv_at hl 0 rfl) ?_
      refine q_get C f_X1_9 (hP) 0 rfl rfl dX1_changedWords_6 ?_
      refine va_alen (v := nI 8) hx hb C.2.1 (hP) 1 0 rfl rfl rfl dX1_changedWords_9 ?_
      refine n_icmp_ge (tgt := 50) C (by omega) (by omega) dX1_changedWords_10 (by decide) (fun c10 => ?_) (fun c10 => ?_)
      · skip
        refine lv_iload_n hx hb dX1_changedWords_50 rfl (lv_at hl 2 rfl) ?_
        exact r_i C hr hlk (by rw [ex, show i = 8 by omega]) dX1_changedWords_51
      · skip
        refine lv_iload_n hx hb dX1_changedWords_13 rfl (lv_at hl 3 rfl) ?_
        refine lv_aload_n hx hb dX1_changedWords_14 rfl (lv_at hl 0 rfl) ?_
        refine q_get C f_X1_15 (hP) 0 rfl rfl dX1_changedWords_15 ?_
        refine k_i (c_SN (As := [.int (nI (i)), .int (rRW ρ)]) (rest := []) C v_X1_29 (inr_10 _ (List.mem_of_getElem? (i := 22) rfl)) (c4_isIn l g i (rRW ρ)) ⟨Nat.le_of_ble_eq_true rfl, Nat.le_of_ble_eq_true rfl⟩ (trivial) hl.1 rfl rfl (Nat.le_of_ble_eq_true rfl) dX1_changedWords_18 ⟨Nat.le_of_ble_eq_true rfl, Nat.le_of_ble_eq_true rfl⟩) (fun r18 q18 => ?_)
        subst q18
        refine b_ifeq (tgt := 44) C dX1_changedWords_21 (by decide) (fun c21 => ?_) (fun c21 => ?_)
        · skip
          refine n_iinc (d := 1) (lv' := [(3, .int (nI (i + 1))), (0, .ref (na)), (1, .ref (wo)), (2, .int (x))]) C dX1_changedWords_44 (by decide) hl (k := 3) rfl (by decide) rfl (fun ls hl => ?_)
          refine lv_goto (tgt := 4) hx hb dX1_changedWords_47 (by decide) ?_
          exact ih_lp (i + 1) (x) ls (by omega) (by omega) (by rw [ex]; simp only [chgM, chgB, c21, Bool.false_and, Bool.false_eq_true, if_false]) (lv_sub hl [1, 2, 3, 0] rfl)
        · skip
          refine lv_aload_n hx hb dX1_changedWords_24 rfl (lv_at hl 0 rfl) ?_
          refine q_get C f_X1_9 (hP) 0 rfl rfl dX1_changedWords_25 ?_
          refine lv_iload_n hx hb dX1_changedWords_28 rfl (lv_at hl 3 rfl) ?_
          refine n_iald C (hP) 1 rfl (by omega) (by decide) dX1_changedWords_29 ?_
          refine w_topi (y := (rWas ρ i)) (hv i (by omega) c21) ?_
          refine lv_aload_n hx hb dX1_changedWords_30 rfl (lv_at hl 1 rfl) ?_
          refine lv_iload_n hx hb dX1_changedWords_31 rfl (lv_at hl 3 rfl) ?_
          refine k_i (c_V (As := [.int (nI (i))]) (rest := [.int (rWas ρ i)]) C v_X1_37 (c3_wordAt l g wo i dat clk (by omega)) ⟨Nat.le_of_ble_eq_true rfl, Nat.le_of_ble_eq_true rfl⟩ (q_recv C hP 2 rfl rfl) (hW) hl.1 rfl rfl (Nat.le_of_ble_eq_true rfl) dX1_changedWords_32 ⟨Nat.le_of_ble_eq_true rfl, Nat.le_of_ble_eq_true rfl⟩) (fun r32 q32 => ?_)
          subst q32
          refine lv_icmp_eq (tgt := 44) hx hb dX1_changedWords_35 (by decide) (fun c35 => ?_) (fun c35 => ?_)
          · skip
            refine n_iinc (d := 1) (lv' := [(3, .int (nI (i + 1))), (0, .ref (na)), (1, .ref (wo)), (2, .int (x))]) C dX1_changedWords_44 (by decide) hl (k := 3) rfl (by decide) rfl (fun ls hl => ?_)
            refine lv_goto (tgt := 4) hx hb dX1_changedWords_47 (by decide) ?_
            exact ih_lp (i + 1) (x) ls (by omega) (by omega) (by rw [ex]; simp [chgM, chgB, c35]) (lv_sub hl [1, 2, 3, 0] rfl)
          · skip
            refine lv_iload_n hx hb dX1_changedWords_38 rfl (lv_at hl 2 rfl) ?_
            refine lv_iconst (v := 1) hx hb dX1_changedWords_39 (by decide) ?_
            refine lv_iload_n hx hb dX1_changedWords_40 rfl (lv_at hl 3 rfl) ?_
            refine lv_ishl hx hb dX1_changedWords_41 ?_
            refine lv_ior hx hb dX1_changedWords_42 ?_
            refine lv_istore_n (lv' := [(2, .int ((x) ||| ((1 : Int32) <<< ((nI (i)) &&& 31)))), (0, .ref (na)), (1, .ref (wo)), (3, .int (nI (i)))]) hx hb dX1_changedWords_43 rfl hl (by decide) rfl (fun ls hl => ?_)
            refine n_iinc (d := 1) (lv' := [(3, .int (nI (i + 1))), (2, .int ((x) ||| ((1 : Int32) <<< ((nI (i)) &&& 31)))), (0, .ref (na)), (1, .ref (wo))]) C dX1_changedWords_44 (by decide) hl (k := 3) rfl (by decide) rfl (fun ls hl => ?_)
            refine lv_goto (tgt := 4) hx hb dX1_changedWords_47 (by decide) ?_
            exact ih_lp (i + 1) ((x) ||| ((1 : Int32) <<< ((nI (i)) &&& 31))) ls (by omega) (by omega) (by rw [ex]; simp only [chgM, chgB, c21, hv i (by omega) c21, c35, Bool.true_and, decide_true, if_true, not_false_eq_true]; rfl) (lv_sub hl [2, 3, 1, 0] rfl)
  exact lp (9) (0) (0) ls (by omega) (by omega) (rfl) (lv_sub hl [2, 3, 1, 0] rfl)
def agrB (ρ σ : RunT) : Bool := (List.range 8).all (fun i => (!(hasB (rRW ρ &&& rRW σ) i && decide (¬ rWas ρ i = rWas σ i))))
set_option maxHeartbeats 4000000 in
set_option maxRecDepth 100000 in
theorem c1_agrees (l : Launch) (g : GG) (na nb : Nat) (ρ σ : RunT) : Met l yX1_agreesOnSharedWords (.code yX1_agreesOnSharedWords cX1_agreesOnSharedWords 4 (some .boolean) :: wsL_law) ({ frames := 1, cells := 0, slots := 0, locals := 21 } : Room) (mP g [.ref (na), .ref (nb)] (fun H => NoteAt g ρ na H ∧ NoteAt g σ nb H)) (vp_Si (fun z => z = bI (agrB ρ σ))) 0 0 ((fun _ => False)) := by
  refine mMet (by decide) (Nat.le_of_ble_eq_true rfl) ?_
  intro p e s m below meth c C hr hlk hnm hP ls hl
  have hx := C.1.1
  have hb := C.1.2.1
  have hl : lv_has ls 4 [(0, .ref (na)), (1, .ref (nb))] := hl
  obtain ⟨⟨va, v, hv, hP1⟩, ⟨vb, v2, hv2, hP2⟩⟩ := hP
  have hP : va_P g.1 vwCl [(na, .inr (1, [.int (rRS ρ), .int (rRW ρ), .int (bI (rSd ρ)), .int (bI (rCk ρ)), .ref (va)])), (va, aI g 8 v), (nb, .inr (1, [.int (rRS σ), .int (rRW σ), .int (bI (rSd σ)), .int (bI (rCk σ)), .ref (vb)])), (vb, aI g 8 v2)] s.heap := hP1.app hP2
  refine lv_aload_n hx hb dX1_agreesOnSharedWords_0 rfl (lv_at hl 0 rfl) ?_
  refine q_get C f_X1_15 (hP) 0 rfl rfl dX1_agreesOnSharedWords_1 ?_
  refine lv_aload_n hx hb dX1_agreesOnSharedWords_4 rfl (lv_at hl 1 rfl) ?_
  refine q_get C f_X1_15 (hP) 2 rfl rfl dX1_agreesOnSharedWords_5 ?_
  refine lv_iand hx hb dX1_agreesOnSharedWords_8 ?_
  refine lv_istore_n (lv' := [(2, .int ((rRW ρ) &&& (rRW σ))), (0, .ref (na)), (1, .ref (nb))]) hx hb dX1_agreesOnSharedWords_9 rfl hl (by decide) rfl (fun ls hl => ?_)
  refine lv_iconst (v := nI 0) hx hb dX1_agreesOnSharedWords_10 (by decide) ?_
  refine lv_istore_n (lv' := [(3, .int (nI (0))), (2, .int ((rRW ρ) &&& (rRW σ))), (0, .ref (na)), (1, .ref (nb))]) hx hb dX1_agreesOnSharedWords_11 rfl hl (by decide) rfl (fun ls hl => ?_)
  have lp : ∀ (n_lp : Nat) (i : Nat) (ls : Array Slot), (i ≤ 8) → (8 + 1 ≤ i + n_lp) → (∀ j, j < i → (!(hasB (rRW ρ &&& rRW σ) j && decide (¬ rWas ρ j = rWas σ j))) = true) → lv_has ls 4 [(0, .ref (na)), (1, .ref (nb)), (2, .int (rRW ρ &&& rRW σ)), (3, .int (nI (i)))] → W p l e ({ frames := 1, cells := 0, slots := 0, locals := 21 } : Room) s m ([.ref (na), .ref (nb)] : List Value).toArray below meth c s.heap [] 0 0 (MQ below (vp_Si (fun z => z = bI (agrB ρ σ))) (([.ref (na), .ref (nb)] : List Value).toArray) s 0 0 (fun _ => False)) (F0 m 12 ls []) := by
    intro n_lp
    induction n_lp with
    | zero =>
      intro i ls hi hn hg
      exact absurd hn (by omega)
    | succ n_lp ih_lp =>
      intro i ls hi hn hg hl
      refine lv_iload_n hx hb dX1_agreesOnSharedWords_12 rfl (lv_at hl 3 rfl) ?_
      refine lv_aload_n hx hb dX1_agreesOnSharedWords_13 rfl (lv_at hl 0 rfl) ?_
      refine q_get C f_X1_9 (hP) 0 rfl rfl dX1_agreesOnSharedWords_14 ?_
      refine va_alen (v := nI 8) hx hb C.2.1 (hP) 1 0 rfl rfl rfl dX1_agreesOnSharedWords_17 ?_
      refine n_icmp_ge (tgt := 61) C (by omega) (by omega) dX1_agreesOnSharedWords_18 (by decide) (fun c18 => ?_) (fun c18 => ?_)
      · skip
        refine lv_iconst (v := 1) hx hb dX1_agreesOnSharedWords_61 (by decide) ?_
        exact r_z C hr hlk (by first | exact Or.inl rfl | exact Or.inr rfl | exact bI_or _) (bit1 (allR.mpr (fun j hj => hg j (by omega)))) dX1_agreesOnSharedWords_62
      · skip
        refine lv_iload_n hx hb dX1_agreesOnSharedWords_21 rfl (lv_at hl 3 rfl) ?_
        refine lv_aload_n hx hb dX1_agreesOnSharedWords_22 rfl (lv_at hl 1 rfl) ?_
        refine q_get C f_X1_9 (hP) 2 rfl rfl dX1_agreesOnSharedWords_23 ?_
        refine va_alen (v := nI 8) hx hb C.2.1 (hP) 3 0 rfl rfl rfl dX1_agreesOnSharedWords_26 ?_
        refine n_icmp_ge (tgt := 61) C (by omega) (by omega) dX1_agreesOnSharedWords_27 (by decide) (fun c27 => by exfalso; omega) (fun c27 => ?_)
        refine lv_iload_n hx hb dX1_agreesOnSharedWords_30 rfl (lv_at hl 3 rfl) ?_
        refine lv_iload_n hx hb dX1_agreesOnSharedWords_31 rfl (lv_at hl 2 rfl) ?_
        refine k_i (c_SN (As := [.int (nI (i)), .int (rRW ρ &&& rRW σ)]) (rest := []) C v_X1_29 (inr_10 _ (List.mem_of_getElem? (i := 22) rfl)) (c4_isIn l g i (rRW ρ &&& rRW σ)) ⟨Nat.le_of_ble_eq_true rfl, Nat.le_of_ble_eq_true rfl⟩ (trivial) hl.1 rfl rfl (Nat.le_of_ble_eq_true rfl) dX1_agreesOnSharedWords_32 ⟨Nat.le_of_ble_eq_true rfl, Nat.le_of_ble_eq_true rfl⟩) (fun r32 q32 => ?_)
        subst q32
        refine b_ifeq (tgt := 55) C dX1_agreesOnSharedWords_35 (by decide) (fun c35 => ?_) (fun c35 => ?_)
        · skip
          refine n_iinc (d := 1) (lv' := [(3, .int (nI (i + 1))), (0, .ref (na)), (1, .ref (nb)), (2, .int (rRW ρ &&& rRW σ))]) C dX1_agreesOnSharedWords_55 (by decide) hl (k := 3) rfl (by decide) rfl (fun ls hl => ?_)
          refine lv_goto (tgt := 12) hx hb dX1_agreesOnSharedWords_58 (by decide) ?_
          exact ih_lp (i + 1) ls (by omega) (by omega) (lt_s1 hg (by rw [c35]; simp)) (lv_sub hl [1, 2, 3, 0] rfl)
        · skip
          have hw := hasAnd c35
          refine lv_aload_n hx hb dX1_agreesOnSharedWords_38 rfl (lv_at hl 0 rfl) ?_
          refine q_get C f_X1_9 (hP) 0 rfl rfl dX1_agreesOnSharedWords_39 ?_
          refine lv_iload_n hx hb dX1_agreesOnSharedWords_42 rfl (lv_at hl 3 rfl) ?_
          refine n_iald C (hP) 1 rfl (by omega) (by decide) dX1_agreesOnSharedWords_43 ?_
          refine w_topi (y := (rWas ρ i)) (hv i (by omega) hw.1) ?_
          refine lv_aload_n hx hb dX1_agreesOnSharedWords_44 rfl (lv_at hl 1 rfl) ?_
          refine q_get C f_X1_9 (hP) 2 rfl rfl dX1_agreesOnSharedWords_45 ?_
          refine lv_iload_n hx hb dX1_agreesOnSharedWords_48 rfl (lv_at hl 3 rfl) ?_
          refine n_iald C (hP) 3 rfl (by omega) (by decide) dX1_agreesOnSharedWords_49 ?_
          refine w_topi (y := (rWas σ i)) (hv2 i (by omega) hw.2) ?_
          refine lv_icmp_eq (tgt := 55) hx hb dX1_agreesOnSharedWords_50 (by decide) (fun c50 => ?_) (fun c50 => ?_)
          · skip
            refine n_iinc (d := 1) (lv' := [(3, .int (nI (i + 1))), (0, .ref (na)), (1, .ref (nb)), (2, .int (rRW ρ &&& rRW σ))]) C dX1_agreesOnSharedWords_55 (by decide) hl (k := 3) rfl (by decide) rfl (fun ls hl => ?_)
            refine lv_goto (tgt := 12) hx hb dX1_agreesOnSharedWords_58 (by decide) ?_
            exact ih_lp (i + 1) ls (by omega) (by omega) (lt_s1 hg (by rw [c35, c50]; simp)) (lv_sub hl [1, 2, 3, 0] rfl)
          · skip
            refine lv_iconst (v := 0) hx hb dX1_agreesOnSharedWords_53 (by decide) ?_
            exact r_z C hr hlk (by first | exact Or.inl rfl | exact Or.inr rfl | exact bI_or _) (bif0 (allRf (i := i) (by omega) (by rw [c35, decide_eq_true c50]; rfl))) dX1_agreesOnSharedWords_54
  exact lp (9) (0) ls (by omega) (by omega) (fun j hj => absurd hj (by omega)) (lv_sub hl [2, 3, 1, 0] rfl)

/-! THE CLASS: Run: what is read -/
def rowI (ρ : RunT) (t : Int32) : Int32 := if 0 ≤ t.toInt ∧ t.toInt < ((rRow ρ).length : Int) then (rRow ρ).getD t.toInt.toNat 0 else -1
theorem rowI_nI {ρ : RunT} {t : Nat} (h : t < (rRow ρ).length) (h16 : (rRow ρ).length ≤ 16) : rowI ρ (nI t) = (rRow ρ).getD t 0 := by
  rw [rowI, nI_toInt (by omega), if_pos (by omega)]; rfl
theorem ge_nI {t : Int32} {n : Nat} (c1 : ¬ t < 0) (c2 : ¬ nI n ≤ t) (hn : n < 2 ^ 31) : ∃ j : Nat, j < n ∧ t = nI j := by
  obtain ⟨j, hj, rfl⟩ := nI_of c1
  refine ⟨j, ?_, rfl⟩
  rcases Nat.lt_or_ge j n with h | h
  · exact h
  · exact absurd (nI_le h hj) c2
def cmpB (ρ : RunT) : Bool := decide (rOrg ρ = (-1)) && !rBr ρ && !rCk ρ
def rlkB (ρ σ : RunT) : Bool := decide (rStp ρ = rStp σ) && decide (rSet ρ = rSet σ) && decide (rSeed ρ = rSeed σ) && decide (rTk ρ = rTk σ) && decide (rRW ρ = rRW σ) && agrB ρ σ
def msk (i : Nat) : Int32 := ((15 : Int32) <<< ((nI (4 * i)) &&& 31)) ^^^ (-1)
def pwB (ρ σ : RunT) (i : Nat) : Bool := decide (rStp ρ = rStp σ) && decide (rSeed ρ = rSeed σ) && decide (rSet ρ &&& msk i = rSet σ &&& msk i) && agrB ρ σ
def usB (dat : Nat → Int32) (ρ : RunT) (qs : List Nat) (tk : Nat) : Bool := cmpB ρ && decide (tk ≤ rTk ρ) && decide (rStp ρ = qs) && decide (chgM dat ρ 8 = 0)
def fitB (ρ : RunT) (all : Int32) : Bool := (List.range 4).all (fun i => !hasB (rRS ρ) i || decide (sett (rSet ρ) i = sett all i))
def fsdB (ρ : RunT) (own : Int32) : Bool := !rSd ρ || decide (rSeed ρ = own)
def gsI (ρ : RunT) : Int32 := if rSd ρ then (if rSeed ρ < 8 then (1 : Int32) <<< (rSeed ρ &&& 31) else 0) else 255
def fotN (ρ σ : RunT) : Nat := if fstE (fun t => decide (¬ (rRow ρ).getD t 0 = (rRow σ).getD t 0)) (min (rRow ρ).length (rRow σ).length) 0 < min (rRow ρ).length (rRow σ).length then fstE (fun t => decide (¬ (rRow ρ).getD t 0 = (rRow σ).getD t 0)) (min (rRow ρ).length (rRow σ).length) 0 else if (rRow ρ).length = (rRow σ).length then rTk ρ else min (rRow ρ).length (rRow σ).length
set_option maxHeartbeats 4000000 in
set_option maxRecDepth 100000 in
theorem c2_isFork (l : Launch) (g : GG) (a : Nat) (ρ : RunT) (cnt : Bool) (hO : RunOK ρ) : Met l yX2_isFork (.code yX2_isFork cX2_isFork 1 (some .boolean) :: wsL_law) ({ frames := 0, cells := 0, slots := 0, locals := 0 } : Room) (mP g [.ref (a)] (RunAt g ρ cnt a)) (vp_Si (fun z => z = bI (decide (¬ rOrg ρ = (-1))))) 0 0 ((fun _ => False)) := by
  refine mMet (by decide) (Nat.le_of_ble_eq_true rfl) ?_
  intro p e s m below meth c C hr hlk hnm hP ls hl
  have hx := C.1.1
  have hb := C.1.2.1
  have hl : lv_has ls 1 [(0, .ref (a))] := hl
  have hRA := hP
  obtain ⟨ca, na, va, ra, v, w, hv, hP⟩ := hP
  have h16 := Nat.le_trans hO.2.2.2.2.2.2.2.1 hO.2.2.2.2.2.2.1
  have h8 := hO.2.1
  have ht16 := hO.2.2.2.2.2.2.1
  have hNA : NoteAt g ρ na s.heap := ⟨va, v, hv.1, hP.sub [2, 3] rfl⟩
  have hCA : CodeAt g (rStp ρ) ca s.heap := hP.sub [1] rfl
  refine lv_aload_n hx hb dX2_isFork_0 rfl (lv_at hl 0 rfl) ?_
  refine q_get C f_X2_22 (hP) 0 rfl rfl dX2_isFork_1 ?_
  refine lv_iconst (v := (-1)) hx hb dX2_isFork_4 (by decide) ?_
  refine lv_icmp_eq (tgt := 12) hx hb dX2_isFork_5 (by decide) (fun c5 => ?_) (fun c5 => ?_)
  · skip
    refine lv_iconst (v := 0) hx hb dX2_isFork_12 (by decide) ?_
    exact r_z C hr hlk (by first | exact Or.inl rfl | exact Or.inr rfl | exact bI_or _) (bif0 (decide_eq_false (Classical.not_not.mpr c5))) dX2_isFork_13
  · skip
    refine lv_iconst (v := 1) hx hb dX2_isFork_8 (by decide) ?_
    refine lv_goto (tgt := 13) hx hb dX2_isFork_9 (by decide) ?_
    exact r_z C hr hlk (by first | exact Or.inl rfl | exact Or.inr rfl | exact bI_or _) (bit1 (decide_eq_true c5)) dX2_isFork_13
set_option maxHeartbeats 4000000 in
set_option maxRecDepth 100000 in
theorem c2_rowAt (l : Launch) (g : GG) (a : Nat) (ρ : RunT) (cnt : Bool) (h16 : (rRow ρ).length ≤ 16) (t : Int32) : Met l yX2_rowAt (.code yX2_rowAt cX2_rowAt 2 (some .int) :: wsL_law) ({ frames := 0, cells := 0, slots := 0, locals := 0 } : Room) (mP g [.ref (a), .int (t)] (RunAt g ρ cnt a)) (vp_Si (fun z => z = rowI ρ t)) 0 0 ((fun _ => False)) := by
  refine mMet (by decide) (Nat.le_of_ble_eq_true rfl) ?_
  intro p e s m below meth c C hr hlk hnm hP ls hl
  have hx := C.1.1
  have hb := C.1.2.1
  have hl : lv_has ls 2 [(0, .ref (a)), (1, .int (t))] := hl
  have hRA := hP
  obtain ⟨ca, na, va, ra, v, w, hv, hP⟩ := hP
  refine lv_iload_n hx hb dX2_rowAt_0 rfl (lv_at hl 1 rfl) ?_
  refine lv_if_lt (tgt := 30) hx hb dX2_rowAt_1 (by decide) (fun c1 => ?_) (fun c1 => ?_)
  · skip
    refine lv_iconst (v := (-1)) hx hb dX2_rowAt_30 (by decide) ?_
    exact r_i C hr hlk (by rw [rowI, if_neg (by simp only [fa_lt, fa_le, li_0] at c1; omega)]) dX2_rowAt_31
  · skip
    refine lv_iload_n hx hb dX2_rowAt_4 rfl (lv_at hl 1 rfl) ?_
    refine lv_aload_n hx hb dX2_rowAt_5 rfl (lv_at hl 0 rfl) ?_
    refine q_get C f_X2_49 (hP) 0 rfl rfl dX2_rowAt_6 ?_
    refine lv_icmp_ge (tgt := 30) hx hb dX2_rowAt_9 (by decide) (fun c9 => ?_) (fun c9 => ?_)
    · skip
      refine lv_iconst (v := (-1)) hx hb dX2_rowAt_30 (by decide) ?_
      exact r_i C hr hlk (by rw [rowI, if_neg (by simp only [fa_lt, fa_le, li_0, nI_toInt (show (rRow ρ).length < 2 ^ 31 by omega)] at c1 c9; omega)]) dX2_rowAt_31
    · skip
      obtain ⟨j, hj, rfl⟩ := ge_nI c1 c9 (by omega)
      refine lv_iload_n hx hb dX2_rowAt_12 rfl (lv_at hl 1 rfl) ?_
      refine lv_aload_n hx hb dX2_rowAt_13 rfl (lv_at hl 0 rfl) ?_
      refine q_get C f_X2_18 (hP) 0 rfl rfl dX2_rowAt_14 ?_
      refine va_alen (v := nI 16) hx hb C.2.1 (hP) 4 0 rfl rfl rfl dX2_rowAt_17 ?_
      refine n_icmp_ge (tgt := 30) C (by omega) (by omega) dX2_rowAt_18 (by decide) (fun c18 => by exfalso; omega) (fun c18 => ?_)
      refine lv_aload_n hx hb dX2_rowAt_21 rfl (lv_at hl 0 rfl) ?_
      refine q_get C f_X2_18 (hP) 0 rfl rfl dX2_rowAt_22 ?_
      refine lv_iload_n hx hb dX2_rowAt_25 rfl (lv_at hl 1 rfl) ?_
      refine n_iald C (hP) 4 rfl (by omega) (by decide) dX2_rowAt_26 ?_
      refine lv_goto (tgt := 31) hx hb dX2_rowAt_27 (by decide) ?_
      exact r_i C hr hlk ((hv.2 j hj).trans (rowI_nI hj h16).symm) dX2_rowAt_31
set_option maxHeartbeats 4000000 in
set_option maxRecDepth 100000 in
theorem c2_lastRow (l : Launch) (g : GG) (a : Nat) (ρ : RunT) (cnt : Bool) (h16 : (rRow ρ).length ≤ 16) : Met l yX2_lastRow (.code yX2_lastRow cX2_lastRow 1 (some .int) :: wsL_law) ({ frames := 1, cells := 0, slots := 0, locals := 21 } : Room) (mP g [.ref (a)] (RunAt g ρ cnt a)) (vp_Si (fun z => z = lastR (rRow ρ))) 0 0 ((fun _ => False)) := by
  refine mMet (by decide) (Nat.le_of_ble_eq_true rfl) ?_
  intro p e s m below meth c C hr hlk hnm hP ls hl
  have hx := C.1.1
  have hb := C.1.2.1
  have hl : lv_has ls 1 [(0, .ref (a))] := hl
  have hRA := hP
  obtain ⟨ca, na, va, ra, v, w, hv, hP⟩ := hP
  refine lv_aload_n hx hb dX2_lastRow_0 rfl (lv_at hl 0 rfl) ?_
  refine q_get C f_X2_49 (hP) 0 rfl rfl dX2_lastRow_1 ?_
  refine n_ifne (tgt := 11) C (by omega) dX2_lastRow_4 (by decide) (fun c4 => ?_) (fun c4 => ?_)
  · skip
    refine lv_aload_n hx hb dX2_lastRow_11 rfl (lv_at hl 0 rfl) ?_
    refine lv_aload_n hx hb dX2_lastRow_12 rfl (lv_at hl 0 rfl) ?_
    refine q_get C f_X2_49 (hP) 0 rfl rfl dX2_lastRow_13 ?_
    refine lv_iconst (v := nI 1) hx hb dX2_lastRow_16 (by decide) ?_
    refine n_isub C (by omega) dX2_lastRow_17 ?_
    refine k_i (c_V (As := [.int (nI (((rRow ρ).length) - 1))]) (rest := []) C v_X2_45 (c2_rowAt l g a ρ cnt h16 ((nI (((rRow ρ).length) - 1)))) ⟨Nat.le_of_ble_eq_true rfl, Nat.le_of_ble_eq_true rfl⟩ (q_recv C hP 0 rfl rfl) (hRA) hl.1 rfl rfl (Nat.le_of_ble_eq_true rfl) dX2_lastRow_18 ⟨Nat.le_of_ble_eq_true rfl, Nat.le_of_ble_eq_true rfl⟩) (fun r18 q18 => ?_)
    subst q18
    exact r_i C hr hlk (by rw [rowI_nI (by omega) h16, ← lastTake c4 (Nat.le_refl _), List.take_length]) dX2_lastRow_21
  · skip
    refine lv_iconst (v := 0) hx hb dX2_lastRow_7 (by decide) ?_
    refine lv_goto (tgt := 21) hx hb dX2_lastRow_8 (by decide) ?_
    exact r_i C hr hlk (by rw [List.length_eq_zero_iff.mp c4]; rfl) dX2_lastRow_21
theorem min_nI {a b : Nat} (ha : a ≤ 16) (hb : b ≤ 16) : (if nI b < nI a then nI b else nI a) = nI (min a b) := by
  by_cases h : b < a
  · rw [if_pos ((nI_ltI (by omega) (by omega)).mpr h), Nat.min_eq_right (by omega)]
  · rw [if_neg (fun q => h ((nI_ltI (by omega) (by omega)).mp q)), Nat.min_eq_left (by omega)]
set_option maxHeartbeats 4000000 in
set_option maxRecDepth 100000 in
theorem c2_firstOtherTick (l : Launch) (g : GG) (a b : Nat) (ρ σ : RunT) (cnt cn2 : Bool) (hO : RunOK ρ) (hO2 : RunOK σ) : Met l yX2_firstOtherTick (.code yX2_firstOtherTick cX2_firstOtherTick 4 (some .int) :: wsL_law) ({ frames := 1, cells := 0, slots := 0, locals := 21 } : Room) (mP g [.ref (a), .ref (b)] (fun H => RunAt g ρ cnt a H ∧ RunAt g σ cn2 b H)) (vp_Si (fun z => z = nI (fotN ρ σ))) 0 0 ((fun _ => False)) := by
  refine mMet (by decide) (Nat.le_of_ble_eq_true rfl) ?_
  intro p e s m below meth c C hr hlk hnm hP ls hl
  have hx := C.1.1
  have hb := C.1.2.1
  have hl : lv_has ls 4 [(0, .ref (a)), (1, .ref (b))] := hl
  obtain ⟨hRA, hRB⟩ := hP
  obtain ⟨ca, na, va, ra, v, w, hv, hP1⟩ := id hRA
  obtain ⟨cb, nb, vb, rb, v2, w2, hv2, hP2⟩ := id hRB
  have h16 := Nat.le_trans hO.2.2.2.2.2.2.2.1 hO.2.2.2.2.2.2.1
  have k16 := Nat.le_trans hO2.2.2.2.2.2.2.2.1 hO2.2.2.2.2.2.2.1
  have ht16 := hO.2.2.2.2.2.2.1
  have kt16 := hO2.2.2.2.2.2.2.1
  have h8 := hO.2.1
  have k8 := hO2.2.1
  have hNA : NoteAt g ρ na s.heap := ⟨va, v, hv.1, hP1.sub [2, 3] rfl⟩
  have hNB : NoteAt g σ nb s.heap := ⟨vb, v2, hv2.1, hP2.sub [2, 3] rfl⟩
  have hCA : CodeAt g (rStp ρ) ca s.heap := hP1.sub [1] rfl
  have hCB : CodeAt g (rStp σ) cb s.heap := hP2.sub [1] rfl
  have hP : va_P g.1 vwCl [(a, .inr (2, [.int (nI (rCode ρ)), .ref (ca), .int (rSet ρ), .int (rSeed ρ), .int (nI (rTk ρ)), .ref (na), .ref (ra), .int (nI ((rRow ρ).length)), .int (bI (rBr ρ)), .int (bI (cnt)), .int (rOrg ρ), .int (rAt ρ)])), (ca, .inr (0, [.int (nI ((rStp ρ).length)), .long (lN (packN (rStp ρ)))])), (na, .inr (1, [.int (rRS ρ), .int (rRW ρ), .int (bI (rSd ρ)), .int (bI (rCk ρ)), .ref (va)])), (va, aI g 8 v), (ra, aI g 16 w), (b, .inr (2, [.int (nI (rCode σ)), .ref (cb), .int (rSet σ), .int (rSeed σ), .int (nI (rTk σ)), .ref (nb), .ref (rb), .int (nI ((rRow σ).length)), .int (bI (rBr σ)), .int (bI (cn2)), .int (rOrg σ), .int (rAt σ)])), (cb, .inr (0, [.int (nI ((rStp σ).length)), .long (lN (packN (rStp σ)))])), (nb, .inr (1, [.int (rRS σ), .int (rRW σ), .int (bI (rSd σ)), .int (bI (rCk σ)), .ref (vb)])), (vb, aI g 8 v2), (rb, aI g 16 w2)] s.heap := hP1.app hP2
  obtain ⟨Z, hZ⟩ : ∃ Z : Nat, Z = fstE (fun t => decide (¬ (rRow ρ).getD t 0 = (rRow σ).getD t 0)) (min (rRow ρ).length (rRow σ).length) 0 := ⟨_, rfl⟩
  have mnl := Nat.min_le_left (rRow ρ).length (rRow σ).length
  have mnr := Nat.min_le_right (rRow ρ).length (rRow σ).length
  refine lv_aload_n hx hb dX2_firstOtherTick_0 rfl (lv_at hl 0 rfl) ?_
  refine q_get C f_X2_49 (hP) 0 rfl rfl dX2_firstOtherTick_1 ?_
  refine lv_aload_n hx hb dX2_firstOtherTick_4 rfl (lv_at hl 1 rfl) ?_
  refine q_get C f_X2_49 (hP) 5 rfl rfl dX2_firstOtherTick_5 ?_
  refine va_mmin hx hb (by rw [C.1.2.2.1]; exact hl.1.symm) C.1.2.2.2.1 (C.1.2.2.2.2 _ (inr_17 _ (List.mem_of_getElem? (i := 0) rfl))) (C.1.2.2.2.2 _ (inr_17 _ (List.mem_of_getElem? (i := 1) rfl))) (C.1.2.2.2.2 _ (inr_17 _ (List.mem_of_getElem? (i := 2) rfl))) (C.1.2.2.2.2 _ (inr_17 _ (List.mem_of_getElem? (i := 3) rfl))) (Nat.le_of_ble_eq_true rfl) (Nat.le_of_ble_eq_true rfl) (Nat.zero_le _) (Nat.zero_le _) dX2_firstOtherTick_8 ?_
  refine w_topi (y := (nI (min (rRow ρ).length (rRow σ).length))) (min_nI h16 k16) ?_
  refine lv_istore_n (lv' := [(2, .int (nI (min (rRow ρ).length (rRow σ).length))), (0, .ref (a)), (1, .ref (b))]) hx hb dX2_firstOtherTick_11 rfl hl (by decide) rfl (fun ls hl => ?_)
  refine lv_iconst (v := nI 0) hx hb dX2_firstOtherTick_12 (by decide) ?_
  refine lv_istore_n (lv' := [(3, .int (nI (0))), (2, .int (nI (min (rRow ρ).length (rRow σ).length))), (0, .ref (a)), (1, .ref (b))]) hx hb dX2_firstOtherTick_13 rfl hl (by decide) rfl (fun ls hl => ?_)
  have lp : ∀ (n_lp : Nat) (t : Nat) (ls : Array Slot), (t ≤ min (rRow ρ).length (rRow σ).length) → (min (rRow ρ).length (rRow σ).length + 1 ≤ t + n_lp) → (Z = fstE (fun t => decide (¬ (rRow ρ).getD t 0 = (rRow σ).getD t 0)) (min (rRow ρ).length (rRow σ).length - t) t) → lv_has ls 4 [(0, .ref (a)), (1, .ref (b)), (2, .int (nI (min (rRow ρ).length (rRow σ).length))), (3, .int (nI (t)))] → W p l e ({ frames := 1, cells := 0, slots := 0, locals := 21 } : Room) s m ([.ref (a), .ref (b)] : List Value).toArray below meth c s.heap [] 0 0 (MQ below (vp_Si (fun z => z = nI (fotN ρ σ))) (([.ref (a), .ref (b)] : List Value).toArray) s 0 0 (fun _ => False)) (F0 m 14 ls []) := by
    intro n_lp
    induction n_lp with
    | zero =>
      intro t ls ht hn hz
      exact absurd hn (by omega)
    | succ n_lp ih_lp =>
      intro t ls ht hn hz hl
      refine lv_iload_n hx hb dX2_firstOtherTick_14 rfl (lv_at hl 3 rfl) ?_
      refine lv_iload_n hx hb dX2_firstOtherTick_15 rfl (lv_at hl 2 rfl) ?_
      refine n_icmp_ge (tgt := 40) C (by omega) (by omega) dX2_firstOtherTick_16 (by decide) (fun c16 => ?_) (fun c16 => ?_)
      · skip
        refine lv_aload_n hx hb dX2_firstOtherTick_40 rfl (lv_at hl 0 rfl) ?_
        refine q_get C f_X2_49 (hP) 0 rfl rfl dX2_firstOtherTick_41 ?_
        refine lv_aload_n hx hb dX2_firstOtherTick_44 rfl (lv_at hl 1 rfl) ?_
        refine q_get C f_X2_49 (hP) 5 rfl rfl dX2_firstOtherTick_45 ?_
        refine n_icmp_ne (tgt := 58) C (by omega) (by omega) dX2_firstOtherTick_48 (by decide) (fun c48 => ?_) (fun c48 => ?_)
        · skip
          refine lv_iload_n hx hb dX2_firstOtherTick_58 rfl (lv_at hl 2 rfl) ?_
          exact r_i C hr hlk (by rw [fotN, ← hZ, fe_end hz c16, if_neg (by omega), if_neg c48]) dX2_firstOtherTick_59
        · skip
          refine lv_aload_n hx hb dX2_firstOtherTick_51 rfl (lv_at hl 0 rfl) ?_
          refine q_get C f_X2_42 (hP) 0 rfl rfl dX2_firstOtherTick_52 ?_
          refine lv_goto (tgt := 59) hx hb dX2_firstOtherTick_55 (by decide) ?_
          exact r_i C hr hlk (by rw [fotN, ← hZ, fe_end hz c16, if_neg (by omega), if_pos c48]) dX2_firstOtherTick_59
      · skip
        refine lv_aload_n hx hb dX2_firstOtherTick_19 rfl (lv_at hl 0 rfl) ?_
        refine lv_iload_n hx hb dX2_firstOtherTick_20 rfl (lv_at hl 3 rfl) ?_
        refine k_i (c_V (As := [.int (nI (t))]) (rest := []) C v_X2_45 (c2_rowAt l g a ρ cnt h16 ((nI (t)))) ⟨Nat.le_of_ble_eq_true rfl, Nat.le_of_ble_eq_true rfl⟩ (q_recv C hP 0 rfl rfl) (hRA) hl.1 rfl rfl (Nat.le_of_ble_eq_true rfl) dX2_firstOtherTick_21 ⟨Nat.le_of_ble_eq_true rfl, Nat.le_of_ble_eq_true rfl⟩) (fun r21 q21 => ?_)
        subst q21
        refine lv_aload_n hx hb dX2_firstOtherTick_24 rfl (lv_at hl 1 rfl) ?_
        refine lv_iload_n hx hb dX2_firstOtherTick_25 rfl (lv_at hl 3 rfl) ?_
        refine k_i (c_V (As := [.int (nI (t))]) (rest := [.int (rowI ρ ((nI (t))))]) C v_X2_45 (c2_rowAt l g b σ cn2 k16 ((nI (t)))) ⟨Nat.le_of_ble_eq_true rfl, Nat.le_of_ble_eq_true rfl⟩ (q_recv C hP 5 rfl rfl) (hRB) hl.1 rfl rfl (Nat.le_of_ble_eq_true rfl) dX2_firstOtherTick_26 ⟨Nat.le_of_ble_eq_true rfl, Nat.le_of_ble_eq_true rfl⟩) (fun r26 q26 => ?_)
        subst q26
        refine lv_icmp_eq (tgt := 34) hx hb dX2_firstOtherTick_29 (by decide) (fun c29 => ?_) (fun c29 => ?_)
        · skip
          refine n_iinc (d := 1) (lv' := [(3, .int (nI (t + 1))), (0, .ref (a)), (1, .ref (b)), (2, .int (nI (min (rRow ρ).length (rRow σ).length)))]) C dX2_firstOtherTick_34 (by decide) hl (k := 3) rfl (by decide) rfl (fun ls hl => ?_)
          refine lv_goto (tgt := 14) hx hb dX2_firstOtherTick_37 (by decide) ?_
          exact ih_lp (t + 1) ls (by omega) (by omega) (fe_no hz c16 (decide_eq_false (Classical.not_not.mpr (by rw [← rowI_nI (by omega) h16, ← rowI_nI (by omega) k16]; exact c29)))) (lv_sub hl [1, 2, 3, 0] rfl)
        · skip
          refine lv_iload_n hx hb dX2_firstOtherTick_32 rfl (lv_at hl 3 rfl) ?_
          exact r_i C hr hlk (by rw [fotN, ← hZ, fe_yes hz c16 (decide_eq_true (by rw [← rowI_nI (by omega) h16, ← rowI_nI (by omega) k16]; exact c29)), if_pos c16]) dX2_firstOtherTick_33
  exact lp (min (rRow ρ).length (rRow σ).length + 1) (0) ls (by omega) (by omega) (hZ) (lv_sub hl [2, 3, 1, 0] rfl)
set_option maxHeartbeats 4000000 in
set_option maxRecDepth 100000 in
theorem c2_isComparable (l : Launch) (g : GG) (a : Nat) (ρ : RunT) (cnt : Bool) (hO : RunOK ρ) : Met l yX2_isComparable (.code yX2_isComparable cX2_isComparable 1 (some .boolean) :: wsL_law) ({ frames := 1, cells := 0, slots := 0, locals := 20 } : Room) (mP g [.ref (a)] (RunAt g ρ cnt a)) (vp_Si (fun z => z = bI (cmpB ρ))) 0 0 ((fun _ => False)) := by
  refine mMet (by decide) (Nat.le_of_ble_eq_true rfl) ?_
  intro p e s m below meth c C hr hlk hnm hP ls hl
  have hx := C.1.1
  have hb := C.1.2.1
  have hl : lv_has ls 1 [(0, .ref (a))] := hl
  have hRA := hP
  obtain ⟨ca, na, va, ra, v, w, hv, hP⟩ := hP
  have h16 := Nat.le_trans hO.2.2.2.2.2.2.2.1 hO.2.2.2.2.2.2.1
  have h8 := hO.2.1
  have ht16 := hO.2.2.2.2.2.2.1
  have hNA : NoteAt g ρ na s.heap := ⟨va, v, hv.1, hP.sub [2, 3] rfl⟩
  have hCA : CodeAt g (rStp ρ) ca s.heap := hP.sub [1] rfl
  refine lv_aload_n hx hb dX2_isComparable_0 rfl (lv_at hl 0 rfl) ?_
  refine k_i (c_V (As := []) (rest := []) C v_X2_119 (c2_isFork l g a ρ cnt hO) ⟨Nat.le_of_ble_eq_true rfl, Nat.le_of_ble_eq_true rfl⟩ (q_recv C hP 0 rfl rfl) (hRA) hl.1 rfl rfl (Nat.le_of_ble_eq_true rfl) dX2_isComparable_1 ⟨Nat.le_of_ble_eq_true rfl, Nat.le_of_ble_eq_true rfl⟩) (fun r1 q1 => ?_)
  subst q1
  refine b_ifne (tgt := 28) C dX2_isComparable_4 (by decide) (fun c4 => ?_) (fun c4 => ?_)
  · skip
    refine lv_iconst (v := 0) hx hb dX2_isComparable_28 (by decide) ?_
    exact r_z C hr hlk (by first | exact Or.inl rfl | exact Or.inr rfl | exact bI_or _) (bif0 (by simp only [decide_eq_true_eq, decide_eq_false_iff_not, Classical.not_not] at c4; simp [cmpB, c4])) dX2_isComparable_29
  · skip
    refine lv_aload_n hx hb dX2_isComparable_7 rfl (lv_at hl 0 rfl) ?_
    refine q_get C f_X2_60 (hP) 0 rfl rfl dX2_isComparable_8 ?_
    refine b_ifne (tgt := 28) C dX2_isComparable_11 (by decide) (fun c11 => ?_) (fun c11 => ?_)
    · skip
      refine lv_iconst (v := 0) hx hb dX2_isComparable_28 (by decide) ?_
      exact r_z C hr hlk (by first | exact Or.inl rfl | exact Or.inr rfl | exact bI_or _) (bif0 (by simp only [decide_eq_true_eq, decide_eq_false_iff_not, Classical.not_not] at c4; simp [cmpB, c4, c11])) dX2_isComparable_29
    · skip
      refine lv_aload_n hx hb dX2_isComparable_14 rfl (lv_at hl 0 rfl) ?_
      refine q_get C f_X2_12 (hP) 0 rfl rfl dX2_isComparable_15 ?_
      refine q_get C f_X2_109 (hP) 2 rfl rfl dX2_isComparable_18 ?_
      refine b_ifne (tgt := 28) C dX2_isComparable_21 (by decide) (fun c21 => ?_) (fun c21 => ?_)
      · skip
        refine lv_iconst (v := 0) hx hb dX2_isComparable_28 (by decide) ?_
        exact r_z C hr hlk (by first | exact Or.inl rfl | exact Or.inr rfl | exact bI_or _) (bif0 (by simp only [decide_eq_true_eq, decide_eq_false_iff_not, Classical.not_not] at c4; simp [cmpB, c4, c11, c21])) dX2_isComparable_29
      · skip
        refine lv_iconst (v := 1) hx hb dX2_isComparable_24 (by decide) ?_
        refine lv_goto (tgt := 29) hx hb dX2_isComparable_25 (by decide) ?_
        exact r_z C hr hlk (by first | exact Or.inl rfl | exact Or.inr rfl | exact bI_or _) (bit1 (by simp only [decide_eq_true_eq, decide_eq_false_iff_not, Classical.not_not] at c4; simp [cmpB, c4, c11, c21])) dX2_isComparable_29
set_option maxHeartbeats 4000000 in
set_option maxRecDepth 100000 in
theorem c2_isLike (l : Launch) (g : GG) (a b : Nat) (ρ σ : RunT) (cnt cn2 : Bool) (hO : RunOK ρ) (hO2 : RunOK σ) : Met l yX2_isLike (.code yX2_isLike cX2_isLike 2 (some .boolean) :: wsL_law) ({ frames := 2, cells := 0, slots := 0, locals := 44 } : Room) (mP g [.ref (a), .ref (b)] (fun H => RunAt g ρ cnt a H ∧ RunAt g σ cn2 b H)) (vp_Si (fun z => z = bI (rlkB ρ σ))) 0 0 ((fun _ => False)) := by
  refine mMet (by decide) (Nat.le_of_ble_eq_true rfl) ?_
  intro p e s m below meth c C hr hlk hnm hP ls hl
  have hx := C.1.1
  have hb := C.1.2.1
  have hl : lv_has ls 2 [(0, .ref (a)), (1, .ref (b))] := hl
  obtain ⟨hRA, hRB⟩ := hP
  obtain ⟨ca, na, va, ra, v, w, hv, hP1⟩ := id hRA
  obtain ⟨cb, nb, vb, rb, v2, w2, hv2, hP2⟩ := id hRB
  have h16 := Nat.le_trans hO.2.2.2.2.2.2.2.1 hO.2.2.2.2.2.2.1
  have k16 := Nat.le_trans hO2.2.2.2.2.2.2.2.1 hO2.2.2.2.2.2.2.1
  have ht16 := hO.2.2.2.2.2.2.1
  have kt16 := hO2.2.2.2.2.2.2.1
  have h8 := hO.2.1
  have k8 := hO2.2.1
  have hNA : NoteAt g ρ na s.heap := ⟨va, v, hv.1, hP1.sub [2, 3] rfl⟩
  have hNB : NoteAt g σ nb s.heap := ⟨vb, v2, hv2.1, hP2.sub [2, 3] rfl⟩
  have hCA : CodeAt g (rStp ρ) ca s.heap := hP1.sub [1] rfl
  have hCB : CodeAt g (rStp σ) cb s.heap := hP2.sub [1] rfl
  have hP : va_P g.1 vwCl [(a, .inr (2, [.int (nI (rCode ρ)), .ref (ca), .int (rSet ρ), .int (rSeed ρ), .int (nI (rTk ρ)), .ref (na), .ref (ra), .int (nI ((rRow ρ).length)), .int (bI (rBr ρ)), .int (bI (cnt)), .int (rOrg ρ), .int (rAt ρ)])), (ca, .inr (0, [.int (nI ((rStp ρ).length)), .long (lN (packN (rStp ρ)))])), (na, .inr (1, [.int (rRS ρ), .int (rRW ρ), .int (bI (rSd ρ)), .int (bI (rCk ρ)), .ref (va)])), (va, aI g 8 v), (ra, aI g 16 w), (b, .inr (2, [.int (nI (rCode σ)), .ref (cb), .int (rSet σ), .int (rSeed σ), .int (nI (rTk σ)), .ref (nb), .ref (rb), .int (nI ((rRow σ).length)), .int (bI (rBr σ)), .int (bI (cn2)), .int (rOrg σ), .int (rAt σ)])), (cb, .inr (0, [.int (nI ((rStp σ).length)), .long (lN (packN (rStp σ)))])), (nb, .inr (1, [.int (rRS σ), .int (rRW σ), .int (bI (rSd σ)), .int (bI (rCk σ)), .ref (vb)])), (vb, aI g 8 v2), (rb, aI g 16 w2)] s.heap := hP1.app hP2
  refine lv_aload_n hx hb dX2_isLike_0 rfl (lv_at hl 0 rfl) ?_
  refine q_get C f_X2_32 (hP) 0 rfl rfl dX2_isLike_1 ?_
  refine lv_aload_n hx hb dX2_isLike_4 rfl (lv_at hl 1 rfl) ?_
  refine q_get C f_X2_32 (hP) 5 rfl rfl dX2_isLike_5 ?_
  refine k_i (c_V (As := [.ref (cb)]) (rest := []) C v_X2_123 (c0_isLike l g ca cb (rStp ρ) (rStp σ) hO.2.2.1 hO2.2.2.1 hO.2.1 hO2.2.1) ⟨Nat.le_of_ble_eq_true rfl, Nat.le_of_ble_eq_true rfl⟩ (q_recv C hP 1 rfl rfl) (⟨hCA, hCB⟩) hl.1 rfl rfl (Nat.le_of_ble_eq_true rfl) dX2_isLike_8 ⟨Nat.le_of_ble_eq_true rfl, Nat.le_of_ble_eq_true rfl⟩) (fun r8 q8 => ?_)
  subst q8
  refine b_ifeq (tgt := 82) C dX2_isLike_11 (by decide) (fun c11 => ?_) (fun c11 => ?_)
  · skip
    refine lv_iconst (v := 0) hx hb dX2_isLike_82 (by decide) ?_
    exact r_z C hr hlk (by first | exact Or.inl rfl | exact Or.inr rfl | exact bI_or _) (bif0 (by simp only [decide_eq_true_eq, decide_eq_false_iff_not] at c11; simp [rlkB, c11])) dX2_isLike_83
  · skip
    refine lv_aload_n hx hb dX2_isLike_14 rfl (lv_at hl 0 rfl) ?_
    refine q_get C f_X2_36 (hP) 0 rfl rfl dX2_isLike_15 ?_
    refine lv_aload_n hx hb dX2_isLike_18 rfl (lv_at hl 1 rfl) ?_
    refine q_get C f_X2_36 (hP) 5 rfl rfl dX2_isLike_19 ?_
    refine lv_icmp_ne (tgt := 82) hx hb dX2_isLike_22 (by decide) (fun c22 => ?_) (fun c22 => ?_)
    · skip
      refine lv_iconst (v := 0) hx hb dX2_isLike_82 (by decide) ?_
      exact r_z C hr hlk (by first | exact Or.inl rfl | exact Or.inr rfl | exact bI_or _) (bif0 (by simp only [decide_eq_true_eq, decide_eq_false_iff_not] at c11; simp [rlkB, c11, c22])) dX2_isLike_83
    · skip
      refine lv_aload_n hx hb dX2_isLike_25 rfl (lv_at hl 0 rfl) ?_
      refine q_get C f_X2_39 (hP) 0 rfl rfl dX2_isLike_26 ?_
      refine lv_aload_n hx hb dX2_isLike_29 rfl (lv_at hl 1 rfl) ?_
      refine q_get C f_X2_39 (hP) 5 rfl rfl dX2_isLike_30 ?_
      refine lv_icmp_ne (tgt := 82) hx hb dX2_isLike_33 (by decide) (fun c33 => ?_) (fun c33 => ?_)
      · skip
        refine lv_iconst (v := 0) hx hb dX2_isLike_82 (by decide) ?_
        exact r_z C hr hlk (by first | exact Or.inl rfl | exact Or.inr rfl | exact bI_or _) (bif0 (by simp only [decide_eq_true_eq, decide_eq_false_iff_not] at c11; simp [rlkB, c11, c22, c33])) dX2_isLike_83
      · skip
        refine lv_aload_n hx hb dX2_isLike_36 rfl (lv_at hl 0 rfl) ?_
        refine q_get C f_X2_42 (hP) 0 rfl rfl dX2_isLike_37 ?_
        refine lv_aload_n hx hb dX2_isLike_40 rfl (lv_at hl 1 rfl) ?_
        refine q_get C f_X2_42 (hP) 5 rfl rfl dX2_isLike_41 ?_
        refine n_icmp_ne (tgt := 82) C (by omega) (by omega) dX2_isLike_44 (by decide) (fun c44 => ?_) (fun c44 => ?_)
        · skip
          refine lv_iconst (v := 0) hx hb dX2_isLike_82 (by decide) ?_
          exact r_z C hr hlk (by first | exact Or.inl rfl | exact Or.inr rfl | exact bI_or _) (bif0 (by simp only [decide_eq_true_eq, decide_eq_false_iff_not] at c11; simp [rlkB, c11, c22, c33, c44])) dX2_isLike_83
        · skip
          refine lv_aload_n hx hb dX2_isLike_47 rfl (lv_at hl 0 rfl) ?_
          refine q_get C f_X2_12 (hP) 0 rfl rfl dX2_isLike_48 ?_
          refine q_get C f_X2_127 (hP) 2 rfl rfl dX2_isLike_51 ?_
          refine lv_aload_n hx hb dX2_isLike_54 rfl (lv_at hl 1 rfl) ?_
          refine q_get C f_X2_12 (hP) 5 rfl rfl dX2_isLike_55 ?_
          refine q_get C f_X2_127 (hP) 7 rfl rfl dX2_isLike_58 ?_
          refine lv_icmp_ne (tgt := 82) hx hb dX2_isLike_61 (by decide) (fun c61 => ?_) (fun c61 => ?_)
          · skip
            refine lv_iconst (v := 0) hx hb dX2_isLike_82 (by decide) ?_
            exact r_z C hr hlk (by first | exact Or.inl rfl | exact Or.inr rfl | exact bI_or _) (bif0 (by simp only [decide_eq_true_eq, decide_eq_false_iff_not] at c11; simp [rlkB, c11, c22, c33, c44, c61])) dX2_isLike_83
          · skip
            refine lv_aload_n hx hb dX2_isLike_64 rfl (lv_at hl 0 rfl) ?_
            refine q_get C f_X2_12 (hP) 0 rfl rfl dX2_isLike_65 ?_
            refine lv_aload_n hx hb dX2_isLike_68 rfl (lv_at hl 1 rfl) ?_
            refine q_get C f_X2_12 (hP) 5 rfl rfl dX2_isLike_69 ?_
            refine k_i (c_V (As := [.ref (nb)]) (rest := []) C v_X2_130 (c1_agrees l g na nb ρ σ) ⟨Nat.le_of_ble_eq_true rfl, Nat.le_of_ble_eq_true rfl⟩ (q_recv C hP 2 rfl rfl) (⟨hNA, hNB⟩) hl.1 rfl rfl (Nat.le_of_ble_eq_true rfl) dX2_isLike_72 ⟨Nat.le_of_ble_eq_true rfl, Nat.le_of_ble_eq_true rfl⟩) (fun r72 q72 => ?_)
            subst q72
            refine b_ifeq (tgt := 82) C dX2_isLike_75 (by decide) (fun c75 => ?_) (fun c75 => ?_)
            · skip
              refine lv_iconst (v := 0) hx hb dX2_isLike_82 (by decide) ?_
              exact r_z C hr hlk (by first | exact Or.inl rfl | exact Or.inr rfl | exact bI_or _) (bif0 (by simp only [decide_eq_true_eq, decide_eq_false_iff_not] at c11; simp [rlkB, c11, c22, c33, c44, c61, c75])) dX2_isLike_83
            · skip
              refine lv_iconst (v := 1) hx hb dX2_isLike_78 (by decide) ?_
              refine lv_goto (tgt := 83) hx hb dX2_isLike_79 (by decide) ?_
              exact r_z C hr hlk (by first | exact Or.inl rfl | exact Or.inr rfl | exact bI_or _) (bit1 (by simp only [decide_eq_true_eq, decide_eq_false_iff_not] at c11; simp [rlkB, c11, c22, c33, c44, c61, c75])) dX2_isLike_83
set_option maxHeartbeats 4000000 in
set_option maxRecDepth 100000 in
theorem c2_pairsWith (l : Launch) (g : GG) (a b : Nat) (ρ σ : RunT) (cnt cn2 : Bool) (hO : RunOK ρ) (hO2 : RunOK σ) (i : Nat) : Met l yX2_pairsWith (.code yX2_pairsWith cX2_pairsWith 4 (some .boolean) :: wsL_law) ({ frames := 2, cells := 0, slots := 0, locals := 44 } : Room) (mP g [.ref (a), .ref (b), .int (nI (i))] (fun H => RunAt g ρ cnt a H ∧ RunAt g σ cn2 b H)) (vp_Si (fun z => z = bI (pwB ρ σ i))) 0 0 ((fun _ => False)) := by
  refine mMet (by decide) (Nat.le_of_ble_eq_true rfl) ?_
  intro p e s m below meth c C hr hlk hnm hP ls hl
  have hx := C.1.1
  have hb := C.1.2.1
  have hl : lv_has ls 4 [(0, .ref (a)), (1, .ref (b)), (2, .int (nI (i)))] := hl
  obtain ⟨hRA, hRB⟩ := hP
  obtain ⟨ca, na, va, ra, v, w, hv, hP1⟩ := id hRA
  obtain ⟨cb, nb, vb, rb, v2, w2, hv2, hP2⟩ := id hRB
  have h16 := Nat.le_trans hO.2.2.2.2.2.2.2.1 hO.2.2.2.2.2.2.1
  have k16 := Nat.le_trans hO2.2.2.2.2.2.2.2.1 hO2.2.2.2.2.2.2.1
  have ht16 := hO.2.2.2.2.2.2.1
  have kt16 := hO2.2.2.2.2.2.2.1
  have h8 := hO.2.1
  have k8 := hO2.2.1
  have hNA : NoteAt g ρ na s.heap := ⟨va, v, hv.1, hP1.sub [2, 3] rfl⟩
  have hNB : NoteAt g σ nb s.heap := ⟨vb, v2, hv2.1, hP2.sub [2, 3] rfl⟩
  have hCA : CodeAt g (rStp ρ) ca s.heap := hP1.sub [1] rfl
  have hCB : CodeAt g (rStp σ) cb s.heap := hP2.sub [1] rfl
  have hP : va_P g.1 vwCl [(a, .inr (2, [.int (nI (rCode ρ)), .ref (ca), .int (rSet ρ), .int (rSeed ρ), .int (nI (rTk ρ)), .ref (na), .ref (ra), .int (nI ((rRow ρ).length)), .int (bI (rBr ρ)), .int (bI (cnt)), .int (rOrg ρ), .int (rAt ρ)])), (ca, .inr (0, [.int (nI ((rStp ρ).length)), .long (lN (packN (rStp ρ)))])), (na, .inr (1, [.int (rRS ρ), .int (rRW ρ), .int (bI (rSd ρ)), .int (bI (rCk ρ)), .ref (va)])), (va, aI g 8 v), (ra, aI g 16 w), (b, .inr (2, [.int (nI (rCode σ)), .ref (cb), .int (rSet σ), .int (rSeed σ), .int (nI (rTk σ)), .ref (nb), .ref (rb), .int (nI ((rRow σ).length)), .int (bI (rBr σ)), .int (bI (cn2)), .int (rOrg σ), .int (rAt σ)])), (cb, .inr (0, [.int (nI ((rStp σ).length)), .long (lN (packN (rStp σ)))])), (nb, .inr (1, [.int (rRS σ), .int (rRW σ), .int (bI (rSd σ)), .int (bI (rCk σ)), .ref (vb)])), (vb, aI g 8 v2), (rb, aI g 16 w2)] s.heap := hP1.app hP2
  refine lv_bipush (v := 15) hx hb dX2_pairsWith_0 (by decide) ?_
  refine lv_iconst (v := nI 4) hx hb dX2_pairsWith_2 (by decide) ?_
  refine lv_iload_n hx hb dX2_pairsWith_3 rfl (lv_at hl 2 rfl) ?_
  refine n_imul C dX2_pairsWith_4 ?_
  refine lv_ishl hx hb dX2_pairsWith_5 ?_
  refine lv_iconst (v := (-1)) hx hb dX2_pairsWith_6 (by decide) ?_
  refine lv_ixor hx hb dX2_pairsWith_7 ?_
  refine lv_istore_n (lv' := [(3, .int (((15) <<< ((nI (4 * i)) &&& 31)) ^^^ ((-1)))), (0, .ref (a)), (1, .ref (b)), (2, .int (nI (i)))]) hx hb dX2_pairsWith_8 rfl hl (by decide) rfl (fun ls hl => ?_)
  refine lv_aload_n hx hb dX2_pairsWith_9 rfl (lv_at hl 1 rfl) ?_
  refine q_get C f_X2_32 (hP) 0 rfl rfl dX2_pairsWith_10 ?_
  refine lv_aload_n hx hb dX2_pairsWith_13 rfl (lv_at hl 2 rfl) ?_
  refine q_get C f_X2_32 (hP) 5 rfl rfl dX2_pairsWith_14 ?_
  refine k_i (c_V (As := [.ref (cb)]) (rest := []) C v_X2_123 (c0_isLike l g ca cb (rStp ρ) (rStp σ) hO.2.2.1 hO2.2.2.1 hO.2.1 hO2.2.1) ⟨Nat.le_of_ble_eq_true rfl, Nat.le_of_ble_eq_true rfl⟩ (q_recv C hP 1 rfl rfl) (⟨hCA, hCB⟩) hl.1 rfl rfl (Nat.le_of_ble_eq_true rfl) dX2_pairsWith_17 ⟨Nat.le_of_ble_eq_true rfl, Nat.le_of_ble_eq_true rfl⟩) (fun r17 q17 => ?_)
  subst q17
  refine b_ifeq (tgt := 67) C dX2_pairsWith_20 (by decide) (fun c20 => ?_) (fun c20 => ?_)
  · skip
    refine lv_iconst (v := 0) hx hb dX2_pairsWith_67 (by decide) ?_
    exact r_z C hr hlk (by first | exact Or.inl rfl | exact Or.inr rfl | exact bI_or _) (bif0 (by simp only [decide_eq_true_eq, decide_eq_false_iff_not] at c20; simp [pwB, c20])) dX2_pairsWith_68
  · skip
    refine lv_aload_n hx hb dX2_pairsWith_23 rfl (lv_at hl 1 rfl) ?_
    refine q_get C f_X2_39 (hP) 0 rfl rfl dX2_pairsWith_24 ?_
    refine lv_aload_n hx hb dX2_pairsWith_27 rfl (lv_at hl 2 rfl) ?_
    refine q_get C f_X2_39 (hP) 5 rfl rfl dX2_pairsWith_28 ?_
    refine lv_icmp_ne (tgt := 67) hx hb dX2_pairsWith_31 (by decide) (fun c31 => ?_) (fun c31 => ?_)
    · skip
      refine lv_iconst (v := 0) hx hb dX2_pairsWith_67 (by decide) ?_
      exact r_z C hr hlk (by first | exact Or.inl rfl | exact Or.inr rfl | exact bI_or _) (bif0 (by simp only [decide_eq_true_eq, decide_eq_false_iff_not] at c20; simp [pwB, c20, c31])) dX2_pairsWith_68
    · skip
      refine lv_aload_n hx hb dX2_pairsWith_34 rfl (lv_at hl 1 rfl) ?_
      refine q_get C f_X2_36 (hP) 0 rfl rfl dX2_pairsWith_35 ?_
      refine lv_iload_n hx hb dX2_pairsWith_38 rfl (lv_at hl 0 rfl) ?_
      refine lv_iand hx hb dX2_pairsWith_39 ?_
      refine lv_aload_n hx hb dX2_pairsWith_40 rfl (lv_at hl 2 rfl) ?_
      refine q_get C f_X2_36 (hP) 5 rfl rfl dX2_pairsWith_41 ?_
      refine lv_iload_n hx hb dX2_pairsWith_44 rfl (lv_at hl 0 rfl) ?_
      refine lv_iand hx hb dX2_pairsWith_45 ?_
      refine lv_icmp_ne (tgt := 67) hx hb dX2_pairsWith_46 (by decide) (fun c46 => ?_) (fun c46 => ?_)
      · skip
        refine lv_iconst (v := 0) hx hb dX2_pairsWith_67 (by decide) ?_
        exact r_z C hr hlk (by first | exact Or.inl rfl | exact Or.inr rfl | exact bI_or _) (bif0 (by have c46 : ¬ (rSet ρ &&& msk i = rSet σ &&& msk i) := c46; simp only [decide_eq_true_eq, decide_eq_false_iff_not] at c20; simp [pwB, c20, c31, c46])) dX2_pairsWith_68
      · skip
        refine lv_aload_n hx hb dX2_pairsWith_49 rfl (lv_at hl 1 rfl) ?_
        refine q_get C f_X2_12 (hP) 0 rfl rfl dX2_pairsWith_50 ?_
        refine lv_aload_n hx hb dX2_pairsWith_53 rfl (lv_at hl 2 rfl) ?_
        refine q_get C f_X2_12 (hP) 5 rfl rfl dX2_pairsWith_54 ?_
        refine k_i (c_V (As := [.ref (nb)]) (rest := []) C v_X2_130 (c1_agrees l g na nb ρ σ) ⟨Nat.le_of_ble_eq_true rfl, Nat.le_of_ble_eq_true rfl⟩ (q_recv C hP 2 rfl rfl) (⟨hNA, hNB⟩) hl.1 rfl rfl (Nat.le_of_ble_eq_true rfl) dX2_pairsWith_57 ⟨Nat.le_of_ble_eq_true rfl, Nat.le_of_ble_eq_true rfl⟩) (fun r57 q57 => ?_)
        subst q57
        refine b_ifeq (tgt := 67) C dX2_pairsWith_60 (by decide) (fun c60 => ?_) (fun c60 => ?_)
        · skip
          refine lv_iconst (v := 0) hx hb dX2_pairsWith_67 (by decide) ?_
          exact r_z C hr hlk (by first | exact Or.inl rfl | exact Or.inr rfl | exact bI_or _) (bif0 (by have c46 : (rSet ρ &&& msk i = rSet σ &&& msk i) := c46; simp only [decide_eq_true_eq, decide_eq_false_iff_not] at c20; simp [pwB, c20, c31, c46, c60])) dX2_pairsWith_68
        · skip
          refine lv_iconst (v := 1) hx hb dX2_pairsWith_63 (by decide) ?_
          refine lv_goto (tgt := 68) hx hb dX2_pairsWith_64 (by decide) ?_
          exact r_z C hr hlk (by first | exact Or.inl rfl | exact Or.inr rfl | exact bI_or _) (bit1 (by have c46 : (rSet ρ &&& msk i = rSet σ &&& msk i) := c46; simp only [decide_eq_true_eq, decide_eq_false_iff_not] at c20; simp [pwB, c20, c31, c46, c60])) dX2_pairsWith_68
set_option maxHeartbeats 4000000 in
set_option maxRecDepth 100000 in
theorem c2_isUsable (l : Launch) (g : GG) (a : Nat) (ρ : RunT) (cnt : Bool) (hO : RunOK ρ) (cb wo tk : Nat) (qs : List Nat) (dat : Nat → Int32) (clk : Int32) (hqs : ∀ q ∈ qs, q < 256) (hq8 : qs.length ≤ 8) (htk : tk ≤ 16) : Met l yX2_isUsable (.code yX2_isUsable cX2_isUsable 4 (some .boolean) :: wsL_law) ({ frames := 2, cells := 0, slots := 0, locals := 44 } : Room) (mP g [.ref (a), .ref (cb), .int (nI (tk)), .ref (wo)] (fun H => RunAt g ρ cnt a H ∧ CodeAt g qs cb H ∧ WorldAt g dat clk wo H)) (vp_Si (fun z => z = bI (usB dat ρ qs tk))) 0 0 ((fun _ => False)) := by
  refine mMet (by decide) (Nat.le_of_ble_eq_true rfl) ?_
  intro p e s m below meth c C hr hlk hnm hP ls hl
  have hx := C.1.1
  have hb := C.1.2.1
  have hl : lv_has ls 4 [(0, .ref (a)), (1, .ref (cb)), (2, .int (nI (tk))), (3, .ref (wo))] := hl
  obtain ⟨hP, hCB, hWA⟩ := hP
  have hRA := hP
  obtain ⟨ca, na, va, ra, v, w, hv, hP⟩ := hP
  have h16 := Nat.le_trans hO.2.2.2.2.2.2.2.1 hO.2.2.2.2.2.2.1
  have h8 := hO.2.1
  have ht16 := hO.2.2.2.2.2.2.1
  have hNA : NoteAt g ρ na s.heap := ⟨va, v, hv.1, hP.sub [2, 3] rfl⟩
  have hCA : CodeAt g (rStp ρ) ca s.heap := hP.sub [1] rfl
  have hP : va_P g.1 vwCl [(a, .inr (2, [.int (nI (rCode ρ)), .ref (ca), .int (rSet ρ), .int (rSeed ρ), .int (nI (rTk ρ)), .ref (na), .ref (ra), .int (nI ((rRow ρ).length)), .int (bI (rBr ρ)), .int (bI (cnt)), .int (rOrg ρ), .int (rAt ρ)])), (ca, .inr (0, [.int (nI ((rStp ρ).length)), .long (lN (packN (rStp ρ)))])), (na, .inr (1, [.int (rRS ρ), .int (rRW ρ), .int (bI (rSd ρ)), .int (bI (rCk ρ)), .ref (va)])), (va, aI g 8 v), (ra, aI g 16 w), (cb, .inr (0, [.int (nI ((qs).length)), .long (lN (packN (qs)))]))] s.heap := hP.app hCB
  refine lv_aload_n hx hb dX2_isUsable_0 rfl (lv_at hl 0 rfl) ?_
  refine k_i (c_V (As := []) (rest := []) C v_X2_134 (c2_isComparable l g a ρ cnt hO) ⟨Nat.le_of_ble_eq_true rfl, Nat.le_of_ble_eq_true rfl⟩ (q_recv C hP 0 rfl rfl) (hRA) hl.1 rfl rfl (Nat.le_of_ble_eq_true rfl) dX2_isUsable_1 ⟨Nat.le_of_ble_eq_true rfl, Nat.le_of_ble_eq_true rfl⟩) (fun r1 q1 => ?_)
  subst q1
  refine b_ifeq (tgt := 41) C dX2_isUsable_4 (by decide) (fun c4 => ?_) (fun c4 => ?_)
  · skip
    refine lv_iconst (v := 0) hx hb dX2_isUsable_41 (by decide) ?_
    exact r_z C hr hlk (by first | exact Or.inl rfl | exact Or.inr rfl | exact bI_or _) (bif0 (by simp [usB, c4])) dX2_isUsable_42
  · skip
    refine lv_aload_n hx hb dX2_isUsable_7 rfl (lv_at hl 0 rfl) ?_
    refine q_get C f_X2_42 (hP) 0 rfl rfl dX2_isUsable_8 ?_
    refine lv_iload_n hx hb dX2_isUsable_11 rfl (lv_at hl 2 rfl) ?_
    refine n_icmp_lt (tgt := 41) C (by omega) (by omega) dX2_isUsable_12 (by decide) (fun c12 => ?_) (fun c12 => ?_)
    · skip
      refine lv_iconst (v := 0) hx hb dX2_isUsable_41 (by decide) ?_
      exact r_z C hr hlk (by first | exact Or.inl rfl | exact Or.inr rfl | exact bI_or _) (bif0 (by simp [usB, c4, Nat.not_le.mpr c12])) dX2_isUsable_42
    · skip
      refine lv_aload_n hx hb dX2_isUsable_15 rfl (lv_at hl 0 rfl) ?_
      refine q_get C f_X2_32 (hP) 0 rfl rfl dX2_isUsable_16 ?_
      refine lv_aload_n hx hb dX2_isUsable_19 rfl (lv_at hl 1 rfl) ?_
      refine k_i (c_V (As := [.ref (cb)]) (rest := []) C v_X2_123 (c0_isLike l g ca cb (rStp ρ) qs hO.2.2.1 hqs hO.2.1 hq8) ⟨Nat.le_of_ble_eq_true rfl, Nat.le_of_ble_eq_true rfl⟩ (q_recv C hP 1 rfl rfl) (⟨hCA, hCB⟩) hl.1 rfl rfl (Nat.le_of_ble_eq_true rfl) dX2_isUsable_20 ⟨Nat.le_of_ble_eq_true rfl, Nat.le_of_ble_eq_true rfl⟩) (fun r20 q20 => ?_)
      subst q20
      refine b_ifeq (tgt := 41) C dX2_isUsable_23 (by decide) (fun c23 => ?_) (fun c23 => ?_)
      · skip
        refine lv_iconst (v := 0) hx hb dX2_isUsable_41 (by decide) ?_
        exact r_z C hr hlk (by first | exact Or.inl rfl | exact Or.inr rfl | exact bI_or _) (bif0 (by simp only [decide_eq_true_eq, decide_eq_false_iff_not] at c23; simp [usB, c4, c12, c23])) dX2_isUsable_42
      · skip
        refine lv_aload_n hx hb dX2_isUsable_26 rfl (lv_at hl 0 rfl) ?_
        refine q_get C f_X2_12 (hP) 0 rfl rfl dX2_isUsable_27 ?_
        refine lv_aload_n hx hb dX2_isUsable_30 rfl (lv_at hl 3 rfl) ?_
        refine k_i (c_V (As := [.ref (wo)]) (rest := []) C v_X2_137 (c1_changedWords l g na wo ρ dat clk) ⟨Nat.le_of_ble_eq_true rfl, Nat.le_of_ble_eq_true rfl⟩ (q_recv C hP 2 rfl rfl) (⟨hNA, hWA⟩) hl.1 rfl rfl (Nat.le_of_ble_eq_true rfl) dX2_isUsable_31 ⟨Nat.le_of_ble_eq_true rfl, Nat.le_of_ble_eq_true rfl⟩) (fun r31 q31 => ?_)
        subst q31
        refine lv_if_ne (tgt := 41) hx hb dX2_isUsable_34 (by decide) (fun c34 => ?_) (fun c34 => ?_)
        · skip
          refine lv_iconst (v := 0) hx hb dX2_isUsable_41 (by decide) ?_
          exact r_z C hr hlk (by first | exact Or.inl rfl | exact Or.inr rfl | exact bI_or _) (bif0 (by simp only [decide_eq_true_eq, decide_eq_false_iff_not] at c23; simp [usB, c4, c12, c23, c34])) dX2_isUsable_42
        · skip
          refine lv_iconst (v := 1) hx hb dX2_isUsable_37 (by decide) ?_
          refine lv_goto (tgt := 42) hx hb dX2_isUsable_38 (by decide) ?_
          exact r_z C hr hlk (by first | exact Or.inl rfl | exact Or.inr rfl | exact bI_or _) (bit1 (by simp only [decide_eq_true_eq, decide_eq_false_iff_not] at c23; simp [usB, c4, c12, c23, c34])) dX2_isUsable_42
set_option maxHeartbeats 4000000 in
set_option maxRecDepth 100000 in
theorem c2_fitsSettings (l : Launch) (g : GG) (a : Nat) (ρ : RunT) (cnt : Bool) (hO : RunOK ρ) (all : Int32) : Met l yX2_fitsSettings (.code yX2_fitsSettings cX2_fitsSettings 3 (some .boolean) :: wsL_law) ({ frames := 1, cells := 0, slots := 0, locals := 21 } : Room) (mP g [.ref (a), .int (all)] (RunAt g ρ cnt a)) (vp_Si (fun z => z = bI (fitB ρ all))) 0 0 ((fun _ => False)) := by
  refine mMet (by decide) (Nat.le_of_ble_eq_true rfl) ?_
  intro p e s m below meth c C hr hlk hnm hP ls hl
  have hx := C.1.1
  have hb := C.1.2.1
  have hl : lv_has ls 3 [(0, .ref (a)), (1, .int (all))] := hl
  have hRA := hP
  obtain ⟨ca, na, va, ra, v, w, hv, hP⟩ := hP
  have h16 := Nat.le_trans hO.2.2.2.2.2.2.2.1 hO.2.2.2.2.2.2.1
  have h8 := hO.2.1
  have ht16 := hO.2.2.2.2.2.2.1
  have hNA : NoteAt g ρ na s.heap := ⟨va, v, hv.1, hP.sub [2, 3] rfl⟩
  have hCA : CodeAt g (rStp ρ) ca s.heap := hP.sub [1] rfl
  refine lv_iconst (v := nI 0) hx hb dX2_fitsSettings_0 (by decide) ?_
  refine lv_istore_n (lv' := [(2, .int (nI (0))), (0, .ref (a)), (1, .int (all))]) hx hb dX2_fitsSettings_1 rfl hl (by decide) rfl (fun ls hl => ?_)
  have lp : ∀ (n_lp : Nat) (i : Nat) (ls : Array Slot), (i ≤ 4) → (4 + 1 ≤ i + n_lp) → (∀ j, j < i → (!hasB (rRS ρ) j || decide (sett (rSet ρ) j = sett all j)) = true) → lv_has ls 3 [(0, .ref (a)), (1, .int (all)), (2, .int (nI (i)))] → W p l e ({ frames := 1, cells := 0, slots := 0, locals := 21 } : Room) s m ([.ref (a), .int (all)] : List Value).toArray below meth c s.heap [] 0 0 (MQ below (vp_Si (fun z => z = bI (fitB ρ all))) (([.ref (a), .int (all)] : List Value).toArray) s 0 0 (fun _ => False)) (F0 m 2 ls []) := by
    intro n_lp
    induction n_lp with
    | zero =>
      intro i ls hi hn hg
      exact absurd hn (by omega)
    | succ n_lp ih_lp =>
      intro i ls hi hn hg hl
      refine lv_iload_n hx hb dX2_fitsSettings_2 rfl (lv_at hl 2 rfl) ?_
      refine lv_iconst (v := nI 4) hx hb dX2_fitsSettings_3 (by decide) ?_
      refine n_icmp_ge (tgt := 45) C (by omega) (by omega) dX2_fitsSettings_4 (by decide) (fun c4 => ?_) (fun c4 => ?_)
      · skip
        refine lv_iconst (v := 1) hx hb dX2_fitsSettings_45 (by decide) ?_
        exact r_z C hr hlk (by first | exact Or.inl rfl | exact Or.inr rfl | exact bI_or _) (bit1 (allR.mpr (fun j hj => hg j (by omega)))) dX2_fitsSettings_46
      · skip
        refine lv_iload_n hx hb dX2_fitsSettings_7 rfl (lv_at hl 2 rfl) ?_
        refine lv_aload_n hx hb dX2_fitsSettings_8 rfl (lv_at hl 0 rfl) ?_
        refine q_get C f_X2_12 (hP) 0 rfl rfl dX2_fitsSettings_9 ?_
        refine q_get C f_X2_94 (hP) 2 rfl rfl dX2_fitsSettings_12 ?_
        refine k_i (c_SN (As := [.int (nI (i)), .int (rRS ρ)]) (rest := []) C v_X2_140 (inr_10 _ (List.mem_of_getElem? (i := 22) rfl)) (c4_isIn l g i (rRS ρ)) ⟨Nat.le_of_ble_eq_true rfl, Nat.le_of_ble_eq_true rfl⟩ (trivial) hl.1 rfl rfl (Nat.le_of_ble_eq_true rfl) dX2_fitsSettings_15 ⟨Nat.le_of_ble_eq_true rfl, Nat.le_of_ble_eq_true rfl⟩) (fun r15 q15 => ?_)
        subst q15
        refine b_ifeq (tgt := 39) C dX2_fitsSettings_18 (by decide) (fun c18 => ?_) (fun c18 => ?_)
        · skip
          refine n_iinc (d := 1) (lv' := [(2, .int (nI (i + 1))), (0, .ref (a)), (1, .int (all))]) C dX2_fitsSettings_39 (by decide) hl (k := 2) rfl (by decide) rfl (fun ls hl => ?_)
          refine lv_goto (tgt := 2) hx hb dX2_fitsSettings_42 (by decide) ?_
          exact ih_lp (i + 1) ls (by omega) (by omega) (lt_s1 hg (by simp [c18])) (lv_sub hl [1, 2, 0] rfl)
        · skip
          refine lv_aload_n hx hb dX2_fitsSettings_21 rfl (lv_at hl 0 rfl) ?_
          refine q_get C f_X2_36 (hP) 0 rfl rfl dX2_fitsSettings_22 ?_
          refine lv_iload_n hx hb dX2_fitsSettings_25 rfl (lv_at hl 2 rfl) ?_
          refine k_i (c_SN (As := [.int (rSet ρ), .int (nI (i))]) (rest := []) C v_X2_95 (inr_5 _ (List.mem_of_getElem? (i := 17) rfl)) (c4_settingOf l g (rSet ρ) i) ⟨Nat.le_of_ble_eq_true rfl, Nat.le_of_ble_eq_true rfl⟩ (trivial) hl.1 rfl rfl (Nat.le_of_ble_eq_true rfl) dX2_fitsSettings_26 ⟨Nat.le_of_ble_eq_true rfl, Nat.le_of_ble_eq_true rfl⟩) (fun r26 q26 => ?_)
          subst q26
          refine lv_iload_n hx hb dX2_fitsSettings_29 rfl (lv_at hl 1 rfl) ?_
          refine lv_iload_n hx hb dX2_fitsSettings_30 rfl (lv_at hl 2 rfl) ?_
          refine k_i (c_SN (As := [.int (all), .int (nI (i))]) (rest := [.int (sett (rSet ρ) i)]) C v_X2_95 (inr_5 _ (List.mem_of_getElem? (i := 17) rfl)) (c4_settingOf l g (all) i) ⟨Nat.le_of_ble_eq_true rfl, Nat.le_of_ble_eq_true rfl⟩ (trivial) hl.1 rfl rfl (Nat.le_of_ble_eq_true rfl) dX2_fitsSettings_31 ⟨Nat.le_of_ble_eq_true rfl, Nat.le_of_ble_eq_true rfl⟩) (fun r31 q31 => ?_)
          subst q31
          refine lv_icmp_eq (tgt := 39) hx hb dX2_fitsSettings_34 (by decide) (fun c34 => ?_) (fun c34 => ?_)
          · skip
            refine n_iinc (d := 1) (lv' := [(2, .int (nI (i + 1))), (0, .ref (a)), (1, .int (all))]) C dX2_fitsSettings_39 (by decide) hl (k := 2) rfl (by decide) rfl (fun ls hl => ?_)
            refine lv_goto (tgt := 2) hx hb dX2_fitsSettings_42 (by decide) ?_
            exact ih_lp (i + 1) ls (by omega) (by omega) (lt_s1 hg (by simp [c34])) (lv_sub hl [1, 2, 0] rfl)
          · skip
            refine lv_iconst (v := 0) hx hb dX2_fitsSettings_37 (by decide) ?_
            exact r_z C hr hlk (by first | exact Or.inl rfl | exact Or.inr rfl | exact bI_or _) (bif0 (allRf (i := i) (by omega) (by simp [c18, c34]))) dX2_fitsSettings_38
  exact lp (5) (0) ls (by omega) (by omega) (fun j hj => absurd hj (by omega)) (lv_sub hl [1, 2, 0] rfl)
set_option maxHeartbeats 4000000 in
set_option maxRecDepth 100000 in
theorem c2_fitsSeed (l : Launch) (g : GG) (a : Nat) (ρ : RunT) (cnt : Bool) (hO : RunOK ρ) (own : Int32) : Met l yX2_fitsSeed (.code yX2_fitsSeed cX2_fitsSeed 2 (some .boolean) :: wsL_law) ({ frames := 0, cells := 0, slots := 0, locals := 0 } : Room) (mP g [.ref (a), .int (own)] (RunAt g ρ cnt a)) (vp_Si (fun z => z = bI (fsdB ρ own))) 0 0 ((fun _ => False)) := by
  refine mMet (by decide) (Nat.le_of_ble_eq_true rfl) ?_
  intro p e s m below meth c C hr hlk hnm hP ls hl
  have hx := C.1.1
  have hb := C.1.2.1
  have hl : lv_has ls 2 [(0, .ref (a)), (1, .int (own))] := hl
  have hRA := hP
  obtain ⟨ca, na, va, ra, v, w, hv, hP⟩ := hP
  have h16 := Nat.le_trans hO.2.2.2.2.2.2.2.1 hO.2.2.2.2.2.2.1
  have h8 := hO.2.1
  have ht16 := hO.2.2.2.2.2.2.1
  have hNA : NoteAt g ρ na s.heap := ⟨va, v, hv.1, hP.sub [2, 3] rfl⟩
  have hCA : CodeAt g (rStp ρ) ca s.heap := hP.sub [1] rfl
  refine lv_aload_n hx hb dX2_fitsSeed_0 rfl (lv_at hl 0 rfl) ?_
  refine q_get C f_X2_12 (hP) 0 rfl rfl dX2_fitsSeed_1 ?_
  refine q_get C f_X2_98 (hP) 2 rfl rfl dX2_fitsSeed_4 ?_
  refine b_ifeq (tgt := 18) C dX2_fitsSeed_7 (by decide) (fun c7 => ?_) (fun c7 => ?_)
  · skip
    refine lv_iconst (v := 1) hx hb dX2_fitsSeed_18 (by decide) ?_
    refine lv_goto (tgt := 23) hx hb dX2_fitsSeed_19 (by decide) ?_
    exact r_z C hr hlk (by first | exact Or.inl rfl | exact Or.inr rfl | exact bI_or _) (bit1 (by simp [fsdB, c7])) dX2_fitsSeed_23
  · skip
    refine lv_aload_n hx hb dX2_fitsSeed_10 rfl (lv_at hl 0 rfl) ?_
    refine q_get C f_X2_39 (hP) 0 rfl rfl dX2_fitsSeed_11 ?_
    refine lv_iload_n hx hb dX2_fitsSeed_14 rfl (lv_at hl 1 rfl) ?_
    refine lv_icmp_ne (tgt := 22) hx hb dX2_fitsSeed_15 (by decide) (fun c15 => ?_) (fun c15 => ?_)
    · skip
      refine lv_iconst (v := 0) hx hb dX2_fitsSeed_22 (by decide) ?_
      exact r_z C hr hlk (by first | exact Or.inl rfl | exact Or.inr rfl | exact bI_or _) (bif0 (by simp [fsdB, c7, c15])) dX2_fitsSeed_23
    · skip
      refine lv_iconst (v := 1) hx hb dX2_fitsSeed_18 (by decide) ?_
      refine lv_goto (tgt := 23) hx hb dX2_fitsSeed_19 (by decide) ?_
      exact r_z C hr hlk (by first | exact Or.inl rfl | exact Or.inr rfl | exact bI_or _) (bit1 (by simp [fsdB, c7, c15])) dX2_fitsSeed_23
set_option maxHeartbeats 4000000 in
set_option maxRecDepth 100000 in
theorem c2_gridSeeds (l : Launch) (g : GG) (a : Nat) (ρ : RunT) (cnt : Bool) (hO : RunOK ρ) : Met l yX2_gridSeeds (.code yX2_gridSeeds cX2_gridSeeds 1 (some .int) :: wsL_law) ({ frames := 0, cells := 0, slots := 0, locals := 0 } : Room) (mP g [.ref (a)] (RunAt g ρ cnt a)) (vp_Si (fun z => z = gsI ρ)) 0 0 ((fun _ => False)) := by
  refine mMet (by decide) (Nat.le_of_ble_eq_true rfl) ?_
  intro p e s m below meth c C hr hlk hnm hP ls hl
  have hx := C.1.1
  have hb := C.1.2.1
  have hl : lv_has ls 1 [(0, .ref (a))] := hl
  have hRA := hP
  obtain ⟨ca, na, va, ra, v, w, hv, hP⟩ := hP
  have h16 := Nat.le_trans hO.2.2.2.2.2.2.2.1 hO.2.2.2.2.2.2.1
  have h8 := hO.2.1
  have ht16 := hO.2.2.2.2.2.2.1
  have hNA : NoteAt g ρ na s.heap := ⟨va, v, hv.1, hP.sub [2, 3] rfl⟩
  have hCA : CodeAt g (rStp ρ) ca s.heap := hP.sub [1] rfl
  refine lv_aload_n hx hb dX2_gridSeeds_0 rfl (lv_at hl 0 rfl) ?_
  refine q_get C f_X2_12 (hP) 0 rfl rfl dX2_gridSeeds_1 ?_
  refine q_get C f_X2_98 (hP) 2 rfl rfl dX2_gridSeeds_4 ?_
  refine b_ifne (tgt := 14) C dX2_gridSeeds_7 (by decide) (fun c7 => ?_) (fun c7 => ?_)
  · skip
    refine lv_aload_n hx hb dX2_gridSeeds_14 rfl (lv_at hl 0 rfl) ?_
    refine q_get C f_X2_39 (hP) 0 rfl rfl dX2_gridSeeds_15 ?_
    refine lv_bipush (v := 8) hx hb dX2_gridSeeds_18 (by decide) ?_
    refine lv_icmp_ge (tgt := 32) hx hb dX2_gridSeeds_20 (by decide) (fun c20 => ?_) (fun c20 => ?_)
    · skip
      refine lv_iconst (v := 0) hx hb dX2_gridSeeds_32 (by decide) ?_
      exact r_i C hr hlk (by rw [gsI, c7, if_pos rfl, if_neg (fun hz => (fa_of_lt hz).2.1 c20)]) dX2_gridSeeds_33
    · skip
      refine lv_iconst (v := 1) hx hb dX2_gridSeeds_23 (by decide) ?_
      refine lv_aload_n hx hb dX2_gridSeeds_24 rfl (lv_at hl 0 rfl) ?_
      refine q_get C f_X2_39 (hP) 0 rfl rfl dX2_gridSeeds_25 ?_
      refine lv_ishl hx hb dX2_gridSeeds_28 ?_
      refine lv_goto (tgt := 33) hx hb dX2_gridSeeds_29 (by decide) ?_
      exact r_i C hr hlk (by rw [gsI, c7, if_pos rfl, if_pos (fa_of_nle c20)]) dX2_gridSeeds_33
  · skip
    refine lv_sipush (v := 255) hx hb dX2_gridSeeds_10 (by decide) ?_
    exact r_i C hr hlk (by rw [gsI, c7]; rfl) dX2_gridSeeds_13

/-! THE CLASS TrialBook: holes, hole -/
theorem and1d (x y : Int32) : (x &&& y) &&& 1 = (x &&& 1) &&& (y &&& 1) := by
  apply Int32.toBitVec_inj.mp
  simp only [Int32.toBitVec_and]
  ext k
  simp only [BitVec.getElem_and]
  cases x.toBitVec[k] <;> cases y.toBitVec[k] <;> cases (Int32.toBitVec 1)[k] <;> rfl
theorem has_and (x y : Int32) (i : Nat) : hasB (x &&& y) i = (hasB x i && hasB y i) := by
  unfold hasB
  rw [shrAnd, and1d]
  rcases and1 (x >>> ((nI i) &&& 31)) with h1 | h1 <;> rcases and1 (y >>> ((nI i) &&& 31)) with h2 | h2 <;> rw [h1, h2] <;> decide
theorem shrXor (x y k : Int32) : (x ^^^ y) >>> k = (x >>> k) ^^^ (y >>> k) := by
  apply Int32.toBitVec_inj.mp
  simp only [Int32.toBitVec_shiftRight, Int32.toBitVec_xor]
  show (x.toBitVec ^^^ y.toBitVec).sshiftRight (k.toBitVec.smod 32).toNat = x.toBitVec.sshiftRight (k.toBitVec.smod 32).toNat ^^^ y.toBitVec.sshiftRight (k.toBitVec.smod 32).toNat
  generalize (k.toBitVec.smod 32).toNat = n
  ext i hi
  by_cases hni : n + i < 32 <;> simp [BitVec.getElem_sshiftRight, hni, BitVec.msb_xor]
theorem xor1d (x y : Int32) : (x ^^^ y) &&& 1 = (x &&& 1) ^^^ (y &&& 1) := by
  apply Int32.toBitVec_inj.mp
  simp only [Int32.toBitVec_and, Int32.toBitVec_xor]
  ext k
  simp only [BitVec.getElem_and, BitVec.getElem_xor]
  cases x.toBitVec[k] <;> cases y.toBitVec[k] <;> cases (Int32.toBitVec 1)[k] <;> rfl
theorem has_not (x : Int32) {i : Nat} (hi : i < 8) : hasB (x ^^^ (-1)) i = !hasB x i := by
  unfold hasB
  rw [shrXor, xor1d, (by decide +kernel : ∀ i, i < 8 → ((-1 : Int32) >>> ((nI i) &&& 31)) &&& 1 = 1) i hi]
  rcases and1 (x >>> ((nI i) &&& 31)) with h1 | h1 <;> rw [h1] <;> decide
theorem gs_e {ρ : RunT} (hO : RunOK ρ) {o : Nat} (ho : o < 8) : hasB (gsI ρ) o = fsdB ρ (nI o) := by
  obtain ⟨j, hj, e⟩ := inR_nI (hi := 99) hO.2.2.2.2.1
  unfold gsI fsdB
  rw [e]
  cases rSd ρ with
  | false => exact (by decide +kernel : ∀ o, o < 8 → hasB 255 o = true) o ho
  | true => exact (by decide +kernel : ∀ j, j < 100 → ∀ o, o < 8 → hasB (if nI j < 8 then (1 : Int32) <<< (nI j &&& 31) else 0) o = decide (nI j = nI o)) j (by omega) o ho
theorem op_any {τ : TB} {ks : List Nat} {all : Int32} {o : Nat} : ∀ f, hasB (opM τ ks all f) o = true ↔ ∃ i, i < f ∧ fitB (tRun τ (ks.getD i 0)) all = true ∧ hasB (gsI (tRun τ (ks.getD i 0))) o = true
  | 0 => by
    have e : hasB (opM τ ks all 0) o = false := by
      show hasB 0 o = false
      unfold hasB
      rw [Int32.zero_shiftRight]
      decide
    rw [e]
    exact ⟨fun h => absurd h (by decide), fun ⟨i, h, _⟩ => absurd h (by omega)⟩
  | f + 1 => by
    have ih := op_any (τ := τ) (ks := ks) (all := all) (o := o) f
    rw [opM]
    cases e : fitB (tRun τ (ks.getD f 0)) all with
    | true =>
      rw [if_pos rfl, hasOr, Bool.or_eq_true, ih]
      constructor
      · rintro (⟨i, h1, h2⟩ | h)
        · exact ⟨i, by omega, h2⟩
        · exact ⟨f, by omega, e, h⟩
      · rintro ⟨i, h1, h2, h3⟩
        rcases Nat.lt_or_ge i f with h | h
        · exact Or.inl ⟨i, h, h2, h3⟩
        · rw [show i = f by omega] at h3; exact Or.inr h3
    | false =>
      rw [if_neg (by decide), ih]
      constructor
      · rintro ⟨i, h1, h2⟩; exact ⟨i, by omega, h2⟩
      · rintro ⟨i, h1, h2, h3⟩
        rcases Nat.lt_or_ge i f with h | h
        · exact ⟨i, h, h2, h3⟩
        · rw [show i = f by omega, e] at h2; cases h2
theorem fst_m1 {p : Nat → Bool} : ∀ (n i : Nat), i + n ≤ 1000 → (fstI p n i = (-1) ↔ ∀ r, i ≤ r → r < i + n → p r = false)
  | 0, i, _ => ⟨fun _ r h1 h2 => absurd h2 (by omega), fun _ => rfl⟩
  | n + 1, i, h => by
    have ih := fst_m1 (p := p) n (i + 1) (by omega)
    rw [fstI]
    cases e : p i with
    | true =>
      rw [if_pos rfl]
      constructor
      · intro hz
        rw [fa_eq, nI_toInt (by omega), li_m1] at hz
        omega
      · intro hz; rw [hz i (Nat.le_refl _) (by omega)] at e; cases e
    | false =>
      rw [if_neg (by decide), ih]
      constructor
      · intro hz r h1 h2
        rcases Nat.eq_or_lt_of_le h1 with h3 | h3
        · rw [← h3]; exact e
        · exact hz r h3 (by omega)
      · intro hz r h1 h2; exact hz r (by omega) (by omega)
theorem op_has {τ : TB} (hT : TOK τ) {k tk n w o : Nat} (hw : w ≤ 8) (ho : o < 8) : hasB (opI τ (flN τ (tCode τ k) tk (tN τ)) (setAt τ n) w) o = (decide (o < w) && holeB τ k tk n o) := by
  rw [opI, has_and, has_not _ ho, (by decide +kernel : ∀ w, w < 9 → ∀ o, o < 8 → hasB (((1 : Int32) <<< ((nI w) &&& 31)) - 1) o = decide (o < w)) w (by omega) o ho, Bool.and_comm]
  congr 1
  rw [holeB, Bool.eq_iff_iff, decide_eq_true_eq, savedI, fst_m1 _ _ (by have := hT.2.2.1; omega), Bool.not_eq_true', Bool.eq_false_iff, Ne, op_any]
  constructor
  · intro h r h1 h2
    cases e : savB τ (tCode τ k) (setAt τ n) (nI o) tk (tRun τ r) with
    | false => rfl
    | true =>
      rw [sav_e, Bool.and_eq_true, Bool.and_eq_true] at e
      obtain ⟨i, hi, he⟩ := List.mem_iff_getElem.mp (flN_mem.mpr ⟨(by omega : r < tN τ), e.2⟩)
      have he2 : (flN τ (tCode τ k) tk (tN τ)).getD i 0 = r := by rw [List.getD_eq_getElem?_getD, List.getElem?_eq_getElem hi, ← he]; rfl
      exact absurd ⟨i, hi, by rw [he2]; exact e.1.1, by rw [he2, gs_e (hT.2.2.2.1 r (by omega)) ho]; exact e.1.2⟩ h
  · rintro h ⟨i, hi, h1, h2⟩
    have hm := flN_mem.mp (getD_mem hi)
    have hz := h ((flN τ (tCode τ k) tk (tN τ)).getD i 0) (Nat.zero_le _) (by have := hm.1; omega)
    rw [gs_e (hT.2.2.2.1 _ hm.1) ho] at h2
    rw [sav_e, h1, h2, hm.2] at hz
    cases hz
theorem op_low {τ : TB} {ks : List Nat} {all : Int32} {w : Nat} (hw : w ≤ 8) : ∃ m : Nat, m < 256 ∧ opI τ ks all w = nI m := by
  refine w8_nI ?_
  rw [opI, Int32.and_assoc, (by decide +kernel : ∀ w, w < 9 → ((((1 : Int32) <<< ((nI w) &&& 31)) - 1) &&& 255) = ((1 : Int32) <<< ((nI w) &&& 31)) - 1) w (by omega)]
theorem ct_cut {f g : Nat → Bool} {w : Nat} (hw : w ≤ 8) (h : ∀ o, o < 8 → f o = (decide (o < w) && g o)) : fb_ct f 8 = fb_ct g w := by
  have e : fb_ct f 8 = fb_ct f w + fb_ct (fun k => f (w + k)) (8 - w) := by rw [← fb_ct_split, show w + (8 - w) = 8 by omega]
  have z : fb_ct (fun k => f (w + k)) (8 - w) = 0 := fb_ct_zero.mpr (fun k hk => by rw [h (w + k) (by omega), decide_eq_false (by omega)]; rfl)
  rw [e, z, Nat.add_zero]
  exact fb_ct_cong (fun k hk => by rw [h k (by omega), decide_eq_true hk]; rfl)
theorem bc_op {τ : TB} (hT : TOK τ) {k tk n w : Nat} (hw : w ≤ 8) : bc5 (bc4 (bc3 (bc2 (bc1 (opI τ (flN τ (tCode τ k) tk (tN τ)) (setAt τ n) w))))) &&& 63 = nI (fb_ct (holeB τ k tk n) w) := by
  obtain ⟨m, hm, e⟩ := op_low (τ := τ) (ks := flN τ (tCode τ k) tk (tN τ)) (all := setAt τ n) hw
  have h2 := ct_cut (f := fun o => hasB (nI m) o) (g := holeB τ k tk n) hw (fun o ho => by rw [← e]; exact op_has hT hw ho)
  rw [e, bc_e m hm, h2]
theorem hole_hit {τ : TB} (hT : TOK τ) {k tk n w j G : Nat} (hw : w ≤ 8) (hn : n < G) (h : j < fb_ct (holeB τ k tk n) w) : ∃ o, kthAll (holeB τ k tk) w (G - n) n j = some (n, o) ∧ memI (kthRow (fun o => hasB (opI τ (flN τ (tCode τ k) tk (tN τ)) (setAt τ n) w) o) 8 0 j).1 = nI o := by
  have e0 : fb_ct (fun o => holeB τ k tk n (0 + o)) w = fb_ct (holeB τ k tk n) w := fb_ct_cong (fun o _ => by rw [Nat.zero_add])
  obtain ⟨o, h1, h2, h3⟩ := (kr_cnt (holeB τ k tk n) w 0 j).1 (by rw [e0]; exact h)
  refine ⟨o, ?_, ?_⟩
  · rw [kth_in hn, Nat.sub_zero, h3]; rfl
  · have h4 : kthRow (fun o => hasB (opI τ (flN τ (tCode τ k) tk (tN τ)) (setAt τ n) w) o) w 0 j = (some o, 0) := by
      rw [kr_cong (g := holeB τ k tk n) w 0 j (fun q _ hq => by rw [op_has hT hw (by omega), decide_eq_true (by omega)]; rfl), h3]
    have h5 := kr_more _ (8 - w) w 0 j h4
    rw [show w + (8 - w) = 8 by omega] at h5
    rw [h5]; rfl
theorem hole_next {τ : TB} {k tk n w j G : Nat} (hn : n < G) (h : ¬ j < fb_ct (holeB τ k tk n) w) : kthAll (holeB τ k tk) w (G - n) n j = kthAll (holeB τ k tk) w (G - (n + 1)) (n + 1) (j - fb_ct (holeB τ k tk n) w) := by
  have e0 : fb_ct (fun o => holeB τ k tk n (0 + o)) w = fb_ct (holeB τ k tk n) w := fb_ct_cong (fun o _ => by rw [Nat.zero_add])
  have h3 := (kr_cnt (holeB τ k tk n) w 0 j).2 (by rw [e0]; exact h)
  rw [kth_in hn, Nat.sub_zero, h3, e0]; rfl
theorem st_in {τ : TB} {n : Nat} (hn : n ≤ gridN τ) (h : ¬ stI τ n = (-1)) : n < gridN τ ∧ stI τ n = setAt τ n := by
  by_cases h1 : n < gridN τ
  · exact ⟨h1, if_pos h1⟩
  · exact absurd (if_neg h1) h
theorem st_out {τ : TB} (hT : TOK τ) {n : Nat} (hn : n ≤ gridN τ) (h : stI τ n = (-1)) : n = gridN τ := by
  by_cases h1 : n < gridN τ
  · rw [stI, if_pos h1] at h; exact absurd h (set_ne hT n)
  · omega
theorem st_0 {τ : TB} (hT : TOK τ) : (0 : Int32) = stI τ 0 := by
  have h1 := (grid_le hT).1
  rw [stI, if_pos (show 0 < gridN τ from h1), set_e hT]
  simp only [Nat.zero_mod, Nat.zero_div]
  decide
set_option maxHeartbeats 4000000 in
set_option maxRecDepth 100000 in
theorem c4_holes (l : Launch) (g : GG) (b : Nat → Nat) (Z : Nat → Prop) (τ : TB) (hT : TOK τ) (hbi : ∀ i j, i < 9 → j < 9 → b i = b j → i = j) (hZ : ∀ q, bA b q → Z q) (k t w : Int32) : Met l yX4_holes (.code yX4_holes cX4_holes 8 (some .int) :: wsL_law) ({ frames := 4, cells := 0, slots := 0, locals := 91 } : Room) (mP g [.ref (b 0), .int (k), .int (t), .int (w)] (Bk g b Z τ)) (mQ (bA b) (fun z H => z = some (.int (holesT τ k t w)) ∧ Bk g b Z (τ) H)) 0 0 ((bA b)) := by
  refine mMet (by decide) (Nat.le_of_ble_eq_true rfl) ?_
  intro p e s m below meth c C hr hlk hnm hP ls hl
  have hx := C.1.1
  have hb := C.1.2.1
  have hl : lv_has ls 8 [(0, .ref (b 0)), (1, .int (k)), (2, .int (t)), (3, .int (w))] := hl
  have hBk := hP
  obtain ⟨cad, rad, ⟨nf, fc, fb, d, fr, f1, f2, ff, hB, hP⟩, hF⟩ := hP
  have hW : WorldAt g (tDat τ) (tClk τ) (b 3) s.heap := ⟨b 4, d, hB.2.2.1, hP.sub [3, 4] rfl⟩
  have hS : va_S (bA b) s.heap s.heap [] := va_S.rf
  have hD : va_D (bA b) [(b 0, .inr (4, [.ref (b 1), .ref (b 2), .ref (b 3), .ref (b 5), .int (nI (tN τ)), .ref (b 6), .ref (b 7), .int (nI ((tClm τ).length)), .ref (b 8), .int (nf)])), (b 1, aC g 4 fc), (b 2, aI g 4 fb), (b 3, .inr (3, [.ref (b 4), .int (tClk τ)])), (b 4, aI g 8 d), (b 5, aR g 40 fr), (b 6, aI g 20 f1), (b 7, aI g 20 f2), (b 8, aR g 40 ff)] := base_D hbi
  have h40 := hT.2.2.1
  refine lv_aload_n hx hb dX4_holes_0 rfl (lv_at hl 0 rfl) ?_
  refine lv_iload_n hx hb dX4_holes_1 rfl (lv_at hl 1 rfl) ?_
  refine k_q (c_V (As := [.int (k)]) (rest := []) C v_X4_48 (c4_codeAt l g b τ hT nf fc fb d fr f1 f2 ff (k)) ⟨Nat.le_of_ble_eq_true rfl, Nat.le_of_ble_eq_true rfl⟩ (q_recv C hP 0 rfl rfl) (hP) hl.1 rfl rfl (Nat.le_of_ble_eq_true rfl) dX4_holes_2 ⟨Nat.le_of_ble_eq_true rfl, Nat.le_of_ble_eq_true rfl⟩) (fun r2 q2 => ?_)
  by_cases h2 : inR k 0 3 = true
  · skip
    obtain ⟨k1, hk1, rfl⟩ := inR_nI (hi := 3) h2
    obtain rfl : r2 = some (cad k1) := q2.trans (cd_in (by omega) (hB.1 _ (by omega)))
    refine W.eq (g2 := F0 m 5 ls [.ref (cad k1)]) rfl ?_
    have ecl : (nI k1).toNatClampNeg = k1 := nI_clamp (by omega)
    have hk4 : k1 < 4 := by omega
    refine lv_astore (lv' := [(4, .ref (cad k1)), (0, .ref (b 0)), (1, .int (nI (k1))), (2, .int (t)), (3, .int (w))]) hx hb dX4_holes_5 hl (by decide) rfl (fun ls hl => ?_)
    refine lv_aload hx hb dX4_holes_7 (lv_at hl 0 rfl) ?_
    refine lv_ifnull hx hb dX4_holes_9 ?_
    refine lv_iload_n hx hb dX4_holes_12 rfl (lv_at hl 3 rfl) ?_
    refine k_i (c_S (As := [.int (t)]) (rest := []) C v_X4_59 (c4_areTicks l g (t)) ⟨Nat.le_of_ble_eq_true rfl, Nat.le_of_ble_eq_true rfl⟩ (trivial) hl.1 rfl rfl (Nat.le_of_ble_eq_true rfl) dX4_holes_13 ⟨Nat.le_of_ble_eq_true rfl, Nat.le_of_ble_eq_true rfl⟩) (fun r13 q13 => ?_)
    subst q13
    refine b_ifeq (tgt := 26) C dX4_holes_16 (by decide) (fun c16 => ?_) (fun c16 => ?_)
    · skip
      refine lv_iconst (v := (-1)) hx hb dX4_holes_26 (by decide) ?_
      exact r_wi C hr hlk hS (⟨sv (by rw [holesT, show canHoleB (nI k1) t w = false from by rw [canHoleB, c16]; simp]; rfl), ⟨cad, rad, ⟨_, fc, fb, d, fr, f1, f2, _, hB, hP⟩, hF⟩⟩) dX4_holes_27
    · skip
      refine lv_iload_n hx hb dX4_holes_19 rfl (lv_at hl 4 rfl) ?_
      refine k_i (c_S (As := [.int (w)]) (rest := []) C v_X4_205 (c4_areGridSeeds l g (w)) ⟨Nat.le_of_ble_eq_true rfl, Nat.le_of_ble_eq_true rfl⟩ (trivial) hl.1 rfl rfl (Nat.le_of_ble_eq_true rfl) dX4_holes_20 ⟨Nat.le_of_ble_eq_true rfl, Nat.le_of_ble_eq_true rfl⟩) (fun r20 q20 => ?_)
      subst q20
      refine b_ifne (tgt := 28) C dX4_holes_23 (by decide) (fun c23 => ?_) (fun c23 => ?_)
      · skip
        obtain ⟨t1, ht0, ht1, rfl⟩ := inR1_nI (hi := 16) c16
        obtain ⟨w1, hw0, hw1, rfl⟩ := inR1_nI (hi := 8) c23
        have gG := grid_le hT
        have et : (nI t1).toNatClampNeg = t1 := nI_clamp (by omega)
        have ew : (nI w1).toNatClampNeg = w1 := nI_clamp (by omega)
        refine lv_aload_n hx hb dX4_holes_28 rfl (lv_at hl 1 rfl) ?_
        refine lv_aload hx hb dX4_holes_29 (lv_at hl 0 rfl) ?_
        refine lv_iload_n hx hb dX4_holes_31 rfl (lv_at hl 3 rfl) ?_
        refine k_w (c_V (As := [.ref (cad k1), .int (nI (t1))]) (rest := []) C v_X4_208 (c4_gatherFillers l g b Z τ hT hbi hZ nf fc fb d fr f1 f2 ff cad rad hB k1 t1 (by omega) (by omega)) ⟨Nat.le_of_ble_eq_true rfl, Nat.le_of_ble_eq_true rfl⟩ (q_recv C hP 0 rfl rfl) (⟨hP, hF⟩) hl.1 rfl rfl (Nat.le_of_ble_eq_true rfl) dX4_holes_32 ⟨Nat.le_of_ble_eq_true rfl, Nat.le_of_ble_eq_true rfl⟩) hS (fun _ hq => hq) (fun r32 H1 locs q32 hz32 hk32 hS => ?_)
        obtain ⟨rfl, ff1, hff, hP⟩ := q32
        refine W.eq (g2 := F0 m 35 ls []) rfl ?_
        have hF := hF.keep hS (fun q _ hq => hZ q hq)
        refine lv_iconst (v := nI 0) hx hb dX4_holes_35 (by decide) ?_
        refine lv_istore (lv' := [(5, .int (nI (0))), (4, .ref (cad k1)), (0, .ref (b 0)), (1, .int (nI (k1))), (2, .int (nI (t1))), (3, .int (nI (w1)))]) hx hb dX4_holes_36 hl (by decide) rfl (fun ls hl => ?_)
        refine lv_iconst (v := 0) hx hb dX4_holes_38 (by decide) ?_
        refine lv_istore (lv' := [(6, .int (0)), (5, .int (nI (0))), (4, .ref (cad k1)), (0, .ref (b 0)), (1, .int (nI (k1))), (2, .int (nI (t1))), (3, .int (nI (w1)))]) hx hb dX4_holes_39 hl (by decide) rfl (fun ls hl => ?_)
        refine lv_iconst (v := nI 0) hx hb dX4_holes_41 (by decide) ?_
        refine lv_istore (lv' := [(7, .int (nI (0))), (6, .int (0)), (5, .int (nI (0))), (4, .ref (cad k1)), (0, .ref (b 0)), (1, .int (nI (k1))), (2, .int (nI (t1))), (3, .int (nI (w1)))]) hx hb dX4_holes_42 hl (by decide) rfl (fun ls hl => ?_)
        have lp : ∀ (n_lp : Nat) (n tot : Nat) (x : Int32) (ls : Array Slot), (n ≤ gridN τ) → (1296 + 1 ≤ n + n_lp) → (x = stI τ n) → (tot = fb_sm (fun n => fb_ct (holeB τ k1 t1 n) w1) n) → lv_has ls 8 [(0, .ref (b 0)), (1, .int (nI (k1))), (2, .int (nI (t1))), (3, .int (nI (w1))), (4, .ref (cad k1)), (5, .int (nI (tot))), (6, .int (x)), (7, .int (nI (n)))] → W p l e ({ frames := 4, cells := 0, slots := 0, locals := 91 } : Room) s m ([.ref (b 0), .int (nI (k1)), .int (nI (t1)), .int (nI (w1))] : List Value).toArray below meth c H1 locs 0 0 (MQ below (mQ (bA b) (fun z H => z = some (.int (holesT τ (nI k1) (nI t1) (nI w1))) ∧ Bk g b Z (τ) H)) (([.ref (b 0), .int (nI (k1)), .int (nI (t1)), .int (nI (w1))] : List Value).toArray) s 0 0 ((bA b))) (F0 m 44 ls []) := by
          intro n_lp
          induction n_lp with
          | zero =>
            intro n tot x ls hnN hn hx2 ht2
            exact absurd hn (by omega)
          | succ n_lp ih_lp =>
            intro n tot x ls hnN hn hx2 ht2 hl
            refine lv_iload hx hb dX4_holes_44 (lv_at hl 7 rfl) ?_
            refine lv_sipush (v := nI 1296) hx hb dX4_holes_46 (by decide) ?_
            refine n_icmp_ge (tgt := 87) C (by omega) (by omega) dX4_holes_49 (by decide) (fun c49 => ?_) (fun c49 => ?_)
            · skip
              refine lv_iload hx hb dX4_holes_87 (lv_at hl 5 rfl) ?_
              exact r_wi C hr hlk hS (⟨sv (by rw [holesT, show canHoleB (nI k1) (nI t1) (nI w1) = true from by rw [canHoleB, h2, c16, c23]; rfl, ecl, et, ew, ht2, (by omega : n = gridN τ)]; rfl), ⟨cad, rad, ⟨_, fc, fb, d, fr, f1, f2, _, hB, hP⟩, hF⟩⟩) dX4_holes_89
            · skip
              refine lv_iload hx hb dX4_holes_52 (lv_at hl 6 rfl) ?_
              refine lv_iconst (v := (-1)) hx hb dX4_holes_54 (by decide) ?_
              refine lv_icmp_eq (tgt := 87) hx hb dX4_holes_55 (by decide) (fun c55 => ?_) (fun c55 => ?_)
              · skip
                refine lv_iload hx hb dX4_holes_87 (lv_at hl 5 rfl) ?_
                exact r_wi C hr hlk hS (⟨sv (by rw [holesT, show canHoleB (nI k1) (nI t1) (nI w1) = true from by rw [canHoleB, h2, c16, c23]; rfl, ecl, et, ew, ht2, st_out hT hnN (by rw [← hx2]; exact c55)]; rfl), ⟨cad, rad, ⟨_, fc, fb, d, fr, f1, f2, _, hB, hP⟩, hF⟩⟩) dX4_holes_89
              · skip
                obtain ⟨hnG, hxs⟩ := st_in hnN (by rw [← hx2]; exact c55)
                obtain rfl : x = setAt τ n := hx2.trans hxs
                refine lv_iload hx hb dX4_holes_58 (lv_at hl 5 rfl) ?_
                refine lv_aload_n hx hb dX4_holes_60 rfl (lv_at hl 0 rfl) ?_
                refine lv_iload hx hb dX4_holes_61 (lv_at hl 6 rfl) ?_
                refine lv_iload_n hx hb dX4_holes_63 rfl (lv_at hl 3 rfl) ?_
                refine k_i (c_V (As := [.int (setAt τ n), .int (nI (w1))]) (rest := [.int (nI (tot))]) C v_X4_212 (c4_openSeeds l g b Z τ hT fc fb d fr f1 f2 ff1 cad rad k1 t1 hff (setAt τ n) w1 (by omega)) ⟨Nat.le_of_ble_eq_true rfl, Nat.le_of_ble_eq_true rfl⟩ (q_recv C hP 0 rfl rfl) (⟨hP, hF⟩) hl.1 rfl rfl (Nat.le_of_ble_eq_true rfl) dX4_holes_64 ⟨Nat.le_of_ble_eq_true rfl, Nat.le_of_ble_eq_true rfl⟩) (fun r64 q64 => ?_)
                subst q64
                refine k_i (c_S (As := [.int (opI τ (flN τ (tCode τ k1) t1 (tN τ)) (setAt τ n) w1)]) (rest := [.int (nI (tot))]) C v_X4_216 (c6_bitCount l g (opI τ (flN τ (tCode τ k1) t1 (tN τ)) (setAt τ n) w1)) ⟨Nat.le_of_ble_eq_true rfl, Nat.le_of_ble_eq_true rfl⟩ (trivial) hl.1 rfl rfl (Nat.le_of_ble_eq_true rfl) dX4_holes_67 ⟨Nat.le_of_ble_eq_true rfl, Nat.le_of_ble_eq_true rfl⟩) (fun r67 q67 => ?_)
                subst q67
                refine w_topi (y := (nI (fb_ct (holeB τ k1 t1 n) w1))) (bc_op hT (by omega)) ?_
                refine n_iadd C dX4_holes_70 ?_
                refine lv_istore (lv' := [(5, .int (nI (tot + (fb_ct (holeB τ k1 t1 n) w1)))), (0, .ref (b 0)), (1, .int (nI (k1))), (2, .int (nI (t1))), (3, .int (nI (w1))), (4, .ref (cad k1)), (6, .int (setAt τ n)), (7, .int (nI (n)))]) hx hb dX4_holes_71 hl (by decide) rfl (fun ls hl => ?_)
                refine lv_aload_n hx hb dX4_holes_73 rfl (lv_at hl 1 rfl) ?_
                refine lv_iload hx hb dX4_holes_74 (lv_at hl 6 rfl) ?_
                refine k_i (c_V (As := [.int (setAt τ n)]) (rest := []) C v_X4_221 (c4_nextSettings l g b τ hT (nI (flN τ (tCode τ k1) t1 (tN τ)).length) fc fb d fr f1 f2 ff1 cad rad hB n hnG) ⟨Nat.le_of_ble_eq_true rfl, Nat.le_of_ble_eq_true rfl⟩ (q_recv C hP 0 rfl rfl) (hP) hl.1 rfl rfl (Nat.le_of_ble_eq_true rfl) dX4_holes_76 ⟨Nat.le_of_ble_eq_true rfl, Nat.le_of_ble_eq_true rfl⟩) (fun r76 q76 => ?_)
                subst q76
                refine lv_istore (lv' := [(6, .int (nxI τ n)), (5, .int (nI (tot + (fb_ct (holeB τ k1 t1 n) w1)))), (0, .ref (b 0)), (1, .int (nI (k1))), (2, .int (nI (t1))), (3, .int (nI (w1))), (4, .ref (cad k1)), (7, .int (nI (n)))]) hx hb dX4_holes_79 hl (by decide) rfl (fun ls hl => ?_)
                refine n_iinc (d := 1) (lv' := [(7, .int (nI (n + 1))), (6, .int (nxI τ n)), (5, .int (nI (tot + (fb_ct (holeB τ k1 t1 n) w1)))), (0, .ref (b 0)), (1, .int (nI (k1))), (2, .int (nI (t1))), (3, .int (nI (w1))), (4, .ref (cad k1))]) C dX4_holes_81 (by decide) hl (k := 7) rfl (by decide) rfl (fun ls hl => ?_)
                refine lv_goto (tgt := 44) hx hb dX4_holes_84 (by decide) ?_
                exact ih_lp (n + 1) (tot + (fb_ct (holeB τ k1 t1 n) w1)) (nxI τ n) ls (by omega) (by omega) (rfl) (by rw [ht2, fb_sm_succ]) (lv_sub hl [3, 4, 5, 6, 7, 2, 1, 0] rfl)
        exact lp (1296 + 1) (0) (0) (0) ls (by omega) (by omega) (st_0 hT) (rfl) (lv_sub hl [4, 5, 6, 7, 3, 2, 1, 0] rfl)
      · skip
        refine lv_iconst (v := (-1)) hx hb dX4_holes_26 (by decide) ?_
        exact r_wi C hr hlk hS (⟨sv (by rw [holesT, show canHoleB (nI k1) t w = false from by rw [canHoleB, c23]; simp]; rfl), ⟨cad, rad, ⟨_, fc, fb, d, fr, f1, f2, _, hB, hP⟩, hF⟩⟩) dX4_holes_27
  · skip
    obtain rfl : r2 = none := q2.trans (if_neg h2)
    refine W.eq (g2 := F0 m 5 ls [.null]) rfl ?_
    refine lv_astoreN (lv' := [(4, .null), (0, .ref (b 0)), (1, .int (k)), (2, .int (t)), (3, .int (w))]) hx hb dX4_holes_5 hl (by decide) rfl (fun ls hl => ?_)
    refine lv_aloadN hx hb dX4_holes_7 (lv_at hl 0 rfl) ?_
    refine lv_ifnullN (tgt := 26) hx hb dX4_holes_9 (by decide) ?_
    refine lv_iconst (v := (-1)) hx hb dX4_holes_26 (by decide) ?_
    exact r_wi C hr hlk hS (⟨sv (by rw [holesT, show canHoleB k t w = false from by rw [canHoleB, Bool.eq_false_iff.mpr h2]; rfl]; rfl), ⟨cad, rad, ⟨_, fc, fb, d, fr, f1, f2, _, hB, hP⟩, hF⟩⟩) dX4_holes_27
set_option maxHeartbeats 4000000 in
set_option maxRecDepth 100000 in
theorem c4_hole (l : Launch) (g : GG) (b : Nat → Nat) (Z : Nat → Prop) (τ : TB) (hT : TOK τ) (hbi : ∀ i j, i < 9 → j < 9 → b i = b j → i = j) (hZ : ∀ q, bA b q → Z q) (k t w j y : Int32) : Met l yX4_hole (.code yX4_hole cX4_hole 12 (some .int) :: wsL_law) ({ frames := 4, cells := 0, slots := 0, locals := 91 } : Room) (mP g [.ref (b 0), .int (k), .int (t), .int (w), .int (j), .int (y)] (Bk g b Z τ)) (mQ (bA b) (fun z H => z = some (.int (holeT τ k t w j y)) ∧ Bk g b Z (τ) H)) 0 0 ((bA b)) := by
  refine mMet (by decide) (Nat.le_of_ble_eq_true rfl) ?_
  intro p e s m below meth c C hr hlk hnm hP ls hl
  have hx := C.1.1
  have hb := C.1.2.1
  have hl : lv_has ls 12 [(0, .ref (b 0)), (1, .int (k)), (2, .int (t)), (3, .int (w)), (4, .int (j)), (5, .int (y))] := hl
  have hBk := hP
  obtain ⟨cad, rad, ⟨nf, fc, fb, d, fr, f1, f2, ff, hB, hP⟩, hF⟩ := hP
  have hW : WorldAt g (tDat τ) (tClk τ) (b 3) s.heap := ⟨b 4, d, hB.2.2.1, hP.sub [3, 4] rfl⟩
  have hS : va_S (bA b) s.heap s.heap [] := va_S.rf
  have hD : va_D (bA b) [(b 0, .inr (4, [.ref (b 1), .ref (b 2), .ref (b 3), .ref (b 5), .int (nI (tN τ)), .ref (b 6), .ref (b 7), .int (nI ((tClm τ).length)), .ref (b 8), .int (nf)])), (b 1, aC g 4 fc), (b 2, aI g 4 fb), (b 3, .inr (3, [.ref (b 4), .int (tClk τ)])), (b 4, aI g 8 d), (b 5, aR g 40 fr), (b 6, aI g 20 f1), (b 7, aI g 20 f2), (b 8, aR g 40 ff)] := base_D hbi
  have h40 := hT.2.2.1
  refine lv_aload_n hx hb dX4_hole_0 rfl (lv_at hl 0 rfl) ?_
  refine lv_iload_n hx hb dX4_hole_1 rfl (lv_at hl 1 rfl) ?_
  refine k_q (c_V (As := [.int (k)]) (rest := []) C v_X4_48 (c4_codeAt l g b τ hT nf fc fb d fr f1 f2 ff (k)) ⟨Nat.le_of_ble_eq_true rfl, Nat.le_of_ble_eq_true rfl⟩ (q_recv C hP 0 rfl rfl) (hP) hl.1 rfl rfl (Nat.le_of_ble_eq_true rfl) dX4_hole_2 ⟨Nat.le_of_ble_eq_true rfl, Nat.le_of_ble_eq_true rfl⟩) (fun r2 q2 => ?_)
  by_cases h2 : inR k 0 3 = true
  · skip
    obtain ⟨k1, hk1, rfl⟩ := inR_nI (hi := 3) h2
    obtain rfl : r2 = some (cad k1) := q2.trans (cd_in (by omega) (hB.1 _ (by omega)))
    refine W.eq (g2 := F0 m 5 ls [.ref (cad k1)]) rfl ?_
    have ecl : (nI k1).toNatClampNeg = k1 := nI_clamp (by omega)
    have hk4 : k1 < 4 := by omega
    refine lv_astore (lv' := [(6, .ref (cad k1)), (0, .ref (b 0)), (1, .int (nI (k1))), (2, .int (t)), (3, .int (w)), (4, .int (j)), (5, .int (y))]) hx hb dX4_hole_5 hl (by decide) rfl (fun ls hl => ?_)
    refine lv_aload hx hb dX4_hole_7 (lv_at hl 0 rfl) ?_
    refine lv_ifnull hx hb dX4_hole_9 ?_
    refine lv_iload_n hx hb dX4_hole_12 rfl (lv_at hl 3 rfl) ?_
    refine k_i (c_S (As := [.int (t)]) (rest := []) C v_X4_59 (c4_areTicks l g (t)) ⟨Nat.le_of_ble_eq_true rfl, Nat.le_of_ble_eq_true rfl⟩ (trivial) hl.1 rfl rfl (Nat.le_of_ble_eq_true rfl) dX4_hole_13 ⟨Nat.le_of_ble_eq_true rfl, Nat.le_of_ble_eq_true rfl⟩) (fun r13 q13 => ?_)
    subst q13
    refine b_ifeq (tgt := 42) C dX4_hole_16 (by decide) (fun c16 => ?_) (fun c16 => ?_)
    · skip
      refine lv_iconst (v := (-1)) hx hb dX4_hole_42 (by decide) ?_
      exact r_wi C hr hlk hS (⟨sv (by rw [holeT, show canHoleB (nI k1) t w = false from by rw [canHoleB, c16]; simp]; rfl), ⟨cad, rad, ⟨_, fc, fb, d, fr, f1, f2, _, hB, hP⟩, hF⟩⟩) dX4_hole_43
    · skip
      refine lv_iload_n hx hb dX4_hole_19 rfl (lv_at hl 4 rfl) ?_
      refine k_i (c_S (As := [.int (w)]) (rest := []) C v_X4_205 (c4_areGridSeeds l g (w)) ⟨Nat.le_of_ble_eq_true rfl, Nat.le_of_ble_eq_true rfl⟩ (trivial) hl.1 rfl rfl (Nat.le_of_ble_eq_true rfl) dX4_hole_20 ⟨Nat.le_of_ble_eq_true rfl, Nat.le_of_ble_eq_true rfl⟩) (fun r20 q20 => ?_)
      subst q20
      refine b_ifeq (tgt := 42) C dX4_hole_23 (by decide) (fun c23 => ?_) (fun c23 => ?_)
      · skip
        refine lv_iconst (v := (-1)) hx hb dX4_hole_42 (by decide) ?_
        exact r_wi C hr hlk hS (⟨sv (by rw [holeT, show canHoleB (nI k1) t w = false from by rw [canHoleB, c23]; simp]; rfl), ⟨cad, rad, ⟨_, fc, fb, d, fr, f1, f2, _, hB, hP⟩, hF⟩⟩) dX4_hole_43
      · skip
        refine lv_iload hx hb dX4_hole_26 (lv_at hl 5 rfl) ?_
        refine lv_if_lt (tgt := 42) hx hb dX4_hole_28 (by decide) (fun c28 => ?_) (fun c28 => ?_)
        · skip
          refine lv_iconst (v := (-1)) hx hb dX4_hole_42 (by decide) ?_
          exact r_wi C hr hlk hS (⟨sv (by rw [holeT, decide_eq_false (Classical.not_not.mpr c28), Bool.and_false]; rfl), ⟨cad, rad, ⟨_, fc, fb, d, fr, f1, f2, _, hB, hP⟩, hF⟩⟩) dX4_hole_43
        · skip
          refine lv_iload hx hb dX4_hole_31 (lv_at hl 6 rfl) ?_
          refine lv_if_lt (tgt := 42) hx hb dX4_hole_33 (by decide) (fun c33 => ?_) (fun c33 => ?_)
          · skip
            refine lv_iconst (v := (-1)) hx hb dX4_hole_42 (by decide) ?_
            exact r_wi C hr hlk hS (⟨sv (by rw [holeT, show inR y 0 1 = false from inF (by simp only [fa_lt, fa_le, fa_eq, li_0, li_1, li_2, li_3, li_4, li_5, li_6, li_7, li_8, li_12, li_15, li_16, li_20, li_30, li_40, li_100, li_1000, li_65535, li_65536, li_1000000, li_m1] at c33; omega), Bool.and_false]; rfl), ⟨cad, rad, ⟨_, fc, fb, d, fr, f1, f2, _, hB, hP⟩, hF⟩⟩) dX4_hole_43
          · skip
            refine lv_iload hx hb dX4_hole_36 (lv_at hl 6 rfl) ?_
            refine lv_iconst (v := 1) hx hb dX4_hole_38 (by decide) ?_
            refine lv_icmp_le (tgt := 44) hx hb dX4_hole_39 (by decide) (fun c39 => ?_) (fun c39 => ?_)
            · skip
              obtain ⟨t1, ht0, ht1, rfl⟩ := inR1_nI (hi := 16) c16
              obtain ⟨w1, hw0, hw1, rfl⟩ := inR1_nI (hi := 8) c23
              obtain ⟨j1, hj1, rfl⟩ := pos_nI c28
              have gG := grid_le hT
              have et : (nI t1).toNatClampNeg = t1 := nI_clamp (by omega)
              have ew : (nI w1).toNatClampNeg = w1 := nI_clamp (by omega)
              have hwh : inR y 0 1 = true := inR_iff.mpr (by simp only [fa_lt, fa_le, li_0, li_1] at c33 c39; omega)
              obtain ⟨Y, hY⟩ : ∃ Y : Option (Nat × Nat), Y = kthAll (holeB τ k1 t1) w1 (gridN τ) 0 j1 := ⟨_, rfl⟩
              have eT : holeT τ (nI k1) (nI t1) (nI w1) (nI j1) y = pickI y (Y.map (fun z => (setAt τ z.1, nI z.2))) := by
                rw [holeT, show canHoleB (nI k1) (nI t1) (nI w1) = true from by rw [canHoleB, h2, c16, c23]; rfl, hwh, ecl, et, ew, nI_clamp hj1, decide_eq_true c28, show (fun n o => holeB τ k1 t1 n o) = holeB τ k1 t1 from rfl, ← hY]; rfl
              refine lv_aload_n hx hb dX4_hole_44 rfl (lv_at hl 1 rfl) ?_
              refine lv_aload hx hb dX4_hole_45 (lv_at hl 0 rfl) ?_
              refine lv_iload_n hx hb dX4_hole_47 rfl (lv_at hl 3 rfl) ?_
              refine k_w (c_V (As := [.ref (cad k1), .int (nI (t1))]) (rest := []) C v_X4_208 (c4_gatherFillers l g b Z τ hT hbi hZ nf fc fb d fr f1 f2 ff cad rad hB k1 t1 (by omega) (by omega)) ⟨Nat.le_of_ble_eq_true rfl, Nat.le_of_ble_eq_true rfl⟩ (q_recv C hP 0 rfl rfl) (⟨hP, hF⟩) hl.1 rfl rfl (Nat.le_of_ble_eq_true rfl) dX4_hole_48 ⟨Nat.le_of_ble_eq_true rfl, Nat.le_of_ble_eq_true rfl⟩) hS (fun _ hq => hq) (fun r48 H1 locs q48 hz48 hk48 hS => ?_)
              obtain ⟨rfl, ff1, hff, hP⟩ := q48
              refine W.eq (g2 := F0 m 51 ls []) rfl ?_
              have hF := hF.keep hS (fun q _ hq => hZ q hq)
              refine lv_iload hx hb dX4_hole_51 (lv_at hl 5 rfl) ?_
              refine lv_istore (lv' := [(7, .int (nI (j1))), (6, .ref (cad k1)), (0, .ref (b 0)), (1, .int (nI (k1))), (2, .int (nI (t1))), (3, .int (nI (w1))), (4, .int (nI (j1))), (5, .int (y))]) hx hb dX4_hole_53 hl (by decide) rfl (fun ls hl => ?_)
              refine lv_iconst (v := 0) hx hb dX4_hole_55 (by decide) ?_
              refine lv_istore (lv' := [(8, .int (0)), (7, .int (nI (j1))), (6, .ref (cad k1)), (0, .ref (b 0)), (1, .int (nI (k1))), (2, .int (nI (t1))), (3, .int (nI (w1))), (4, .int (nI (j1))), (5, .int (y))]) hx hb dX4_hole_56 hl (by decide) rfl (fun ls hl => ?_)
              refine lv_iconst (v := nI 0) hx hb dX4_hole_58 (by decide) ?_
              refine lv_istore (lv' := [(9, .int (nI (0))), (8, .int (0)), (7, .int (nI (j1))), (6, .ref (cad k1)), (0, .ref (b 0)), (1, .int (nI (k1))), (2, .int (nI (t1))), (3, .int (nI (w1))), (4, .int (nI (j1))), (5, .int (y))]) hx hb dX4_hole_59 hl (by decide) rfl (fun ls hl => ?_)
              have lp : ∀ (n_lp : Nat) (n j2 : Nat) (x : Int32) (ls : Array Slot), (n ≤ gridN τ) → (j2 < 2 ^ 31) → (1296 + 1 ≤ n + n_lp) → (x = stI τ n) → (Y = kthAll (holeB τ k1 t1) w1 (gridN τ - n) n j2) → lv_has ls 12 [(0, .ref (b 0)), (1, .int (nI (k1))), (2, .int (nI (t1))), (3, .int (nI (w1))), (4, .int (nI (j1))), (5, .int (y)), (6, .ref (cad k1)), (7, .int (nI (j2))), (8, .int (x)), (9, .int (nI (n)))] → W p l e ({ frames := 4, cells := 0, slots := 0, locals := 91 } : Room) s m ([.ref (b 0), .int (nI (k1)), .int (nI (t1)), .int (nI (w1)), .int (nI (j1)), .int (y)] : List Value).toArray below meth c H1 locs 0 0 (MQ below (mQ (bA b) (fun z H => z = some (.int (holeT τ (nI k1) (nI t1) (nI w1) (nI j1) y)) ∧ Bk g b Z (τ) H)) (([.ref (b 0), .int (nI (k1)), .int (nI (t1)), .int (nI (w1)), .int (nI (j1)), .int (y)] : List Value).toArray) s 0 0 ((bA b))) (F0 m 61 ls []) := by
                intro n_lp
                induction n_lp with
                | zero =>
                  intro n j2 x ls hnN hj2 hn hx2 hz
                  exact absurd hn (by omega)
                | succ n_lp ih_lp =>
                  intro n j2 x ls hnN hj2 hn hx2 hz hl
                  refine lv_iload hx hb dX4_hole_61 (lv_at hl 9 rfl) ?_
                  refine lv_sipush (v := nI 1296) hx hb dX4_hole_63 (by decide) ?_
                  refine n_icmp_ge (tgt := 137) C (by omega) (by omega) dX4_hole_66 (by decide) (fun c66 => ?_) (fun c66 => ?_)
                  · skip
                    refine lv_iconst (v := (-1)) hx hb dX4_hole_137 (by decide) ?_
                    exact r_wi C hr hlk hS (⟨sv (by rw [eT, hz, kth_aend (Nat.le_of_eq (by omega : n = gridN τ).symm)]; rfl), ⟨cad, rad, ⟨_, fc, fb, d, fr, f1, f2, _, hB, hP⟩, hF⟩⟩) dX4_hole_138
                  · skip
                    refine lv_iload hx hb dX4_hole_69 (lv_at hl 8 rfl) ?_
                    refine lv_iconst (v := (-1)) hx hb dX4_hole_71 (by decide) ?_
                    refine lv_icmp_eq (tgt := 137) hx hb dX4_hole_72 (by decide) (fun c72 => ?_) (fun c72 => ?_)
                    · skip
                      refine lv_iconst (v := (-1)) hx hb dX4_hole_137 (by decide) ?_
                      exact r_wi C hr hlk hS (⟨sv (by rw [eT, hz, kth_aend (Nat.le_of_eq (st_out hT hnN (by rw [← hx2]; exact c72)).symm)]; rfl), ⟨cad, rad, ⟨_, fc, fb, d, fr, f1, f2, _, hB, hP⟩, hF⟩⟩) dX4_hole_138
                    · skip
                      obtain ⟨hnG, hxs⟩ := st_in hnN (by rw [← hx2]; exact c72)
                      obtain rfl : x = setAt τ n := hx2.trans hxs
                      refine lv_aload_n hx hb dX4_hole_75 rfl (lv_at hl 0 rfl) ?_
                      refine lv_iload hx hb dX4_hole_76 (lv_at hl 8 rfl) ?_
                      refine lv_iload_n hx hb dX4_hole_78 rfl (lv_at hl 3 rfl) ?_
                      refine k_i (c_V (As := [.int (setAt τ n), .int (nI (w1))]) (rest := []) C v_X4_212 (c4_openSeeds l g b Z τ hT fc fb d fr f1 f2 ff1 cad rad k1 t1 hff (setAt τ n) w1 (by omega)) ⟨Nat.le_of_ble_eq_true rfl, Nat.le_of_ble_eq_true rfl⟩ (q_recv C hP 0 rfl rfl) (⟨hP, hF⟩) hl.1 rfl rfl (Nat.le_of_ble_eq_true rfl) dX4_hole_79 ⟨Nat.le_of_ble_eq_true rfl, Nat.le_of_ble_eq_true rfl⟩) (fun r79 q79 => ?_)
                      subst q79
                      refine lv_istore (lv' := [(10, .int (opI τ (flN τ (tCode τ k1) t1 (tN τ)) (setAt τ n) w1)), (0, .ref (b 0)), (1, .int (nI (k1))), (2, .int (nI (t1))), (3, .int (nI (w1))), (4, .int (nI (j1))), (5, .int (y)), (6, .ref (cad k1)), (7, .int (nI (j2))), (8, .int (setAt τ n)), (9, .int (nI (n)))]) hx hb dX4_hole_82 hl (by decide) rfl (fun ls hl => ?_)
                      refine lv_iload hx hb dX4_hole_84 (lv_at hl 0 rfl) ?_
                      refine k_i (c_S (As := [.int (opI τ (flN τ (tCode τ k1) t1 (tN τ)) (setAt τ n) w1)]) (rest := []) C v_X4_216 (c6_bitCount l g (opI τ (flN τ (tCode τ k1) t1 (tN τ)) (setAt τ n) w1)) ⟨Nat.le_of_ble_eq_true rfl, Nat.le_of_ble_eq_true rfl⟩ (trivial) hl.1 rfl rfl (Nat.le_of_ble_eq_true rfl) dX4_hole_86 ⟨Nat.le_of_ble_eq_true rfl, Nat.le_of_ble_eq_true rfl⟩) (fun r86 q86 => ?_)
                      subst q86
                      refine w_topi (y := (nI (fb_ct (holeB τ k1 t1 n) w1))) (bc_op hT (by omega)) ?_
                      refine lv_istore (lv' := [(11, .int (nI (fb_ct (holeB τ k1 t1 n) w1))), (10, .int (opI τ (flN τ (tCode τ k1) t1 (tN τ)) (setAt τ n) w1)), (0, .ref (b 0)), (1, .int (nI (k1))), (2, .int (nI (t1))), (3, .int (nI (w1))), (4, .int (nI (j1))), (5, .int (y)), (6, .ref (cad k1)), (7, .int (nI (j2))), (8, .int (setAt τ n)), (9, .int (nI (n)))]) hx hb dX4_hole_89 hl (by decide) rfl (fun ls hl => ?_)
                      have hc8 := fb_ct_le (holeB τ k1 t1 n) w1
                      refine lv_iload hx hb dX4_hole_91 (lv_at hl 9 rfl) ?_
                      refine lv_iload hx hb dX4_hole_93 (lv_at hl 0 rfl) ?_
                      refine n_icmp_ge (tgt := 116) C (by omega) (by omega) dX4_hole_95 (by decide) (fun c95 => ?_) (fun c95 => ?_)
                      · skip
                        refine lv_iload hx hb dX4_hole_116 (lv_at hl 9 rfl) ?_
                        refine lv_iload hx hb dX4_hole_118 (lv_at hl 0 rfl) ?_
                        refine n_isub C (by omega) dX4_hole_120 ?_
                        refine lv_istore (lv' := [(7, .int (nI (j2 - (fb_ct (holeB τ k1 t1 n) w1)))), (11, .int (nI (fb_ct (holeB τ k1 t1 n) w1))), (10, .int (opI τ (flN τ (tCode τ k1) t1 (tN τ)) (setAt τ n) w1)), (0, .ref (b 0)), (1, .int (nI (k1))), (2, .int (nI (t1))), (3, .int (nI (w1))), (4, .int (nI (j1))), (5, .int (y)), (6, .ref (cad k1)), (8, .int (setAt τ n)), (9, .int (nI (n)))]) hx hb dX4_hole_121 hl (by decide) rfl (fun ls hl => ?_)
                        refine lv_aload_n hx hb dX4_hole_123 rfl (lv_at hl 3 rfl) ?_
                        refine lv_iload hx hb dX4_hole_124 (lv_at hl 10 rfl) ?_
                        refine k_i (c_V (As := [.int (setAt τ n)]) (rest := []) C v_X4_221 (c4_nextSettings l g b τ hT (nI (flN τ (tCode τ k1) t1 (tN τ)).length) fc fb d fr f1 f2 ff1 cad rad hB n hnG) ⟨Nat.le_of_ble_eq_true rfl, Nat.le_of_ble_eq_true rfl⟩ (q_recv C hP 0 rfl rfl) (hP) hl.1 rfl rfl (Nat.le_of_ble_eq_true rfl) dX4_hole_126 ⟨Nat.le_of_ble_eq_true rfl, Nat.le_of_ble_eq_true rfl⟩) (fun r126 q126 => ?_)
                        subst q126
                        refine lv_istore (lv' := [(8, .int (nxI τ n)), (7, .int (nI (j2 - (fb_ct (holeB τ k1 t1 n) w1)))), (11, .int (nI (fb_ct (holeB τ k1 t1 n) w1))), (10, .int (opI τ (flN τ (tCode τ k1) t1 (tN τ)) (setAt τ n) w1)), (0, .ref (b 0)), (1, .int (nI (k1))), (2, .int (nI (t1))), (3, .int (nI (w1))), (4, .int (nI (j1))), (5, .int (y)), (6, .ref (cad k1)), (9, .int (nI (n)))]) hx hb dX4_hole_129 hl (by decide) rfl (fun ls hl => ?_)
                        refine n_iinc (d := 1) (lv' := [(9, .int (nI (n + 1))), (8, .int (nxI τ n)), (7, .int (nI (j2 - (fb_ct (holeB τ k1 t1 n) w1)))), (11, .int (nI (fb_ct (holeB τ k1 t1 n) w1))), (10, .int (opI τ (flN τ (tCode τ k1) t1 (tN τ)) (setAt τ n) w1)), (0, .ref (b 0)), (1, .int (nI (k1))), (2, .int (nI (t1))), (3, .int (nI (w1))), (4, .int (nI (j1))), (5, .int (y)), (6, .ref (cad k1))]) C dX4_hole_131 (by decide) hl (k := 11) rfl (by decide) rfl (fun ls hl => ?_)
                        refine lv_goto (tgt := 61) hx hb dX4_hole_134 (by decide) ?_
                        exact ih_lp (n + 1) (j2 - fb_ct (holeB τ k1 t1 n) w1) (nxI τ n) ls (by omega) (by omega) (by omega) (rfl) (by rw [hz]; exact hole_next hnG (by omega)) (lv_sub hl [5, 6, 7, 8, 9, 10, 11, 2, 1, 0] rfl)
                      · skip
                        refine lv_iload hx hb dX4_hole_98 (lv_at hl 7 rfl) ?_
                        refine lv_if_ne (tgt := 108) hx hb dX4_hole_100 (by decide) (fun c100 => ?_) (fun c100 => ?_)
                        · skip
                          refine lv_iload hx hb dX4_hole_108 (lv_at hl 1 rfl) ?_
                          refine lv_iload hx hb dX4_hole_110 (lv_at hl 9 rfl) ?_
                          refine k_i (c_S (As := [.int (opI τ (flN τ (tCode τ k1) t1 (tN τ)) (setAt τ n) w1), .int (nI (j2))]) (rest := []) C v_X4_224 (c4_memberAt l g (opI τ (flN τ (tCode τ k1) t1 (tN τ)) (setAt τ n) w1) (j2) (by omega)) ⟨Nat.le_of_ble_eq_true rfl, Nat.le_of_ble_eq_true rfl⟩ (trivial) hl.1 rfl rfl (Nat.le_of_ble_eq_true rfl) dX4_hole_112 ⟨Nat.le_of_ble_eq_true rfl, Nat.le_of_ble_eq_true rfl⟩) (fun r112 q112 => ?_)
                          subst q112
                          exact r_wi C hr hlk hS (⟨sv (by obtain ⟨o, k1_, k2_⟩ := hole_hit hT (w := w1) (by omega) hnG c95; rw [eT, hz, k1_, k2_]; exact (if_neg c100).symm), ⟨cad, rad, ⟨_, fc, fb, d, fr, f1, f2, _, hB, hP⟩, hF⟩⟩) dX4_hole_115
                        · skip
                          refine lv_iload hx hb dX4_hole_103 (lv_at hl 10 rfl) ?_
                          refine lv_goto (tgt := 115) hx hb dX4_hole_105 (by decide) ?_
                          exact r_wi C hr hlk hS (⟨sv (by obtain ⟨o, k1_, k2_⟩ := hole_hit hT (w := w1) (by omega) hnG c95; rw [eT, hz, k1_]; exact (if_pos c100).symm), ⟨cad, rad, ⟨_, fc, fb, d, fr, f1, f2, _, hB, hP⟩, hF⟩⟩) dX4_hole_115
              exact lp (1296 + 1) (0) (j1) (0) ls (by omega) (hj1) (by omega) (st_0 hT) (hY) (lv_sub hl [4, 5, 6, 7, 8, 9, 3, 2, 1, 0] rfl)
            · skip
              refine lv_iconst (v := (-1)) hx hb dX4_hole_42 (by decide) ?_
              exact r_wi C hr hlk hS (⟨sv (by rw [holeT, show inR y 0 1 = false from inF (by simp only [fa_lt, fa_le, fa_eq, li_0, li_1, li_2, li_3, li_4, li_5, li_6, li_7, li_8, li_12, li_15, li_16, li_20, li_30, li_40, li_100, li_1000, li_65535, li_65536, li_1000000, li_m1] at c33 c39; omega), Bool.and_false]; rfl), ⟨cad, rad, ⟨_, fc, fb, d, fr, f1, f2, _, hB, hP⟩, hF⟩⟩) dX4_hole_43
  · skip
    obtain rfl : r2 = none := q2.trans (if_neg h2)
    refine W.eq (g2 := F0 m 5 ls [.null]) rfl ?_
    refine lv_astoreN (lv' := [(6, .null), (0, .ref (b 0)), (1, .int (k)), (2, .int (t)), (3, .int (w)), (4, .int (j)), (5, .int (y))]) hx hb dX4_hole_5 hl (by decide) rfl (fun ls hl => ?_)
    refine lv_aloadN hx hb dX4_hole_7 (lv_at hl 0 rfl) ?_
    refine lv_ifnullN (tgt := 42) hx hb dX4_hole_9 (by decide) ?_
    refine lv_iconst (v := (-1)) hx hb dX4_hole_42 (by decide) ?_
    exact r_wi C hr hlk hS (⟨sv (by rw [holeT, show canHoleB k t w = false from by rw [canHoleB, Bool.eq_false_iff.mpr h2]; rfl]; rfl), ⟨cad, rad, ⟨_, fc, fb, d, fr, f1, f2, _, hB, hP⟩, hF⟩⟩) dX4_hole_43

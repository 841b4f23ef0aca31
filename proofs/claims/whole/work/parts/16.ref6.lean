/-! THE REFERENCE: pairs, pair, sure, best, holes, hole as they are asked -/
set_option maxHeartbeats 4000000 in
set_option maxRecDepth 100000 in
theorem c5_pairs (l : Launch) (g : GG) (h : Nat) (ad : Nat → Nat) (τ : TB) (hT : TOK τ) (hD : wD (wA g h ad) g h ad) (i u v t w : Int32) : Met l yX5_pairs (.code yX5_pairs cX5_pairs 6 (some .int) :: wsL_law) ({ frames := 5, cells := 0, slots := 0, locals := 123 } : Room) (mP g [.ref (h), .int (i), .int (u), .int (v), .int (t), .int (w)] (MdH g h ad τ)) (mQ (wA g h ad) (fun z H => z = some (.int (pairsT τ i u v t w)) ∧ MdH g h ad (τ) H)) 0 0 (wA g h ad) := by
  refine mMet (by decide) (Nat.le_of_ble_eq_true rfl) ?_
  intro p e s m below meth c C hr hlk hnm hM ls hl
  have hx := C.1.1
  have hb := C.1.2.1
  have hl : lv_has ls 6 [(0, .ref (h)), (1, .int (i)), (2, .int (u)), (3, .int (v)), (4, .int (t)), (5, .int (w))] := hl
  obtain ⟨φ, α, hM, hR⟩ := hM
  have hS : va_S (wA g h ad) s.heap s.heap [] := va_S.rf
  have h40 := hT.2.2.1
  refine lv_aload_n hx hb dX5_pairs_0 rfl (lv_at hl 0 rfl) ?_
  refine lv_iconst (v := 0) hx hb dX5_pairs_1 (by decide) ?_
  refine rp_0 C hM hD hS dX5_pairs_2 (fun H locs hM hS => ?_)
  have hR : MdR (upd φ 0 0) α τ := hR
  generalize upd φ 0 0 = φ1 at hM hR
  have hrec := q_recv C hM 0 rw_0 rfl
  refine lv_aload_n hx hb dX5_pairs_5 rfl (lv_at hl 0 rfl) ?_
  refine lv_iload_n hx hb dX5_pairs_6 rfl (lv_at hl 1 rfl) ?_
  refine lv_iload_n hx hb dX5_pairs_7 rfl (lv_at hl 2 rfl) ?_
  refine lv_iload_n hx hb dX5_pairs_8 rfl (lv_at hl 3 rfl) ?_
  refine lv_iload hx hb dX5_pairs_9 (lv_at hl 4 rfl) ?_
  refine k_i (c_V (As := [.int (i), .int (u), .int (v), .int (t)]) (rest := []) C v_X5_184 (c5_canPair l g h ((i)) ((u)) ((v)) ((t))) ⟨Nat.le_of_ble_eq_true rfl, Nat.le_of_ble_eq_true rfl⟩ (hrec) (⟨ad, φ1, α, hM⟩) hl.1 rfl rfl (Nat.le_of_ble_eq_true rfl) dX5_pairs_11 ⟨Nat.le_of_ble_eq_true rfl, Nat.le_of_ble_eq_true rfl⟩) (fun r11 q11 => ?_)
  subst q11
  refine b_ifeq (tgt := 28) C dX5_pairs_14 (by decide) (fun c14 => ?_) (fun c14 => ?_)
  · skip
    refine lv_iconst (v := (-1)) hx hb dX5_pairs_28 (by decide) ?_
    exact r_wi C hr hlk hS (⟨sv (by rw [pairsT, c14]; rfl), φ1, α, hM, hR⟩) dX5_pairs_29
  · skip
    refine lv_iload hx hb dX5_pairs_17 (lv_at hl 5 rfl) ?_
    refine lv_if_lt (tgt := 28) hx hb dX5_pairs_19 (by decide) (fun c19 => ?_) (fun c19 => ?_)
    · skip
      refine lv_iconst (v := (-1)) hx hb dX5_pairs_28 (by decide) ?_
      exact r_wi C hr hlk hS (⟨sv (by rw [pairsT, show inR w 0 2 = false from Bool.eq_false_iff.mpr (fun hz => by have hz := inR_iff.mp hz; simp only [fa_lt, fa_le, li_0, li_2] at c19; omega), Bool.and_false]; rfl), φ1, α, hM, hR⟩) dX5_pairs_29
    · skip
      refine lv_iload hx hb dX5_pairs_22 (lv_at hl 5 rfl) ?_
      refine lv_iconst (v := 2) hx hb dX5_pairs_24 (by decide) ?_
      refine lv_icmp_le (tgt := 30) hx hb dX5_pairs_25 (by decide) (fun c25 => ?_) (fun c25 => ?_)
      · skip
        have hcp : canPairB i u v t = true := c14
        obtain ⟨i1, t1, ⟨hi1, ht0, ht1⟩, rfl, rfl⟩ := canPair_nI c14
        have ei : (nI i1).toNatClampNeg = i1 := nI_clamp (by omega)
        have et : (nI t1).toNatClampNeg = t1 := nI_clamp (by omega)
        refine lv_aload_n hx hb dX5_pairs_30 rfl (lv_at hl 0 rfl) ?_
        refine lv_iload_n hx hb dX5_pairs_31 rfl (lv_at hl 1 rfl) ?_
        refine lv_iload_n hx hb dX5_pairs_32 rfl (lv_at hl 2 rfl) ?_
        refine lv_iload_n hx hb dX5_pairs_33 rfl (lv_at hl 3 rfl) ?_
        refine lv_iload hx hb dX5_pairs_34 (lv_at hl 4 rfl) ?_
        refine k_w (c_V (As := [.int (nI (i1)), .int (u), .int (v), .int (nI (t1))]) (rest := []) C v_X5_188 (c5_findPairs l g h ad φ1 α τ hR hT hD i1 t1 ((u)) ((v)) (by omega) (by omega) (by omega)) ⟨Nat.le_of_ble_eq_true rfl, Nat.le_of_ble_eq_true rfl⟩ (hrec) (hM) hl.1 rfl rfl (Nat.le_of_ble_eq_true rfl) dX5_pairs_36 ⟨Nat.le_of_ble_eq_true rfl, Nat.le_of_ble_eq_true rfl⟩) hS (fun _ hq => hq) (fun r36 H1 locs q36 hz36 hk36 hS => ?_)
        obtain ⟨rfl, ψ, hM, e32, e33, e34, hk⟩ := q36
        have hrec := q_recv C hM 0 rw_0 rfl
        have hR := hR.phi (hk 5 (by decide) (by decide) (by decide)) (hk 6 (by decide) (by decide) (by decide)) (hk 35 (by decide) (by decide) (by decide))
        have bw : winsN τ i1 ((u)) ((v)) t1 ≤ 1600 := sm_le _ h40
        have bl : losN τ i1 ((u)) ((v)) t1 ≤ 1600 := sm_le _ h40
        refine W.eq (g2 := F0 m 39 ls []) rfl ?_
        refine lv_iload hx hb dX5_pairs_39 (lv_at hl 5 rfl) ?_
        refine lv_if_ne (tgt := 51) hx hb dX5_pairs_41 (by decide) (fun c41 => ?_) (fun c41 => ?_)
        · skip
          refine lv_iload hx hb dX5_pairs_51 (lv_at hl 5 rfl) ?_
          refine lv_iconst (v := 1) hx hb dX5_pairs_53 (by decide) ?_
          refine lv_icmp_ne (tgt := 64) hx hb dX5_pairs_54 (by decide) (fun c54 => ?_) (fun c54 => ?_)
          · skip
            refine lv_aload_n hx hb dX5_pairs_64 rfl (lv_at hl 0 rfl) ?_
            refine q_get C f_X5_177 hM 0 rw_0 ro_34 dX5_pairs_65 ?_
            refine w_topi (y := (nI (losN τ i1 ((u)) ((v)) t1))) (e34) ?_
            exact r_wi C hr hlk hS (⟨sv (by rw [pairsT, hcp, show inR w 0 2 = true from inR_iff.mpr (by simp only [fa_lt, fa_le, li_0, li_2] at c19 c25; omega), Bool.and_self, if_pos rfl, ei, et, if_neg c41, if_neg c54]), ψ, α, hM, hR⟩) dX5_pairs_68
          · skip
            refine lv_aload_n hx hb dX5_pairs_57 rfl (lv_at hl 0 rfl) ?_
            refine q_get C f_X5_174 hM 0 rw_0 ro_33 dX5_pairs_58 ?_
            refine w_topi (y := (nI (winsN τ i1 ((u)) ((v)) t1))) (e33) ?_
            refine lv_goto (tgt := 68) hx hb dX5_pairs_61 (by decide) ?_
            exact r_wi C hr hlk hS (⟨sv (by rw [pairsT, hcp, show inR w 0 2 = true from inR_iff.mpr (by simp only [fa_lt, fa_le, li_0, li_2] at c19 c25; omega), Bool.and_self, if_pos rfl, ei, et, if_neg c41, if_pos c54]), ψ, α, hM, hR⟩) dX5_pairs_68
        · skip
          refine lv_aload_n hx hb dX5_pairs_44 rfl (lv_at hl 0 rfl) ?_
          refine q_get C f_X5_171 hM 0 rw_0 ro_32 dX5_pairs_45 ?_
          refine w_topi (y := (nI (pairsN τ i1 ((u)) ((v)) t1))) (e32) ?_
          refine lv_goto (tgt := 68) hx hb dX5_pairs_48 (by decide) ?_
          exact r_wi C hr hlk hS (⟨sv (by rw [pairsT, hcp, show inR w 0 2 = true from inR_iff.mpr (by simp only [fa_lt, fa_le, li_0, li_2] at c19 c25; omega), Bool.and_self, if_pos rfl, ei, et, if_pos c41]), ψ, α, hM, hR⟩) dX5_pairs_68
      · skip
        refine lv_iconst (v := (-1)) hx hb dX5_pairs_28 (by decide) ?_
        exact r_wi C hr hlk hS (⟨sv (by rw [pairsT, show inR w 0 2 = false from Bool.eq_false_iff.mpr (fun hz => by have hz := inR_iff.mp hz; simp only [fa_lt, fa_le, li_0, li_2] at c19 c25; omega), Bool.and_false]; rfl), φ1, α, hM, hR⟩) dX5_pairs_29
set_option maxHeartbeats 4000000 in
set_option maxRecDepth 100000 in
theorem c5_pair (l : Launch) (g : GG) (h : Nat) (ad : Nat → Nat) (τ : TB) (hT : TOK τ) (hD : wD (wA g h ad) g h ad) (i u v t k w : Int32) : Met l yX5_pair (.code yX5_pair cX5_pair 10 (some .int) :: wsL_law) ({ frames := 4, cells := 0, slots := 0, locals := 95 } : Room) (mP g [.ref (h), .int (i), .int (u), .int (v), .int (t), .int (k), .int (w)] (MdH g h ad τ)) (mQ (wA g h ad) (fun z H => z = some (.int (pairT τ i u v t k w)) ∧ MdH g h ad (τ) H)) 0 0 (wA g h ad) := by
  refine mMet (by decide) (Nat.le_of_ble_eq_true rfl) ?_
  intro p e s m below meth c C hr hlk hnm hM ls hl
  have hx := C.1.1
  have hb := C.1.2.1
  have hl : lv_has ls 10 [(0, .ref (h)), (1, .int (i)), (2, .int (u)), (3, .int (v)), (4, .int (t)), (5, .int (k)), (6, .int (w))] := hl
  obtain ⟨φ, α, hM, hR⟩ := hM
  have hS : va_S (wA g h ad) s.heap s.heap [] := va_S.rf
  have h40 := hT.2.2.1
  refine lv_aload_n hx hb dX5_pair_0 rfl (lv_at hl 0 rfl) ?_
  refine lv_iconst (v := 0) hx hb dX5_pair_1 (by decide) ?_
  refine rp_0 C hM hD hS dX5_pair_2 (fun H locs hM hS => ?_)
  have hR : MdR (upd φ 0 0) α τ := hR
  generalize upd φ 0 0 = φ1 at hM hR
  have hrec := q_recv C hM 0 rw_0 rfl
  refine lv_aload_n hx hb dX5_pair_5 rfl (lv_at hl 0 rfl) ?_
  refine lv_iload_n hx hb dX5_pair_6 rfl (lv_at hl 1 rfl) ?_
  refine lv_iload_n hx hb dX5_pair_7 rfl (lv_at hl 2 rfl) ?_
  refine lv_iload_n hx hb dX5_pair_8 rfl (lv_at hl 3 rfl) ?_
  refine lv_iload hx hb dX5_pair_9 (lv_at hl 4 rfl) ?_
  refine k_i (c_V (As := [.int (i), .int (u), .int (v), .int (t)]) (rest := []) C v_X5_184 (c5_canPair l g h ((i)) ((u)) ((v)) ((t))) ⟨Nat.le_of_ble_eq_true rfl, Nat.le_of_ble_eq_true rfl⟩ (hrec) (⟨ad, φ1, α, hM⟩) hl.1 rfl rfl (Nat.le_of_ble_eq_true rfl) dX5_pair_11 ⟨Nat.le_of_ble_eq_true rfl, Nat.le_of_ble_eq_true rfl⟩) (fun r11 q11 => ?_)
  subst q11
  refine b_ifeq (tgt := 33) C dX5_pair_14 (by decide) (fun c14 => ?_) (fun c14 => ?_)
  · skip
    refine lv_iconst (v := (-1)) hx hb dX5_pair_33 (by decide) ?_
    exact r_wi C hr hlk hS (⟨sv (by rw [pairT, c14]; rfl), φ1, α, hM, hR⟩) dX5_pair_34
  · skip
    refine lv_iload hx hb dX5_pair_17 (lv_at hl 5 rfl) ?_
    refine lv_if_lt (tgt := 33) hx hb dX5_pair_19 (by decide) (fun c19 => ?_) (fun c19 => ?_)
    · skip
      refine lv_iconst (v := (-1)) hx hb dX5_pair_33 (by decide) ?_
      exact r_wi C hr hlk hS (⟨sv (by rw [pairT, decide_eq_false (Classical.not_not.mpr c19), Bool.and_false]; rfl), φ1, α, hM, hR⟩) dX5_pair_34
    · skip
      refine lv_iload hx hb dX5_pair_22 (lv_at hl 6 rfl) ?_
      refine lv_if_lt (tgt := 33) hx hb dX5_pair_24 (by decide) (fun c24 => ?_) (fun c24 => ?_)
      · skip
        refine lv_iconst (v := (-1)) hx hb dX5_pair_33 (by decide) ?_
        exact r_wi C hr hlk hS (⟨sv (by rw [pairT, show inR w 0 1 = false from Bool.eq_false_iff.mpr (fun hz => by have hz := inR_iff.mp hz; simp only [fa_lt, fa_le, li_0, li_1] at c24; omega), Bool.and_false]; rfl), φ1, α, hM, hR⟩) dX5_pair_34
      · skip
        refine lv_iload hx hb dX5_pair_27 (lv_at hl 6 rfl) ?_
        refine lv_iconst (v := 1) hx hb dX5_pair_29 (by decide) ?_
        refine lv_icmp_le (tgt := 35) hx hb dX5_pair_30 (by decide) (fun c30 => ?_) (fun c30 => ?_)
        · skip
          have hcp : canPairB i u v t = true := c14
          obtain ⟨i1, t1, ⟨hi1, ht0, ht1⟩, rfl, rfl⟩ := canPair_nI c14
          obtain ⟨k1, hk1, rfl⟩ := nI_of c19
          have ei : (nI i1).toNatClampNeg = i1 := nI_clamp (by omega)
          have et : (nI t1).toNatClampNeg = t1 := nI_clamp (by omega)
          obtain ⟨f, hf⟩ : ∃ f : Nat → Nat → Bool, f = fun p q => pairB τ i1 u v t1 p q := ⟨_, rfl⟩
          obtain ⟨Z, hZ⟩ : ∃ Z : Option (Nat × Nat), Z = kthAll f (tN τ) (tN τ) 0 k1 := ⟨_, rfl⟩
          have eT : pairT τ (nI i1) u v (nI t1) (nI k1) w = pickI w (Z.map (fun x => (nI x.1, nI x.2))) := by
            rw [pairT, hcp, decide_eq_true c19, show inR w 0 1 = true from inR_iff.mpr (by simp only [fa_lt, fa_le, li_0, li_1] at c24 c30; omega), Bool.and_self, Bool.and_self, if_pos rfl, ei, et, nI_clamp hk1, hZ, hf]
          refine lv_iconst (v := nI 0) hx hb dX5_pair_35 (by decide) ?_
          refine lv_istore (lv' := [(7, .int (nI (0))), (0, .ref (h)), (1, .int (nI (i1))), (2, .int (u)), (3, .int (v)), (4, .int (nI (t1))), (5, .int (nI (k1))), (6, .int (w))]) hx hb dX5_pair_36 hl (by decide) rfl (fun ls hl => ?_)
          refine lv_iconst (v := nI 0) hx hb dX5_pair_38 (by decide) ?_
          refine lv_istore (lv' := [(8, .int (nI (0))), (7, .int (nI (0))), (0, .ref (h)), (1, .int (nI (i1))), (2, .int (u)), (3, .int (v)), (4, .int (nI (t1))), (5, .int (nI (k1))), (6, .int (w))]) hx hb dX5_pair_39 hl (by decide) rfl (fun ls hl => ?_)
          have la : ∀ (n_la : Nat) (a x : Nat) (ls : Array Slot), (a ≤ tN τ) → (tN τ + 1 ≤ a + n_la) → (x ≤ k1) → (Z = kthAll f (tN τ) (tN τ - a) a (k1 - x)) → lv_has ls 10 [(0, .ref (h)), (1, .int (nI (i1))), (2, .int (u)), (3, .int (v)), (4, .int (nI (t1))), (5, .int (nI (k1))), (6, .int (w)), (7, .int (nI (x))), (8, .int (nI (a)))] → W p l e ({ frames := 4, cells := 0, slots := 0, locals := 95 } : Room) s m ([.ref (h), .int (nI (i1)), .int (u), .int (v), .int (nI (t1)), .int (nI (k1)), .int (w)] : List Value).toArray below meth c H locs 0 0 (MQ below (mQ (wA g h ad) (fun z H => z = some (.int (pairT τ (nI i1) u v (nI t1) (nI k1) w)) ∧ MdH g h ad (τ) H)) (([.ref (h), .int (nI (i1)), .int (u), .int (v), .int (nI (t1)), .int (nI (k1)), .int (w)] : List Value).toArray) s 0 0 (wA g h ad)) (F0 m 41 ls []) := by
            intro n_la
            induction n_la with
            | zero =>
              intro a x ls ha hnla hx1 hz
              exact absurd hnla (by omega)
            | succ n_la ih_la =>
              intro a x ls ha hnla hx1 hz hl
              refine lv_iload hx hb dX5_pair_41 (lv_at hl 8 rfl) ?_
              refine lv_aload_n hx hb dX5_pair_43 rfl (lv_at hl 0 rfl) ?_
              refine q_get C f_X5_90 hM 0 rw_0 ro_6 dX5_pair_44 ?_
              refine w_topi (y := (nI (tN τ))) (hR.n) ?_
              refine n_icmp_ge (tgt := 119) C (by omega) (by omega) dX5_pair_47 (by decide) (fun c47 => ?_) (fun c47 => ?_)
              · skip
                refine lv_iconst (v := (-1)) hx hb dX5_pair_119 (by decide) ?_
                exact r_wi C hr hlk hS (⟨sv (by rw [eT, hz, show tN τ - a = 0 by omega]; rfl), φ1, α, hM, hR⟩) dX5_pair_120
              · skip
                refine lv_iconst (v := nI 0) hx hb dX5_pair_50 (by decide) ?_
                refine lv_istore (lv' := [(9, .int (nI (0))), (0, .ref (h)), (1, .int (nI (i1))), (2, .int (u)), (3, .int (v)), (4, .int (nI (t1))), (5, .int (nI (k1))), (6, .int (w)), (7, .int (nI (x))), (8, .int (nI (a)))]) hx hb dX5_pair_51 hl (by decide) rfl (fun ls hl => ?_)
                have lb : ∀ (n_lb : Nat) (b x : Nat) (ls : Array Slot), (b ≤ tN τ) → (tN τ + 1 ≤ b + n_lb) → (x ≤ k1) → (Z = kthIn f (tN τ) (tN τ) a (kthRow (f a) (tN τ - b) b (k1 - x))) → lv_has ls 10 [(0, .ref (h)), (1, .int (nI (i1))), (2, .int (u)), (3, .int (v)), (4, .int (nI (t1))), (5, .int (nI (k1))), (6, .int (w)), (7, .int (nI (x))), (8, .int (nI (a))), (9, .int (nI (b)))] → W p l e ({ frames := 4, cells := 0, slots := 0, locals := 95 } : Room) s m ([.ref (h), .int (nI (i1)), .int (u), .int (v), .int (nI (t1)), .int (nI (k1)), .int (w)] : List Value).toArray below meth c H locs 0 0 (MQ below (mQ (wA g h ad) (fun z H => z = some (.int (pairT τ (nI i1) u v (nI t1) (nI k1) w)) ∧ MdH g h ad (τ) H)) (([.ref (h), .int (nI (i1)), .int (u), .int (v), .int (nI (t1)), .int (nI (k1)), .int (w)] : List Value).toArray) s 0 0 (wA g h ad)) (F0 m 53 ls []) := by
                  intro n_lb
                  induction n_lb with
                  | zero =>
                    intro b x ls hb0 hnlb hx1 hz
                    exact absurd hnlb (by omega)
                  | succ n_lb ih_lb =>
                    intro b x ls hb0 hnlb hx1 hz hl
                    refine lv_iload hx hb dX5_pair_53 (lv_at hl 9 rfl) ?_
                    refine lv_aload_n hx hb dX5_pair_55 rfl (lv_at hl 0 rfl) ?_
                    refine q_get C f_X5_90 hM 0 rw_0 ro_6 dX5_pair_56 ?_
                    refine w_topi (y := (nI (tN τ))) (hR.n) ?_
                    refine n_icmp_ge (tgt := 113) C (by omega) (by omega) dX5_pair_59 (by decide) (fun c59 => ?_) (fun c59 => ?_)
                    · skip
                      refine n_iinc (d := 1) (lv' := [(8, .int (nI (a + 1))), (0, .ref (h)), (1, .int (nI (i1))), (2, .int (u)), (3, .int (v)), (4, .int (nI (t1))), (5, .int (nI (k1))), (6, .int (w)), (7, .int (nI (x))), (9, .int (nI (b)))]) C dX5_pair_113 (by decide) hl (k := 8) rfl (by decide) rfl (fun ls hl => ?_)
                      refine lv_goto (tgt := 41) hx hb dX5_pair_116 (by decide) ?_
                      exact ih_la (a + 1) (x) ls (by omega) (by omega) (hx1) (by rw [hz, kth_end (by omega)]) (lv_sub hl [1, 2, 3, 4, 5, 6, 7, 8, 0] rfl)
                    · skip
                      refine lv_aload_n hx hb dX5_pair_62 rfl (lv_at hl 0 rfl) ?_
                      refine lv_iload hx hb dX5_pair_63 (lv_at hl 8 rfl) ?_
                      refine lv_iload hx hb dX5_pair_65 (lv_at hl 9 rfl) ?_
                      refine lv_iload_n hx hb dX5_pair_67 rfl (lv_at hl 1 rfl) ?_
                      refine lv_iload_n hx hb dX5_pair_68 rfl (lv_at hl 2 rfl) ?_
                      refine lv_iload_n hx hb dX5_pair_69 rfl (lv_at hl 3 rfl) ?_
                      refine lv_iload hx hb dX5_pair_70 (lv_at hl 4 rfl) ?_
                      refine k_i (c_V (As := [.int (nI (a)), .int (nI (b)), .int (nI (i1)), .int (u), .int (v), .int (nI (t1))]) (rest := []) C v_X5_180 (c5_isPair l g h ad φ1 α τ hR hT a b i1 (u) (v) t1 (by omega) (by omega) (by omega) (by omega)) ⟨Nat.le_of_ble_eq_true rfl, Nat.le_of_ble_eq_true rfl⟩ (hrec) (hM) hl.1 rfl rfl (Nat.le_of_ble_eq_true rfl) dX5_pair_72 ⟨Nat.le_of_ble_eq_true rfl, Nat.le_of_ble_eq_true rfl⟩) (fun r72 q72 => ?_)
                      subst q72
                      refine b_ifne (tgt := 81) C dX5_pair_75 (by decide) (fun c75 => ?_) (fun c75 => ?_)
                      · skip
                        refine lv_iload hx hb dX5_pair_81 (lv_at hl 7 rfl) ?_
                        refine lv_iload hx hb dX5_pair_83 (lv_at hl 5 rfl) ?_
                        refine n_icmp_ne (tgt := 101) C (by omega) (by omega) dX5_pair_85 (by decide) (fun c85 => ?_) (fun c85 => ?_)
                        · skip
                          refine lv_iload hx hb dX5_pair_101 (lv_at hl 7 rfl) ?_
                          refine lv_iconst (v := nI 1) hx hb dX5_pair_103 (by decide) ?_
                          refine n_iadd C dX5_pair_104 ?_
                          refine lv_istore (lv' := [(7, .int (nI (x + 1))), (0, .ref (h)), (1, .int (nI (i1))), (2, .int (u)), (3, .int (v)), (4, .int (nI (t1))), (5, .int (nI (k1))), (6, .int (w)), (8, .int (nI (a))), (9, .int (nI (b)))]) hx hb dX5_pair_105 hl (by decide) rfl (fun ls hl => ?_)
                          refine n_iinc (d := 1) (lv' := [(9, .int (nI (b + 1))), (7, .int (nI (x + 1))), (0, .ref (h)), (1, .int (nI (i1))), (2, .int (u)), (3, .int (v)), (4, .int (nI (t1))), (5, .int (nI (k1))), (6, .int (w)), (8, .int (nI (a)))]) C dX5_pair_107 (by decide) hl (k := 9) rfl (by decide) rfl (fun ls hl => ?_)
                          refine lv_goto (tgt := 53) hx hb dX5_pair_110 (by decide) ?_
                          exact ih_lb (b + 1) (x + 1) ls (by omega) (by omega) (by omega) (by rw [hz, kth_skip c59 (by rw [hf]; exact c75) (by omega), show k1 - x - 1 = k1 - (x + 1) by omega]) (lv_sub hl [2, 3, 4, 5, 6, 7, 8, 1, 9, 0] rfl)
                        · skip
                          have c75b : f a b = true := by rw [hf]; exact c75
                          refine lv_iload hx hb dX5_pair_88 (lv_at hl 6 rfl) ?_
                          refine lv_if_ne (tgt := 98) hx hb dX5_pair_90 (by decide) (fun c90 => ?_) (fun c90 => ?_)
                          · skip
                            refine lv_iload hx hb dX5_pair_98 (lv_at hl 9 rfl) ?_
                            exact r_wi C hr hlk hS (⟨sv (by rw [eT, hz, show k1 - x = 0 by omega, kth_hit c59 c75b]; simp [pickI, c90]), φ1, α, hM, hR⟩) dX5_pair_100
                          · skip
                            refine lv_iload hx hb dX5_pair_93 (lv_at hl 8 rfl) ?_
                            refine lv_goto (tgt := 100) hx hb dX5_pair_95 (by decide) ?_
                            exact r_wi C hr hlk hS (⟨sv (by rw [eT, hz, show k1 - x = 0 by omega, kth_hit c59 c75b]; simp [pickI, c90]), φ1, α, hM, hR⟩) dX5_pair_100
                      · skip
                        refine lv_goto (tgt := 107) hx hb dX5_pair_78 (by decide) ?_
                        refine n_iinc (d := 1) (lv' := [(9, .int (nI (b + 1))), (0, .ref (h)), (1, .int (nI (i1))), (2, .int (u)), (3, .int (v)), (4, .int (nI (t1))), (5, .int (nI (k1))), (6, .int (w)), (7, .int (nI (x))), (8, .int (nI (a)))]) C dX5_pair_107 (by decide) hl (k := 9) rfl (by decide) rfl (fun ls hl => ?_)
                        refine lv_goto (tgt := 53) hx hb dX5_pair_110 (by decide) ?_
                        exact ih_lb (b + 1) (x) ls (by omega) (by omega) (hx1) (by rw [hz, kth_no c59 (by rw [hf]; exact c75)]) (lv_sub hl [1, 2, 3, 4, 5, 6, 7, 8, 9, 0] rfl)
                exact lb (tN τ + 1) (0) (x) ls (by omega) (by omega) (hx1) (by rw [hz, kth_in c47]) (lv_sub hl [1, 2, 3, 4, 5, 6, 7, 8, 9, 0] rfl)
          exact la (tN τ + 1) (0) (0) ls (by omega) (by omega) (by omega) (hZ) (lv_sub hl [2, 3, 4, 5, 6, 7, 8, 1, 0] rfl)
        · skip
          refine lv_iconst (v := (-1)) hx hb dX5_pair_33 (by decide) ?_
          exact r_wi C hr hlk hS (⟨sv (by rw [pairT, show inR w 0 1 = false from Bool.eq_false_iff.mpr (fun hz => by have hz := inR_iff.mp hz; simp only [fa_lt, fa_le, li_0, li_1] at c24 c30; omega), Bool.and_false]; rfl), φ1, α, hM, hR⟩) dX5_pair_34
set_option maxHeartbeats 4000000 in
set_option maxRecDepth 100000 in
theorem c5_sure (l : Launch) (g : GG) (h : Nat) (ad : Nat → Nat) (τ : TB) (hT : TOK τ) (hD : wD (wA g h ad) g h ad) (i u v t m1 r : Int32) : Met l yX5_sure (.code yX5_sure cX5_sure 7 (some .int) :: wsL_law) ({ frames := 6, cells := 0, slots := 0, locals := 150 } : Room) (mP g [.ref (h), .int (i), .int (u), .int (v), .int (t), .int (m1), .int (r)] (MdH g h ad τ)) (mQ (wA g h ad) (fun z H => z = some (.int (sureT τ i u v t m1 r)) ∧ MdH g h ad (τ) H)) 0 0 (wA g h ad) := by
  refine mMet (by decide) (Nat.le_of_ble_eq_true rfl) ?_
  intro p e s m below meth c C hr hlk hnm hM ls hl
  have hx := C.1.1
  have hb := C.1.2.1
  have hl : lv_has ls 7 [(0, .ref (h)), (1, .int (i)), (2, .int (u)), (3, .int (v)), (4, .int (t)), (5, .int (m1)), (6, .int (r))] := hl
  obtain ⟨φ, α, hM, hR⟩ := hM
  have hS : va_S (wA g h ad) s.heap s.heap [] := va_S.rf
  have h40 := hT.2.2.1
  refine lv_aload_n hx hb dX5_sure_0 rfl (lv_at hl 0 rfl) ?_
  refine lv_iconst (v := 0) hx hb dX5_sure_1 (by decide) ?_
  refine rp_0 C hM hD hS dX5_sure_2 (fun H locs hM hS => ?_)
  have hR : MdR (upd φ 0 0) α τ := hR
  generalize upd φ 0 0 = φ1 at hM hR
  have hrec := q_recv C hM 0 rw_0 rfl
  refine lv_aload_n hx hb dX5_sure_5 rfl (lv_at hl 0 rfl) ?_
  refine lv_iload_n hx hb dX5_sure_6 rfl (lv_at hl 1 rfl) ?_
  refine lv_iload_n hx hb dX5_sure_7 rfl (lv_at hl 2 rfl) ?_
  refine lv_iload_n hx hb dX5_sure_8 rfl (lv_at hl 3 rfl) ?_
  refine lv_iload hx hb dX5_sure_9 (lv_at hl 4 rfl) ?_
  refine k_i (c_V (As := [.int (i), .int (u), .int (v), .int (t)]) (rest := []) C v_X5_184 (c5_canPair l g h ((i)) ((u)) ((v)) ((t))) ⟨Nat.le_of_ble_eq_true rfl, Nat.le_of_ble_eq_true rfl⟩ (hrec) (⟨ad, φ1, α, hM⟩) hl.1 rfl rfl (Nat.le_of_ble_eq_true rfl) dX5_sure_11 ⟨Nat.le_of_ble_eq_true rfl, Nat.le_of_ble_eq_true rfl⟩) (fun r11 q11 => ?_)
  subst q11
  refine b_ifeq (tgt := 44) C dX5_sure_14 (by decide) (fun c14 => ?_) (fun c14 => ?_)
  · skip
    refine lv_iconst (v := (-1)) hx hb dX5_sure_44 (by decide) ?_
    refine lv_goto (tgt := 64) hx hb dX5_sure_45 (by decide) ?_
    exact r_wi C hr hlk hS (⟨sv (by rw [sureT, c14]; rfl), φ1, α, hM, hR⟩) dX5_sure_64
  · skip
    refine lv_iload hx hb dX5_sure_17 (lv_at hl 5 rfl) ?_
    refine lv_iconst (v := 1) hx hb dX5_sure_19 (by decide) ?_
    refine lv_icmp_lt (tgt := 44) hx hb dX5_sure_20 (by decide) (fun c20 => ?_) (fun c20 => ?_)
    · skip
      refine lv_iconst (v := (-1)) hx hb dX5_sure_44 (by decide) ?_
      refine lv_goto (tgt := 64) hx hb dX5_sure_45 (by decide) ?_
      exact r_wi C hr hlk hS (⟨sv (by rw [sureT, show inR m1 1 1000 = false from Bool.eq_false_iff.mpr (fun hz => by have hz := inR_iff.mp hz; simp only [fa_lt, fa_le, li_1, li_1000] at c20; omega), Bool.and_false]; rfl), φ1, α, hM, hR⟩) dX5_sure_64
    · skip
      refine lv_iload hx hb dX5_sure_23 (lv_at hl 5 rfl) ?_
      refine lv_sipush (v := 1000) hx hb dX5_sure_25 (by decide) ?_
      refine lv_icmp_gt (tgt := 44) hx hb dX5_sure_28 (by decide) (fun c28 => ?_) (fun c28 => ?_)
      · skip
        refine lv_iconst (v := (-1)) hx hb dX5_sure_44 (by decide) ?_
        refine lv_goto (tgt := 64) hx hb dX5_sure_45 (by decide) ?_
        exact r_wi C hr hlk hS (⟨sv (by rw [sureT, show inR m1 1 1000 = false from Bool.eq_false_iff.mpr (fun hz => by have hz := inR_iff.mp hz; simp only [fa_lt, fa_le, li_1, li_1000] at c20 c28; omega), Bool.and_false]; rfl), φ1, α, hM, hR⟩) dX5_sure_64
      · skip
        refine lv_iload hx hb dX5_sure_31 (lv_at hl 6 rfl) ?_
        refine lv_iconst (v := 1) hx hb dX5_sure_33 (by decide) ?_
        refine lv_icmp_lt (tgt := 44) hx hb dX5_sure_34 (by decide) (fun c34 => ?_) (fun c34 => ?_)
        · skip
          refine lv_iconst (v := (-1)) hx hb dX5_sure_44 (by decide) ?_
          refine lv_goto (tgt := 64) hx hb dX5_sure_45 (by decide) ?_
          exact r_wi C hr hlk hS (⟨sv (by rw [sureT, show inR r 1 1000000 = false from Bool.eq_false_iff.mpr (fun hz => by have hz := inR_iff.mp hz; simp only [fa_lt, fa_le, li_1, li_1000000] at c34; omega), Bool.and_false]; rfl), φ1, α, hM, hR⟩) dX5_sure_64
        · skip
          refine lv_iload hx hb dX5_sure_37 (lv_at hl 6 rfl) ?_
          refine lv_ldc (v := 1000000) hx hb C.1.2.2.2.1 (C.1.2.2.2.2 _ (inr_22 _ (List.mem_of_getElem? (i := 9) rfl))) dX5_sure_39 ?_
          refine lv_icmp_le (tgt := 48) hx hb dX5_sure_41 (by decide) (fun c41 => ?_) (fun c41 => ?_)
          · skip
            have hcp : canPairB i u v t = true := c14
            obtain ⟨i1, t1, ⟨hi1, ht0, ht1⟩, rfl, rfl⟩ := canPair_nI c14
            have ei : (nI i1).toNatClampNeg = i1 := nI_clamp (by omega)
            have et : (nI t1).toNatClampNeg = t1 := nI_clamp (by omega)
            refine lv_aload_n hx hb dX5_sure_48 rfl (lv_at hl 0 rfl) ?_
            refine lv_iload_n hx hb dX5_sure_49 rfl (lv_at hl 1 rfl) ?_
            refine lv_iload_n hx hb dX5_sure_50 rfl (lv_at hl 2 rfl) ?_
            refine lv_iload_n hx hb dX5_sure_51 rfl (lv_at hl 3 rfl) ?_
            refine lv_iload hx hb dX5_sure_52 (lv_at hl 4 rfl) ?_
            refine lv_iload hx hb dX5_sure_54 (lv_at hl 5 rfl) ?_
            refine lv_i2l (v := (m1).toInt64) hx hb dX5_sure_56 rfl ?_
            refine lv_iload hx hb dX5_sure_57 (lv_at hl 6 rfl) ?_
            refine lv_i2l (v := (r).toInt64) hx hb dX5_sure_59 rfl ?_
            refine lv_lmul hx hb dX5_sure_60 ?_
            refine k_w (c_V (As := [.int (nI (i1)), .int (u), .int (v), .int (nI (t1)), .long (((m1).toInt64) * ((r).toInt64))]) (rest := []) C v_X5_197 (c5_sureOf l g h ad φ1 α τ hR hT hD i1 t1 ((u)) ((v)) (((m1).toInt64) * ((r).toInt64)) (by omega) (by omega) (by omega)) ⟨Nat.le_of_ble_eq_true rfl, Nat.le_of_ble_eq_true rfl⟩ (hrec) (hM) hl.1 rfl rfl (Nat.le_of_ble_eq_true rfl) dX5_sure_61 ⟨Nat.le_of_ble_eq_true rfl, Nat.le_of_ble_eq_true rfl⟩) hS (fun _ hq => hq) (fun r61 H1 locs q61 hz61 hk61 hS => ?_)
            obtain ⟨rfl, ψ, hM, hk⟩ := q61
            have hrec := q_recv C hM 0 rw_0 rfl
            have hR := hR.phi (hk 5 (by decide) (by decide) (by decide)) (hk 6 (by decide) (by decide) (by decide)) (hk 35 (by decide) (by decide) (by decide))
            refine W.eq (g2 := F0 m 64 ls [.int (sureI τ i1 ((u)) ((v)) t1 (((m1).toInt64) * ((r).toInt64)))]) rfl ?_
            exact r_wi C hr hlk hS (⟨sv (by rw [sureT, hcp, show inR m1 1 1000 = true from inR_iff.mpr (by simp only [fa_lt, fa_le, li_1, li_1000] at c20 c28; omega), show inR r 1 1000000 = true from inR_iff.mpr (by simp only [fa_lt, fa_le, li_1, li_1000000] at c34 c41; omega), Bool.and_self, Bool.and_self, if_pos rfl, ei, et]), ψ, α, hM, hR⟩) dX5_sure_64
          · skip
            refine lv_iconst (v := (-1)) hx hb dX5_sure_44 (by decide) ?_
            refine lv_goto (tgt := 64) hx hb dX5_sure_45 (by decide) ?_
            exact r_wi C hr hlk hS (⟨sv (by rw [sureT, show inR r 1 1000000 = false from Bool.eq_false_iff.mpr (fun hz => by have hz := inR_iff.mp hz; simp only [fa_lt, fa_le, li_1, li_1000000] at c34 c41; omega), Bool.and_false]; rfl), φ1, α, hM, hR⟩) dX5_sure_64
theorem best_no {τ : TB} {i tk v b : Nat} {r : Int32} {w : Bool} (hw : w = true ↔ True ∧ ∀ j, j < b → beatB τ i v tk (bestBy τ i r) j = true) (c : w = false) (hb : b ≤ tBnd τ i) : bestB τ i tk r v = false := by
  cases e : bestB τ i tk r v with
  | false => rfl
  | true => rw [hw.mpr ⟨trivial, fun j hj => allR.mp e j (by omega)⟩] at c; cases c
set_option maxHeartbeats 4000000 in
set_option maxRecDepth 100000 in
theorem c5_best (l : Launch) (g : GG) (h : Nat) (ad : Nat → Nat) (τ : TB) (hT : TOK τ) (hD : wD (wA g h ad) g h ad) (i t r : Int32) : Met l yX5_best (.code yX5_best cX5_best 7 (some .int) :: wsL_law) ({ frames := 6, cells := 0, slots := 0, locals := 150 } : Room) (mP g [.ref (h), .int (i), .int (t), .int (r)] (MdH g h ad τ)) (mQ (wA g h ad) (fun z H => z = some (.int (bestT τ i t r)) ∧ MdH g h ad (τ) H)) 0 0 (wA g h ad) := by
  refine mMet (by decide) (Nat.le_of_ble_eq_true rfl) ?_
  intro p e s m below meth c C hr hlk hnm hM ls hl
  have hx := C.1.1
  have hb := C.1.2.1
  have hl : lv_has ls 7 [(0, .ref (h)), (1, .int (i)), (2, .int (t)), (3, .int (r))] := hl
  obtain ⟨φ, α, hM, hR⟩ := hM
  have hS : va_S (wA g h ad) s.heap s.heap [] := va_S.rf
  have h40 := hT.2.2.1
  refine lv_aload_n hx hb dX5_best_0 rfl (lv_at hl 0 rfl) ?_
  refine lv_iconst (v := 0) hx hb dX5_best_1 (by decide) ?_
  refine rp_0 C hM hD hS dX5_best_2 (fun H locs hM hS => ?_)
  have hR : MdR (upd φ 0 0) α τ := hR
  generalize upd φ 0 0 = φ1 at hM hR
  have hrec := q_recv C hM 0 rw_0 rfl
  refine lv_iload_n hx hb dX5_best_5 rfl (lv_at hl 1 rfl) ?_
  refine lv_if_lt (tgt := 43) hx hb dX5_best_6 (by decide) (fun c6 => ?_) (fun c6 => ?_)
  · skip
    refine lv_iconst (v := (-1)) hx hb dX5_best_43 (by decide) ?_
    exact r_wi C hr hlk hS (⟨sv (by rw [bestT, show inR i 0 3 = false from Bool.eq_false_iff.mpr (fun hz => by have hz := inR_iff.mp hz; simp only [fa_lt, fa_le, li_0, li_3] at c6; omega)]; rfl), φ1, α, hM, hR⟩) dX5_best_44
  · skip
    refine lv_iload_n hx hb dX5_best_9 rfl (lv_at hl 1 rfl) ?_
    refine lv_iconst (v := 3) hx hb dX5_best_10 (by decide) ?_
    refine lv_icmp_gt (tgt := 43) hx hb dX5_best_11 (by decide) (fun c11 => ?_) (fun c11 => ?_)
    · skip
      refine lv_iconst (v := (-1)) hx hb dX5_best_43 (by decide) ?_
      exact r_wi C hr hlk hS (⟨sv (by rw [bestT, show inR i 0 3 = false from Bool.eq_false_iff.mpr (fun hz => by have hz := inR_iff.mp hz; simp only [fa_lt, fa_le, li_0, li_3] at c6 c11; omega)]; rfl), φ1, α, hM, hR⟩) dX5_best_44
    · skip
      refine lv_aload_n hx hb dX5_best_14 rfl (lv_at hl 0 rfl) ?_
      refine lv_iload_n hx hb dX5_best_15 rfl (lv_at hl 2 rfl) ?_
      refine k_i (c_V (As := [.int (t)]) (rest := []) C v_X5_131 (c5_areTicks l g h (t)) ⟨Nat.le_of_ble_eq_true rfl, Nat.le_of_ble_eq_true rfl⟩ (hrec) (trivial) hl.1 rfl rfl (Nat.le_of_ble_eq_true rfl) dX5_best_16 ⟨Nat.le_of_ble_eq_true rfl, Nat.le_of_ble_eq_true rfl⟩) (fun r16 q16 => ?_)
      subst q16
      refine b_ifeq (tgt := 43) C dX5_best_19 (by decide) (fun c19 => ?_) (fun c19 => ?_)
      · skip
        refine lv_iconst (v := (-1)) hx hb dX5_best_43 (by decide) ?_
        exact r_wi C hr hlk hS (⟨sv (by rw [bestT, c19, Bool.and_false]; rfl), φ1, α, hM, hR⟩) dX5_best_44
      · skip
        refine lv_iload_n hx hb dX5_best_22 rfl (lv_at hl 3 rfl) ?_
        refine lv_iconst (v := 1) hx hb dX5_best_23 (by decide) ?_
        refine lv_icmp_lt (tgt := 43) hx hb dX5_best_24 (by decide) (fun c24 => ?_) (fun c24 => ?_)
        · skip
          refine lv_iconst (v := (-1)) hx hb dX5_best_43 (by decide) ?_
          exact r_wi C hr hlk hS (⟨sv (by rw [bestT, show inR r 1 1000000 = false from Bool.eq_false_iff.mpr (fun hz => by have hz := inR_iff.mp hz; simp only [fa_lt, fa_le, li_1, li_1000000] at c24; omega), Bool.and_false]; rfl), φ1, α, hM, hR⟩) dX5_best_44
        · skip
          refine lv_iload_n hx hb dX5_best_27 rfl (lv_at hl 3 rfl) ?_
          refine lv_ldc (v := 1000000) hx hb C.1.2.2.2.1 (C.1.2.2.2.2 _ (inr_22 _ (List.mem_of_getElem? (i := 9) rfl))) dX5_best_28 ?_
          refine lv_icmp_gt (tgt := 43) hx hb dX5_best_30 (by decide) (fun c30 => ?_) (fun c30 => ?_)
          · skip
            refine lv_iconst (v := (-1)) hx hb dX5_best_43 (by decide) ?_
            exact r_wi C hr hlk hS (⟨sv (by rw [bestT, show inR r 1 1000000 = false from Bool.eq_false_iff.mpr (fun hz => by have hz := inR_iff.mp hz; simp only [fa_lt, fa_le, li_1, li_1000000] at c24 c30; omega), Bool.and_false]; rfl), φ1, α, hM, hR⟩) dX5_best_44
          · skip
            obtain ⟨i1, hi1, rfl⟩ := inR_nI (hi := 3) (x := i) (inR_iff.mpr (by simp only [fa_lt, li_0, li_3] at c6 c11; omega))
            obtain ⟨t1, ht0, ht1, rfl⟩ := inR1_nI (hi := 16) c19
            have ei : (nI i1).toNatClampNeg = i1 := nI_clamp (by omega)
            have et : (nI t1).toNatClampNeg = t1 := nI_clamp (by omega)
            have hbd := hT.2.1 i1 (by omega)
            have hgi : inR (nI i1) 0 3 = true := inR_iff.mpr (by rw [nI_toInt (by omega)]; omega)
            have hgr : inR r 1 1000000 = true := inR_iff.mpr (by simp only [fa_lt, fa_le, li_1, li_1000000] at c24 c30; omega)
            refine lv_aload_n hx hb dX5_best_33 rfl (lv_at hl 0 rfl) ?_
            refine q_get C f_X5_19 hM 0 rw_0 ro_4 dX5_best_34 ?_
            refine lv_iload_n hx hb dX5_best_37 rfl (lv_at hl 1 rfl) ?_
            refine n_iald C hM 4 rw_4 (by omega) (by decide) dX5_best_38 ?_
            refine w_topi (y := (nI (tBnd τ i1))) (hR.bnd (by omega)) ?_
            refine lv_iconst (v := nI 2) hx hb dX5_best_39 (by decide) ?_
            refine n_icmp_ge (tgt := 45) C (by omega) (by omega) dX5_best_40 (by decide) (fun c40 => ?_) (fun c40 => ?_)
            · skip
              obtain ⟨Z, hZ⟩ : ∃ Z : Int32, Z = fstI (fun v => bestB τ i1 t1 r v) (tBnd τ i1) 0 := ⟨_, rfl⟩
              have eT : bestT τ (nI i1) (nI t1) r = Z := by rw [bestT, hgi, c19, hgr, ei, decide_eq_true c40, et, hZ]; rfl
              refine lv_iconst (v := nI 0) hx hb dX5_best_45 (by decide) ?_
              refine lv_istore (lv' := [(4, .int (nI (0))), (0, .ref (h)), (1, .int (nI (i1))), (2, .int (nI (t1))), (3, .int (r))]) hx hb dX5_best_46 hl (by decide) rfl (fun ls hl => ?_)
              have la : ∀ (n_la : Nat) (x : Nat) (ψ : Nat → Int32) (H : Heap) (locs : List Loc) (ls : Array Slot), (x ≤ tBnd τ i1) → (tBnd τ i1 + 1 ≤ x + n_la) → (va_P g.1 vwCl (wM g h ad ψ α) H) → (va_S (wA g h ad) s.heap H locs) → (MdR ψ α τ) → (Z = fstI (fun v => bestB τ i1 t1 r v) (tBnd τ i1 - x) x) → lv_has ls 7 [(0, .ref (h)), (1, .int (nI (i1))), (2, .int (nI (t1))), (3, .int (r)), (4, .int (nI (x)))] → W p l e ({ frames := 6, cells := 0, slots := 0, locals := 150 } : Room) s m ([.ref (h), .int (nI (i1)), .int (nI (t1)), .int (r)] : List Value).toArray below meth c H locs 0 0 (MQ below (mQ (wA g h ad) (fun z H => z = some (.int (bestT τ (nI i1) (nI t1) r)) ∧ MdH g h ad (τ) H)) (([.ref (h), .int (nI (i1)), .int (nI (t1)), .int (r)] : List Value).toArray) s 0 0 (wA g h ad)) (F0 m 48 ls []) := by
                intro n_la
                induction n_la with
                | zero =>
                  intro x ψ H locs ls ha hnla hM hS hR hz
                  exact absurd hnla (by omega)
                | succ n_la ih_la =>
                  intro x ψ H locs ls ha hnla hM hS hR hz hl
                  refine lv_iload hx hb dX5_best_48 (lv_at hl 4 rfl) ?_
                  refine lv_aload_n hx hb dX5_best_50 rfl (lv_at hl 0 rfl) ?_
                  refine q_get C f_X5_19 hM 0 rw_0 ro_4 dX5_best_51 ?_
                  refine lv_iload_n hx hb dX5_best_54 rfl (lv_at hl 1 rfl) ?_
                  refine n_iald C hM 4 rw_4 (by omega) (by decide) dX5_best_55 ?_
                  refine w_topi (y := (nI (tBnd τ i1))) (hR.bnd (by omega)) ?_
                  refine n_icmp_ge (tgt := 149) C (by omega) (by omega) dX5_best_56 (by decide) (fun c56 => ?_) (fun c56 => ?_)
                  · skip
                    refine lv_iconst (v := (-1)) hx hb dX5_best_149 (by decide) ?_
                    exact r_wi C hr hlk hS (⟨sv (by rw [eT]; exact fst_end hz c56), ψ, α, hM, hR⟩) dX5_best_150
                  · skip
                    refine lv_iconst (v := bI true) hx hb dX5_best_59 (by decide) ?_
                    refine lv_istore (lv' := [(5, .int (bI (true))), (0, .ref (h)), (1, .int (nI (i1))), (2, .int (nI (t1))), (3, .int (r)), (4, .int (nI (x)))]) hx hb dX5_best_60 hl (by decide) rfl (fun ls hl => ?_)
                    refine lv_iconst (v := nI 0) hx hb dX5_best_62 (by decide) ?_
                    refine lv_istore (lv' := [(6, .int (nI (0))), (5, .int (bI (true))), (0, .ref (h)), (1, .int (nI (i1))), (2, .int (nI (t1))), (3, .int (r)), (4, .int (nI (x)))]) hx hb dX5_best_63 hl (by decide) rfl (fun ls hl => ?_)
                    have lb : ∀ (n_lb : Nat) (b : Nat) (w : Bool) (ψ : Nat → Int32) (H : Heap) (locs : List Loc) (ls : Array Slot), (b ≤ tBnd τ i1) → (tBnd τ i1 + 1 ≤ b + n_lb) → (va_P g.1 vwCl (wM g h ad ψ α) H) → (va_S (wA g h ad) s.heap H locs) → (MdR ψ α τ) → (w = true ↔ True ∧ ∀ j, j < b → beatB τ i1 x t1 (bestBy τ i1 r) j = true) → lv_has ls 7 [(0, .ref (h)), (1, .int (nI (i1))), (2, .int (nI (t1))), (3, .int (r)), (4, .int (nI (x))), (5, .int (bI (w))), (6, .int (nI (b)))] → W p l e ({ frames := 6, cells := 0, slots := 0, locals := 150 } : Room) s m ([.ref (h), .int (nI (i1)), .int (nI (t1)), .int (r)] : List Value).toArray below meth c H locs 0 0 (MQ below (mQ (wA g h ad) (fun z H => z = some (.int (bestT τ (nI i1) (nI t1) r)) ∧ MdH g h ad (τ) H)) (([.ref (h), .int (nI (i1)), .int (nI (t1)), .int (r)] : List Value).toArray) s 0 0 (wA g h ad)) (F0 m 65 ls []) := by
                      intro n_lb
                      induction n_lb with
                      | zero =>
                        intro b w ψ H locs ls hb0 hnlb hM hS hR hw
                        exact absurd hnlb (by omega)
                      | succ n_lb ih_lb =>
                        intro b w ψ H locs ls hb0 hnlb hM hS hR hw hl
                        refine lv_iload hx hb dX5_best_65 (lv_at hl 6 rfl) ?_
                        refine lv_aload_n hx hb dX5_best_67 rfl (lv_at hl 0 rfl) ?_
                        refine q_get C f_X5_19 hM 0 rw_0 ro_4 dX5_best_68 ?_
                        refine lv_iload_n hx hb dX5_best_71 rfl (lv_at hl 1 rfl) ?_
                        refine n_iald C hM 4 rw_4 (by omega) (by decide) dX5_best_72 ?_
                        refine w_topi (y := (nI (tBnd τ i1))) (hR.bnd (by omega)) ?_
                        refine n_icmp_ge (tgt := 135) C (by omega) (by omega) dX5_best_73 (by decide) (fun c73 => ?_) (fun c73 => ?_)
                        · skip
                          refine lv_iload hx hb dX5_best_135 (lv_at hl 5 rfl) ?_
                          refine b_ifeq (tgt := 143) C dX5_best_137 (by decide) (fun c137 => ?_) (fun c137 => ?_)
                          · skip
                            refine n_iinc (d := 1) (lv' := [(4, .int (nI (x + 1))), (0, .ref (h)), (1, .int (nI (i1))), (2, .int (nI (t1))), (3, .int (r)), (5, .int (bI (w))), (6, .int (nI (b)))]) C dX5_best_143 (by decide) hl (k := 4) rfl (by decide) rfl (fun ls hl => ?_)
                            refine lv_goto (tgt := 48) hx hb dX5_best_146 (by decide) ?_
                            exact ih_la (x + 1) (ψ) (H) (locs) ls (by omega) (by omega) (hM) (hS) (hR) (fst_no hz c56 (best_no hw c137 hb0)) (lv_sub hl [1, 2, 3, 4, 0] rfl)
                          · skip
                            refine lv_iload hx hb dX5_best_140 (lv_at hl 4 rfl) ?_
                            exact r_wi C hr hlk hS (⟨sv (by rw [eT]; exact fst_yes hz c56 (allR.mpr (fun j hj => (hw.mp c137).2 j (by omega)))), ψ, α, hM, hR⟩) dX5_best_142
                        · skip
                          refine lv_iload hx hb dX5_best_76 (lv_at hl 5 rfl) ?_
                          refine b_ifeq (tgt := 135) C dX5_best_78 (by decide) (fun c78 => ?_) (fun c78 => ?_)
                          · skip
                            refine lv_iload hx hb dX5_best_135 (lv_at hl 5 rfl) ?_
                            refine b_ifeq (tgt := 143) C dX5_best_137 (by decide) (fun c137 => ?_) (fun c137 => by exfalso; rw [c78] at c137; cases c137)
                            refine n_iinc (d := 1) (lv' := [(4, .int (nI (x + 1))), (0, .ref (h)), (1, .int (nI (i1))), (2, .int (nI (t1))), (3, .int (r)), (5, .int (bI (w))), (6, .int (nI (b)))]) C dX5_best_143 (by decide) hl (k := 4) rfl (by decide) rfl (fun ls hl => ?_)
                            refine lv_goto (tgt := 48) hx hb dX5_best_146 (by decide) ?_
                            exact ih_la (x + 1) (ψ) (H) (locs) ls (by omega) (by omega) (hM) (hS) (hR) (fst_no hz c56 (best_no hw c137 hb0)) (lv_sub hl [1, 2, 3, 4, 0] rfl)
                          · skip
                            refine lv_iload hx hb dX5_best_81 (lv_at hl 6 rfl) ?_
                            refine lv_iload hx hb dX5_best_83 (lv_at hl 4 rfl) ?_
                            refine n_icmp_eq (tgt := 122) C (by omega) (by omega) dX5_best_85 (by decide) (fun c85 => ?_) (fun c85 => ?_)
                            · skip
                              refine lv_iconst (v := bI true) hx hb dX5_best_122 (by decide) ?_
                              refine lv_goto (tgt := 127) hx hb dX5_best_123 (by decide) ?_
                              refine lv_istore (lv' := [(5, .int (bI (true))), (0, .ref (h)), (1, .int (nI (i1))), (2, .int (nI (t1))), (3, .int (r)), (4, .int (nI (x))), (6, .int (nI (b)))]) hx hb dX5_best_127 hl (by decide) rfl (fun ls hl => ?_)
                              refine n_iinc (d := 1) (lv' := [(6, .int (nI (b + 1))), (5, .int (bI (true))), (0, .ref (h)), (1, .int (nI (i1))), (2, .int (nI (t1))), (3, .int (r)), (4, .int (nI (x)))]) C dX5_best_129 (by decide) hl (k := 6) rfl (by decide) rfl (fun ls hl => ?_)
                              refine lv_goto (tgt := 65) hx hb dX5_best_132 (by decide) ?_
                              exact ih_lb (b + 1) (true) (ψ) (H) (locs) ls (by omega) (by omega) (hM) (hS) (hR) (al_yes hw c78 (by simp [beatB, c85])) (lv_sub hl [2, 3, 4, 5, 6, 1, 0] rfl)
                            · skip
                              have hrec := q_recv C hM 0 rw_0 rfl
                              refine lv_aload_n hx hb dX5_best_88 rfl (lv_at hl 0 rfl) ?_
                              refine lv_iload_n hx hb dX5_best_89 rfl (lv_at hl 1 rfl) ?_
                              refine lv_iload hx hb dX5_best_90 (lv_at hl 6 rfl) ?_
                              refine lv_iload hx hb dX5_best_92 (lv_at hl 4 rfl) ?_
                              refine lv_iload_n hx hb dX5_best_94 rfl (lv_at hl 2 rfl) ?_
                              refine lv_aload_n hx hb dX5_best_95 rfl (lv_at hl 0 rfl) ?_
                              refine q_get C f_X5_19 hM 0 rw_0 ro_4 dX5_best_96 ?_
                              refine lv_iload_n hx hb dX5_best_99 rfl (lv_at hl 1 rfl) ?_
                              refine n_iald C hM 4 rw_4 (by omega) (by decide) dX5_best_100 ?_
                              refine w_topi (y := (nI (tBnd τ i1))) (hR.bnd (by omega)) ?_
                              refine lv_i2l (v := (nI (tBnd τ i1)).toInt64) hx hb dX5_best_101 rfl ?_
                              refine lv_aload_n hx hb dX5_best_102 rfl (lv_at hl 0 rfl) ?_
                              refine q_get C f_X5_19 hM 0 rw_0 ro_4 dX5_best_103 ?_
                              refine lv_iload_n hx hb dX5_best_106 rfl (lv_at hl 1 rfl) ?_
                              refine n_iald C hM 4 rw_4 (by omega) (by decide) dX5_best_107 ?_
                              refine w_topi (y := (nI (tBnd τ i1))) (hR.bnd (by omega)) ?_
                              refine lv_iconst (v := nI 1) hx hb dX5_best_108 (by decide) ?_
                              refine n_isub C (by omega) dX5_best_109 ?_
                              refine lv_i2l (v := (nI ((tBnd τ i1) - 1)).toInt64) hx hb dX5_best_110 rfl ?_
                              refine lv_lmul hx hb dX5_best_111 ?_
                              refine lv_iload_n hx hb dX5_best_112 rfl (lv_at hl 3 rfl) ?_
                              refine lv_i2l (v := (r).toInt64) hx hb dX5_best_113 rfl ?_
                              refine lv_lmul hx hb dX5_best_114 ?_
                              refine k_w (c_V (As := [.int (nI (i1)), .int (nI (b)), .int (nI (x)), .int (nI (t1)), .long ((((nI (tBnd τ i1)).toInt64) * ((nI ((tBnd τ i1) - 1)).toInt64)) * ((r).toInt64))]) (rest := []) C v_X5_197 (c5_sureOf l g h ad ψ α τ hR hT hD i1 t1 ((nI (b))) ((nI (x))) ((((nI (tBnd τ i1)).toInt64) * ((nI ((tBnd τ i1) - 1)).toInt64)) * ((r).toInt64)) (by omega) (by omega) (by omega)) ⟨Nat.le_of_ble_eq_true rfl, Nat.le_of_ble_eq_true rfl⟩ (hrec) (hM) hl.1 rfl rfl (Nat.le_of_ble_eq_true rfl) dX5_best_115 ⟨Nat.le_of_ble_eq_true rfl, Nat.le_of_ble_eq_true rfl⟩) hS (fun _ hq => hq) (fun r115 H1 locs q115 hz115 hk115 hS => ?_)
                              obtain ⟨rfl, ψ, hM, hk⟩ := q115
                              have hrec := q_recv C hM 0 rw_0 rfl
                              have hR := hR.phi (hk 5 (by decide) (by decide) (by decide)) (hk 6 (by decide) (by decide) (by decide)) (hk 35 (by decide) (by decide) (by decide))
                              refine W.eq (g2 := F0 m 118 ls [.int (sureI τ i1 ((nI (b))) ((nI (x))) t1 ((((nI (tBnd τ i1)).toInt64) * ((nI ((tBnd τ i1) - 1)).toInt64)) * ((r).toInt64)))]) rfl ?_
                              refine lv_iconst (v := 1) hx hb dX5_best_118 (by decide) ?_
                              refine lv_icmp_ne (tgt := 126) hx hb dX5_best_119 (by decide) (fun c119 => ?_) (fun c119 => ?_)
                              · skip
                                refine lv_iconst (v := bI false) hx hb dX5_best_126 (by decide) ?_
                                refine lv_istore (lv' := [(5, .int (bI (false))), (0, .ref (h)), (1, .int (nI (i1))), (2, .int (nI (t1))), (3, .int (r)), (4, .int (nI (x))), (6, .int (nI (b)))]) hx hb dX5_best_127 hl (by decide) rfl (fun ls hl => ?_)
                                refine n_iinc (d := 1) (lv' := [(6, .int (nI (b + 1))), (5, .int (bI (false))), (0, .ref (h)), (1, .int (nI (i1))), (2, .int (nI (t1))), (3, .int (r)), (4, .int (nI (x)))]) C dX5_best_129 (by decide) hl (k := 6) rfl (by decide) rfl (fun ls hl => ?_)
                                refine lv_goto (tgt := 65) hx hb dX5_best_132 (by decide) ?_
                                exact ih_lb (b + 1) (false) (ψ) (H1) (locs) ls (by omega) (by omega) (hM) (hS) (hR) (al_no2 hw (by rw [beatB, bestBy, decide_eq_false c85, decide_eq_false c119]; rfl)) (lv_sub hl [2, 3, 4, 5, 6, 1, 0] rfl)
                              · skip
                                refine lv_iconst (v := bI true) hx hb dX5_best_122 (by decide) ?_
                                refine lv_goto (tgt := 127) hx hb dX5_best_123 (by decide) ?_
                                refine lv_istore (lv' := [(5, .int (bI (true))), (0, .ref (h)), (1, .int (nI (i1))), (2, .int (nI (t1))), (3, .int (r)), (4, .int (nI (x))), (6, .int (nI (b)))]) hx hb dX5_best_127 hl (by decide) rfl (fun ls hl => ?_)
                                refine n_iinc (d := 1) (lv' := [(6, .int (nI (b + 1))), (5, .int (bI (true))), (0, .ref (h)), (1, .int (nI (i1))), (2, .int (nI (t1))), (3, .int (r)), (4, .int (nI (x)))]) C dX5_best_129 (by decide) hl (k := 6) rfl (by decide) rfl (fun ls hl => ?_)
                                refine lv_goto (tgt := 65) hx hb dX5_best_132 (by decide) ?_
                                exact ih_lb (b + 1) (true) (ψ) (H1) (locs) ls (by omega) (by omega) (hM) (hS) (hR) (al_yes hw c78 (by rw [beatB, bestBy, decide_eq_true c119, Bool.or_true])) (lv_sub hl [2, 3, 4, 5, 6, 1, 0] rfl)
                    exact lb (tBnd τ i1 + 1) (0) (true) (ψ) (H) (locs) ls (by omega) (by omega) (hM) (hS) (hR) (⟨fun _ => ⟨trivial, fun j hj => absurd hj (by omega)⟩, fun _ => rfl⟩) (lv_sub hl [2, 3, 4, 5, 6, 1, 0] rfl)
              exact la (tBnd τ i1 + 1) (0) (φ1) (H) (locs) ls (by omega) (by omega) (hM) (hS) (hR) (hZ) (lv_sub hl [1, 2, 3, 4, 0] rfl)
            · skip
              refine lv_iconst (v := (-1)) hx hb dX5_best_43 (by decide) ?_
              exact r_wi C hr hlk hS (⟨sv (by rw [bestT, hgi, c19, hgr, ei, decide_eq_false (by omega : ¬ 2 ≤ tBnd τ i1)]; rfl), φ1, α, hM, hR⟩) dX5_best_44
set_option maxHeartbeats 4000000 in
set_option maxRecDepth 100000 in
theorem c5_holes (l : Launch) (g : GG) (h : Nat) (ad : Nat → Nat) (τ : TB) (hT : TOK τ) (hD : wD (wA g h ad) g h ad) (k t w : Int32) : Met l yX5_holes (.code yX5_holes cX5_holes 7 (some .int) :: wsL_law) ({ frames := 2, cells := 0, slots := 0, locals := 50 } : Room) (mP g [.ref (h), .int (k), .int (t), .int (w)] (MdH g h ad τ)) (mQ (wA g h ad) (fun z H => z = some (.int (holesT τ k t w)) ∧ MdH g h ad (τ) H)) 0 0 (wA g h ad) := by
  refine mMet (by decide) (Nat.le_of_ble_eq_true rfl) ?_
  intro p e s m below meth c C hr hlk hnm hM ls hl
  have hx := C.1.1
  have hb := C.1.2.1
  have hl : lv_has ls 7 [(0, .ref (h)), (1, .int (k)), (2, .int (t)), (3, .int (w))] := hl
  obtain ⟨φ, α, hM, hR⟩ := hM
  have hS : va_S (wA g h ad) s.heap s.heap [] := va_S.rf
  have h40 := hT.2.2.1
  refine lv_aload_n hx hb dX5_holes_0 rfl (lv_at hl 0 rfl) ?_
  refine lv_iconst (v := 0) hx hb dX5_holes_1 (by decide) ?_
  refine rp_0 C hM hD hS dX5_holes_2 (fun H locs hM hS => ?_)
  have hR : MdR (upd φ 0 0) α τ := hR
  generalize upd φ 0 0 = φ1 at hM hR
  have hrec := q_recv C hM 0 rw_0 rfl
  refine lv_aload_n hx hb dX5_holes_5 rfl (lv_at hl 0 rfl) ?_
  refine lv_iload_n hx hb dX5_holes_6 rfl (lv_at hl 1 rfl) ?_
  refine lv_iload_n hx hb dX5_holes_7 rfl (lv_at hl 2 rfl) ?_
  refine lv_iload_n hx hb dX5_holes_8 rfl (lv_at hl 3 rfl) ?_
  refine k_i (c_V (As := [.int (k), .int (t), .int (w)]) (rest := []) C v_X5_201 (c5_canHole l g h ((k)) ((t)) ((w))) ⟨Nat.le_of_ble_eq_true rfl, Nat.le_of_ble_eq_true rfl⟩ (hrec) (⟨ad, φ1, α, hM⟩) hl.1 rfl rfl (Nat.le_of_ble_eq_true rfl) dX5_holes_9 ⟨Nat.le_of_ble_eq_true rfl, Nat.le_of_ble_eq_true rfl⟩) (fun r9 q9 => ?_)
  subst q9
  refine b_ifne (tgt := 17) C dX5_holes_12 (by decide) (fun c12 => ?_) (fun c12 => ?_)
  · skip
    have hch : canHoleB k t w = true := c12
    obtain ⟨k1, t1, d1, ⟨hk1, ht0, ht1, hd0, hd1⟩, rfl, rfl, rfl⟩ := canHole_nI c12
    have ek : (nI k1).toNatClampNeg = k1 := nI_clamp (by omega)
    have et : (nI t1).toNatClampNeg = t1 := nI_clamp (by omega)
    have ed : (nI d1).toNatClampNeg = d1 := nI_clamp (by omega)
    have hgr := grid_le hT
    refine lv_iconst (v := nI 0) hx hb dX5_holes_17 (by decide) ?_
    refine lv_istore (lv' := [(4, .int (nI (0))), (0, .ref (h)), (1, .int (nI (k1))), (2, .int (nI (t1))), (3, .int (nI (d1)))]) hx hb dX5_holes_18 hl (by decide) rfl (fun ls hl => ?_)
    refine lv_iconst (v := nI 0) hx hb dX5_holes_20 (by decide) ?_
    refine lv_istore (lv' := [(5, .int (nI (0))), (4, .int (nI (0))), (0, .ref (h)), (1, .int (nI (k1))), (2, .int (nI (t1))), (3, .int (nI (d1)))]) hx hb dX5_holes_21 hl (by decide) rfl (fun ls hl => ?_)
    have la : ∀ (n_la : Nat) (a x : Nat) (ls : Array Slot), (a ≤ gridN τ) → (gridN τ + 1 ≤ a + n_la) → (x = cnt2 (fun n o => holeB τ k1 t1 n o) d1 a 0) → lv_has ls 7 [(0, .ref (h)), (1, .int (nI (k1))), (2, .int (nI (t1))), (3, .int (nI (d1))), (4, .int (nI (x))), (5, .int (nI (a)))] → W p l e ({ frames := 2, cells := 0, slots := 0, locals := 50 } : Room) s m ([.ref (h), .int (nI (k1)), .int (nI (t1)), .int (nI (d1))] : List Value).toArray below meth c H locs 0 0 (MQ below (mQ (wA g h ad) (fun z H => z = some (.int (holesT τ (nI k1) (nI t1) (nI d1))) ∧ MdH g h ad (τ) H)) (([.ref (h), .int (nI (k1)), .int (nI (t1)), .int (nI (d1))] : List Value).toArray) s 0 0 (wA g h ad)) (F0 m 23 ls []) := by
      intro n_la
      induction n_la with
      | zero =>
        intro a x ls ha hnla ex
        exact absurd hnla (by omega)
      | succ n_la ih_la =>
        intro a x ls ha hnla ex hl
        refine lv_iload hx hb dX5_holes_23 (lv_at hl 5 rfl) ?_
        refine lv_aload_n hx hb dX5_holes_25 rfl (lv_at hl 0 rfl) ?_
        refine k_i (c_V (As := []) (rest := [.int (nI (a))]) C v_X5_205 (c5_grid l g h ad φ1 α τ hR hT) ⟨Nat.le_of_ble_eq_true rfl, Nat.le_of_ble_eq_true rfl⟩ (hrec) (hM) hl.1 rfl rfl (Nat.le_of_ble_eq_true rfl) dX5_holes_26 ⟨Nat.le_of_ble_eq_true rfl, Nat.le_of_ble_eq_true rfl⟩) (fun r26 q26 => ?_)
        subst q26
        refine n_icmp_ge (tgt := 77) C (by omega) (by omega) dX5_holes_29 (by decide) (fun c29 => ?_) (fun c29 => ?_)
        · skip
          refine lv_iload hx hb dX5_holes_77 (lv_at hl 4 rfl) ?_
          exact r_wi C hr hlk hS (⟨sv (by rw [holesT, hch, if_pos rfl, ek, et, ed, ex, show a = gridN τ by omega]; rfl), φ1, α, hM, hR⟩) dX5_holes_79
        · skip
          refine lv_iconst (v := nI 0) hx hb dX5_holes_32 (by decide) ?_
          refine lv_istore (lv' := [(6, .int (nI (0))), (0, .ref (h)), (1, .int (nI (k1))), (2, .int (nI (t1))), (3, .int (nI (d1))), (4, .int (nI (x))), (5, .int (nI (a)))]) hx hb dX5_holes_33 hl (by decide) rfl (fun ls hl => ?_)
          have lb : ∀ (n_lb : Nat) (b x : Nat) (ls : Array Slot), (b ≤ d1) → (d1 + 1 ≤ b + n_lb) → (x = cnt2 (fun n o => holeB τ k1 t1 n o) d1 a b) → lv_has ls 7 [(0, .ref (h)), (1, .int (nI (k1))), (2, .int (nI (t1))), (3, .int (nI (d1))), (4, .int (nI (x))), (5, .int (nI (a))), (6, .int (nI (b)))] → W p l e ({ frames := 2, cells := 0, slots := 0, locals := 50 } : Room) s m ([.ref (h), .int (nI (k1)), .int (nI (t1)), .int (nI (d1))] : List Value).toArray below meth c H locs 0 0 (MQ below (mQ (wA g h ad) (fun z H => z = some (.int (holesT τ (nI k1) (nI t1) (nI d1))) ∧ MdH g h ad (τ) H)) (([.ref (h), .int (nI (k1)), .int (nI (t1)), .int (nI (d1))] : List Value).toArray) s 0 0 (wA g h ad)) (F0 m 35 ls []) := by
            intro n_lb
            induction n_lb with
            | zero =>
              intro b x ls hb0 hnlb ex
              exact absurd hnlb (by omega)
            | succ n_lb ih_lb =>
              intro b x ls hb0 hnlb ex hl
              refine lv_iload hx hb dX5_holes_35 (lv_at hl 6 rfl) ?_
              refine lv_iload_n hx hb dX5_holes_37 rfl (lv_at hl 3 rfl) ?_
              refine n_icmp_ge (tgt := 71) C (by omega) (by omega) dX5_holes_38 (by decide) (fun c38 => ?_) (fun c38 => ?_)
              · skip
                refine n_iinc (d := 1) (lv' := [(5, .int (nI (a + 1))), (0, .ref (h)), (1, .int (nI (k1))), (2, .int (nI (t1))), (3, .int (nI (d1))), (4, .int (nI (x))), (6, .int (nI (b)))]) C dX5_holes_71 (by decide) hl (k := 5) rfl (by decide) rfl (fun ls hl => ?_)
                refine lv_goto (tgt := 23) hx hb dX5_holes_74 (by decide) ?_
                exact ih_la (a + 1) (x) ls (by omega) (by omega) (by rw [ex, show b = d1 by omega, cnt2_row]) (lv_sub hl [1, 2, 3, 4, 5, 0] rfl)
              · skip
                refine lv_aload_n hx hb dX5_holes_41 rfl (lv_at hl 0 rfl) ?_
                refine lv_iload_n hx hb dX5_holes_42 rfl (lv_at hl 1 rfl) ?_
                refine lv_aload_n hx hb dX5_holes_43 rfl (lv_at hl 0 rfl) ?_
                refine lv_iload hx hb dX5_holes_44 (lv_at hl 5 rfl) ?_
                refine k_i (c_V (As := [.int (nI (a))]) (rest := [.int (nI (k1)), .ref (h)]) C v_X5_209 (c5_settingsAt l g h ad φ1 α τ hR hT a (by omega)) ⟨Nat.le_of_ble_eq_true rfl, Nat.le_of_ble_eq_true rfl⟩ (hrec) (hM) hl.1 rfl rfl (Nat.le_of_ble_eq_true rfl) dX5_holes_46 ⟨Nat.le_of_ble_eq_true rfl, Nat.le_of_ble_eq_true rfl⟩) (fun r46 q46 => ?_)
                subst q46
                refine lv_iload hx hb dX5_holes_49 (lv_at hl 6 rfl) ?_
                refine lv_iload_n hx hb dX5_holes_51 rfl (lv_at hl 2 rfl) ?_
                refine k_i (c_V (As := [.int (nI (k1)), .int (setAt τ a), .int (nI (b)), .int (nI (t1))]) (rest := []) C v_X5_155 (c5_savedBy l g h ad φ1 α τ hR hT k1 ((setAt τ a)) ((nI (b))) t1 (by omega) (by omega)) ⟨Nat.le_of_ble_eq_true rfl, Nat.le_of_ble_eq_true rfl⟩ (hrec) (hM) hl.1 rfl rfl (Nat.le_of_ble_eq_true rfl) dX5_holes_52 ⟨Nat.le_of_ble_eq_true rfl, Nat.le_of_ble_eq_true rfl⟩) (fun r52 q52 => ?_)
                subst q52
                refine lv_iconst (v := (-1)) hx hb dX5_holes_55 (by decide) ?_
                refine lv_icmp_ne (tgt := 65) hx hb dX5_holes_56 (by decide) (fun c56 => ?_) (fun c56 => ?_)
                · skip
                  refine n_iinc (d := 1) (lv' := [(6, .int (nI (b + 1))), (0, .ref (h)), (1, .int (nI (k1))), (2, .int (nI (t1))), (3, .int (nI (d1))), (4, .int (nI (x))), (5, .int (nI (a)))]) C dX5_holes_65 (by decide) hl (k := 6) rfl (by decide) rfl (fun ls hl => ?_)
                  refine lv_goto (tgt := 35) hx hb dX5_holes_68 (by decide) ?_
                  exact ih_lb (b + 1) (x) ls (by omega) (by omega) (by rw [ex, cnt2_no (f := (fun n o => holeB τ k1 t1 n o)) (decide_eq_false c56)]) (lv_sub hl [1, 2, 3, 4, 5, 6, 0] rfl)
                · skip
                  refine lv_iload hx hb dX5_holes_59 (lv_at hl 4 rfl) ?_
                  refine lv_iconst (v := nI 1) hx hb dX5_holes_61 (by decide) ?_
                  refine n_iadd C dX5_holes_62 ?_
                  refine lv_istore (lv' := [(4, .int (nI (x + 1))), (0, .ref (h)), (1, .int (nI (k1))), (2, .int (nI (t1))), (3, .int (nI (d1))), (5, .int (nI (a))), (6, .int (nI (b)))]) hx hb dX5_holes_63 hl (by decide) rfl (fun ls hl => ?_)
                  refine n_iinc (d := 1) (lv' := [(6, .int (nI (b + 1))), (4, .int (nI (x + 1))), (0, .ref (h)), (1, .int (nI (k1))), (2, .int (nI (t1))), (3, .int (nI (d1))), (5, .int (nI (a)))]) C dX5_holes_65 (by decide) hl (k := 6) rfl (by decide) rfl (fun ls hl => ?_)
                  refine lv_goto (tgt := 35) hx hb dX5_holes_68 (by decide) ?_
                  exact ih_lb (b + 1) (x + 1) ls (by omega) (by omega) (by rw [ex, cnt2_yes (f := (fun n o => holeB τ k1 t1 n o)) (decide_eq_true c56)]) (lv_sub hl [2, 3, 4, 5, 1, 6, 0] rfl)
          exact lb (d1 + 1) (0) (x) ls (by omega) (by omega) (ex) (lv_sub hl [1, 2, 3, 4, 5, 6, 0] rfl)
    exact la (gridN τ + 1) (0) (0) ls (by omega) (by omega) (rfl) (lv_sub hl [2, 3, 4, 5, 1, 0] rfl)
  · skip
    refine lv_iconst (v := (-1)) hx hb dX5_holes_15 (by decide) ?_
    exact r_wi C hr hlk hS (⟨sv (by rw [holesT, c12]; rfl), φ1, α, hM, hR⟩) dX5_holes_16
set_option maxHeartbeats 4000000 in
set_option maxRecDepth 100000 in
theorem c5_hole (l : Launch) (g : GG) (h : Nat) (ad : Nat → Nat) (τ : TB) (hT : TOK τ) (hD : wD (wA g h ad) g h ad) (k t w j y : Int32) : Met l yX5_hole (.code yX5_hole cX5_hole 9 (some .int) :: wsL_law) ({ frames := 2, cells := 0, slots := 0, locals := 50 } : Room) (mP g [.ref (h), .int (k), .int (t), .int (w), .int (j), .int (y)] (MdH g h ad τ)) (mQ (wA g h ad) (fun z H => z = some (.int (holeT τ k t w j y)) ∧ MdH g h ad (τ) H)) 0 0 (wA g h ad) := by
  refine mMet (by decide) (Nat.le_of_ble_eq_true rfl) ?_
  intro p e s m below meth c C hr hlk hnm hM ls hl
  have hx := C.1.1
  have hb := C.1.2.1
  have hl : lv_has ls 9 [(0, .ref (h)), (1, .int (k)), (2, .int (t)), (3, .int (w)), (4, .int (j)), (5, .int (y))] := hl
  obtain ⟨φ, α, hM, hR⟩ := hM
  have hS : va_S (wA g h ad) s.heap s.heap [] := va_S.rf
  have h40 := hT.2.2.1
  refine lv_aload_n hx hb dX5_hole_0 rfl (lv_at hl 0 rfl) ?_
  refine lv_iconst (v := 0) hx hb dX5_hole_1 (by decide) ?_
  refine rp_0 C hM hD hS dX5_hole_2 (fun H locs hM hS => ?_)
  have hR : MdR (upd φ 0 0) α τ := hR
  generalize upd φ 0 0 = φ1 at hM hR
  have hrec := q_recv C hM 0 rw_0 rfl
  refine lv_aload_n hx hb dX5_hole_5 rfl (lv_at hl 0 rfl) ?_
  refine lv_iload_n hx hb dX5_hole_6 rfl (lv_at hl 1 rfl) ?_
  refine lv_iload_n hx hb dX5_hole_7 rfl (lv_at hl 2 rfl) ?_
  refine lv_iload_n hx hb dX5_hole_8 rfl (lv_at hl 3 rfl) ?_
  refine k_i (c_V (As := [.int (k), .int (t), .int (w)]) (rest := []) C v_X5_201 (c5_canHole l g h ((k)) ((t)) ((w))) ⟨Nat.le_of_ble_eq_true rfl, Nat.le_of_ble_eq_true rfl⟩ (hrec) (⟨ad, φ1, α, hM⟩) hl.1 rfl rfl (Nat.le_of_ble_eq_true rfl) dX5_hole_9 ⟨Nat.le_of_ble_eq_true rfl, Nat.le_of_ble_eq_true rfl⟩) (fun r9 q9 => ?_)
  subst q9
  refine b_ifeq (tgt := 31) C dX5_hole_12 (by decide) (fun c12 => ?_) (fun c12 => ?_)
  · skip
    refine lv_iconst (v := (-1)) hx hb dX5_hole_31 (by decide) ?_
    exact r_wi C hr hlk hS (⟨sv (by rw [holeT, c12]; rfl), φ1, α, hM, hR⟩) dX5_hole_32
  · skip
    refine lv_iload hx hb dX5_hole_15 (lv_at hl 4 rfl) ?_
    refine lv_if_lt (tgt := 31) hx hb dX5_hole_17 (by decide) (fun c17 => ?_) (fun c17 => ?_)
    · skip
      refine lv_iconst (v := (-1)) hx hb dX5_hole_31 (by decide) ?_
      exact r_wi C hr hlk hS (⟨sv (by rw [holeT, decide_eq_false (Classical.not_not.mpr c17), Bool.and_false]; rfl), φ1, α, hM, hR⟩) dX5_hole_32
    · skip
      refine lv_iload hx hb dX5_hole_20 (lv_at hl 5 rfl) ?_
      refine lv_if_lt (tgt := 31) hx hb dX5_hole_22 (by decide) (fun c22 => ?_) (fun c22 => ?_)
      · skip
        refine lv_iconst (v := (-1)) hx hb dX5_hole_31 (by decide) ?_
        exact r_wi C hr hlk hS (⟨sv (by rw [holeT, show inR y 0 1 = false from Bool.eq_false_iff.mpr (fun hz => by have hz := inR_iff.mp hz; simp only [fa_lt, fa_le, li_0, li_1] at c22; omega), Bool.and_false]; rfl), φ1, α, hM, hR⟩) dX5_hole_32
      · skip
        refine lv_iload hx hb dX5_hole_25 (lv_at hl 5 rfl) ?_
        refine lv_iconst (v := 1) hx hb dX5_hole_27 (by decide) ?_
        refine lv_icmp_le (tgt := 33) hx hb dX5_hole_28 (by decide) (fun c28 => ?_) (fun c28 => ?_)
        · skip
          have hch : canHoleB k t w = true := c12
          obtain ⟨k1, t1, d1, ⟨hk1, ht0, ht1, hd0, hd1⟩, rfl, rfl, rfl⟩ := canHole_nI c12
          obtain ⟨j1, hj1, rfl⟩ := nI_of c17
          have ek : (nI k1).toNatClampNeg = k1 := nI_clamp (by omega)
          have et : (nI t1).toNatClampNeg = t1 := nI_clamp (by omega)
          have ed : (nI d1).toNatClampNeg = d1 := nI_clamp (by omega)
          have hgr := grid_le hT
          obtain ⟨f, hf⟩ : ∃ f : Nat → Nat → Bool, f = fun n o => holeB τ k1 t1 n o := ⟨_, rfl⟩
          obtain ⟨Z, hZ⟩ : ∃ Z : Option (Nat × Nat), Z = kthAll f d1 (gridN τ) 0 j1 := ⟨_, rfl⟩
          have eT : holeT τ (nI k1) (nI t1) (nI d1) (nI j1) y = pickI y (Z.map (fun z => (setAt τ z.1, nI z.2))) := by
            rw [holeT, hch, decide_eq_true c17, show inR y 0 1 = true from inR_iff.mpr (by simp only [fa_lt, fa_le, li_0, li_1] at c22 c28; omega), Bool.and_self, Bool.and_self, if_pos rfl, ek, et, ed, nI_clamp hj1, hZ, hf]
          refine lv_iconst (v := nI 0) hx hb dX5_hole_33 (by decide) ?_
          refine lv_istore (lv' := [(6, .int (nI (0))), (0, .ref (h)), (1, .int (nI (k1))), (2, .int (nI (t1))), (3, .int (nI (d1))), (4, .int (nI (j1))), (5, .int (y))]) hx hb dX5_hole_34 hl (by decide) rfl (fun ls hl => ?_)
          refine lv_iconst (v := nI 0) hx hb dX5_hole_36 (by decide) ?_
          refine lv_istore (lv' := [(7, .int (nI (0))), (6, .int (nI (0))), (0, .ref (h)), (1, .int (nI (k1))), (2, .int (nI (t1))), (3, .int (nI (d1))), (4, .int (nI (j1))), (5, .int (y))]) hx hb dX5_hole_37 hl (by decide) rfl (fun ls hl => ?_)
          have la : ∀ (n_la : Nat) (a x : Nat) (ls : Array Slot), (a ≤ gridN τ) → (gridN τ + 1 ≤ a + n_la) → (x ≤ j1) → (Z = kthAll f d1 (gridN τ - a) a (j1 - x)) → lv_has ls 9 [(0, .ref (h)), (1, .int (nI (k1))), (2, .int (nI (t1))), (3, .int (nI (d1))), (4, .int (nI (j1))), (5, .int (y)), (6, .int (nI (x))), (7, .int (nI (a)))] → W p l e ({ frames := 2, cells := 0, slots := 0, locals := 50 } : Room) s m ([.ref (h), .int (nI (k1)), .int (nI (t1)), .int (nI (d1)), .int (nI (j1)), .int (y)] : List Value).toArray below meth c H locs 0 0 (MQ below (mQ (wA g h ad) (fun z H => z = some (.int (holeT τ (nI k1) (nI t1) (nI d1) (nI j1) y)) ∧ MdH g h ad (τ) H)) (([.ref (h), .int (nI (k1)), .int (nI (t1)), .int (nI (d1)), .int (nI (j1)), .int (y)] : List Value).toArray) s 0 0 (wA g h ad)) (F0 m 39 ls []) := by
            intro n_la
            induction n_la with
            | zero =>
              intro a x ls ha hnla hx1 hz
              exact absurd hnla (by omega)
            | succ n_la ih_la =>
              intro a x ls ha hnla hx1 hz hl
              refine lv_iload hx hb dX5_hole_39 (lv_at hl 7 rfl) ?_
              refine lv_aload_n hx hb dX5_hole_41 rfl (lv_at hl 0 rfl) ?_
              refine k_i (c_V (As := []) (rest := [.int (nI (a))]) C v_X5_205 (c5_grid l g h ad φ1 α τ hR hT) ⟨Nat.le_of_ble_eq_true rfl, Nat.le_of_ble_eq_true rfl⟩ (hrec) (hM) hl.1 rfl rfl (Nat.le_of_ble_eq_true rfl) dX5_hole_42 ⟨Nat.le_of_ble_eq_true rfl, Nat.le_of_ble_eq_true rfl⟩) (fun r42 q42 => ?_)
              subst q42
              refine n_icmp_ge (tgt := 120) C (by omega) (by omega) dX5_hole_45 (by decide) (fun c45 => ?_) (fun c45 => ?_)
              · skip
                refine lv_iconst (v := (-1)) hx hb dX5_hole_120 (by decide) ?_
                exact r_wi C hr hlk hS (⟨sv (by rw [eT, hz, show gridN τ - a = 0 by omega]; rfl), φ1, α, hM, hR⟩) dX5_hole_121
              · skip
                refine lv_iconst (v := nI 0) hx hb dX5_hole_48 (by decide) ?_
                refine lv_istore (lv' := [(8, .int (nI (0))), (0, .ref (h)), (1, .int (nI (k1))), (2, .int (nI (t1))), (3, .int (nI (d1))), (4, .int (nI (j1))), (5, .int (y)), (6, .int (nI (x))), (7, .int (nI (a)))]) hx hb dX5_hole_49 hl (by decide) rfl (fun ls hl => ?_)
                have lb : ∀ (n_lb : Nat) (b x : Nat) (ls : Array Slot), (b ≤ d1) → (d1 + 1 ≤ b + n_lb) → (x ≤ j1) → (Z = kthIn f d1 (gridN τ) a (kthRow (f a) (d1 - b) b (j1 - x))) → lv_has ls 9 [(0, .ref (h)), (1, .int (nI (k1))), (2, .int (nI (t1))), (3, .int (nI (d1))), (4, .int (nI (j1))), (5, .int (y)), (6, .int (nI (x))), (7, .int (nI (a))), (8, .int (nI (b)))] → W p l e ({ frames := 2, cells := 0, slots := 0, locals := 50 } : Room) s m ([.ref (h), .int (nI (k1)), .int (nI (t1)), .int (nI (d1)), .int (nI (j1)), .int (y)] : List Value).toArray below meth c H locs 0 0 (MQ below (mQ (wA g h ad) (fun z H => z = some (.int (holeT τ (nI k1) (nI t1) (nI d1) (nI j1) y)) ∧ MdH g h ad (τ) H)) (([.ref (h), .int (nI (k1)), .int (nI (t1)), .int (nI (d1)), .int (nI (j1)), .int (y)] : List Value).toArray) s 0 0 (wA g h ad)) (F0 m 51 ls []) := by
                  intro n_lb
                  induction n_lb with
                  | zero =>
                    intro b x ls hb0 hnlb hx1 hz
                    exact absurd hnlb (by omega)
                  | succ n_lb ih_lb =>
                    intro b x ls hb0 hnlb hx1 hz hl
                    refine lv_iload hx hb dX5_hole_51 (lv_at hl 8 rfl) ?_
                    refine lv_iload_n hx hb dX5_hole_53 rfl (lv_at hl 3 rfl) ?_
                    refine n_icmp_ge (tgt := 114) C (by omega) (by omega) dX5_hole_54 (by decide) (fun c54 => ?_) (fun c54 => ?_)
                    · skip
                      refine n_iinc (d := 1) (lv' := [(7, .int (nI (a + 1))), (0, .ref (h)), (1, .int (nI (k1))), (2, .int (nI (t1))), (3, .int (nI (d1))), (4, .int (nI (j1))), (5, .int (y)), (6, .int (nI (x))), (8, .int (nI (b)))]) C dX5_hole_114 (by decide) hl (k := 7) rfl (by decide) rfl (fun ls hl => ?_)
                      refine lv_goto (tgt := 39) hx hb dX5_hole_117 (by decide) ?_
                      exact ih_la (a + 1) (x) ls (by omega) (by omega) (hx1) (by rw [hz, kth_end (by omega)]) (lv_sub hl [1, 2, 3, 4, 5, 6, 7, 0] rfl)
                    · skip
                      refine lv_aload_n hx hb dX5_hole_57 rfl (lv_at hl 0 rfl) ?_
                      refine lv_iload_n hx hb dX5_hole_58 rfl (lv_at hl 1 rfl) ?_
                      refine lv_aload_n hx hb dX5_hole_59 rfl (lv_at hl 0 rfl) ?_
                      refine lv_iload hx hb dX5_hole_60 (lv_at hl 7 rfl) ?_
                      refine k_i (c_V (As := [.int (nI (a))]) (rest := [.int (nI (k1)), .ref (h)]) C v_X5_209 (c5_settingsAt l g h ad φ1 α τ hR hT a (by omega)) ⟨Nat.le_of_ble_eq_true rfl, Nat.le_of_ble_eq_true rfl⟩ (hrec) (hM) hl.1 rfl rfl (Nat.le_of_ble_eq_true rfl) dX5_hole_62 ⟨Nat.le_of_ble_eq_true rfl, Nat.le_of_ble_eq_true rfl⟩) (fun r62 q62 => ?_)
                      subst q62
                      refine lv_iload hx hb dX5_hole_65 (lv_at hl 8 rfl) ?_
                      refine lv_iload_n hx hb dX5_hole_67 rfl (lv_at hl 2 rfl) ?_
                      refine k_i (c_V (As := [.int (nI (k1)), .int (setAt τ a), .int (nI (b)), .int (nI (t1))]) (rest := []) C v_X5_155 (c5_savedBy l g h ad φ1 α τ hR hT k1 ((setAt τ a)) ((nI (b))) t1 (by omega) (by omega)) ⟨Nat.le_of_ble_eq_true rfl, Nat.le_of_ble_eq_true rfl⟩ (hrec) (hM) hl.1 rfl rfl (Nat.le_of_ble_eq_true rfl) dX5_hole_68 ⟨Nat.le_of_ble_eq_true rfl, Nat.le_of_ble_eq_true rfl⟩) (fun r68 q68 => ?_)
                      subst q68
                      refine lv_iconst (v := (-1)) hx hb dX5_hole_71 (by decide) ?_
                      refine lv_icmp_eq (tgt := 78) hx hb dX5_hole_72 (by decide) (fun c72 => ?_) (fun c72 => ?_)
                      · skip
                        have c72b : f a b = true := by rw [hf]; exact decide_eq_true c72
                        refine lv_iload hx hb dX5_hole_78 (lv_at hl 6 rfl) ?_
                        refine lv_iload hx hb dX5_hole_80 (lv_at hl 4 rfl) ?_
                        refine n_icmp_ne (tgt := 102) C (by omega) (by omega) dX5_hole_82 (by decide) (fun c82 => ?_) (fun c82 => ?_)
                        · skip
                          refine lv_iload hx hb dX5_hole_102 (lv_at hl 6 rfl) ?_
                          refine lv_iconst (v := nI 1) hx hb dX5_hole_104 (by decide) ?_
                          refine n_iadd C dX5_hole_105 ?_
                          refine lv_istore (lv' := [(6, .int (nI (x + 1))), (0, .ref (h)), (1, .int (nI (k1))), (2, .int (nI (t1))), (3, .int (nI (d1))), (4, .int (nI (j1))), (5, .int (y)), (7, .int (nI (a))), (8, .int (nI (b)))]) hx hb dX5_hole_106 hl (by decide) rfl (fun ls hl => ?_)
                          refine n_iinc (d := 1) (lv' := [(8, .int (nI (b + 1))), (6, .int (nI (x + 1))), (0, .ref (h)), (1, .int (nI (k1))), (2, .int (nI (t1))), (3, .int (nI (d1))), (4, .int (nI (j1))), (5, .int (y)), (7, .int (nI (a)))]) C dX5_hole_108 (by decide) hl (k := 8) rfl (by decide) rfl (fun ls hl => ?_)
                          refine lv_goto (tgt := 51) hx hb dX5_hole_111 (by decide) ?_
                          exact ih_lb (b + 1) (x + 1) ls (by omega) (by omega) (by omega) (by rw [hz, kth_skip c54 (by rw [hf]; exact decide_eq_true c72) (by omega), show j1 - x - 1 = j1 - (x + 1) by omega]) (lv_sub hl [2, 3, 4, 5, 6, 7, 1, 8, 0] rfl)
                        · skip
                          refine lv_iload hx hb dX5_hole_85 (lv_at hl 5 rfl) ?_
                          refine lv_if_ne (tgt := 99) hx hb dX5_hole_87 (by decide) (fun c87 => ?_) (fun c87 => ?_)
                          · skip
                            refine lv_iload hx hb dX5_hole_99 (lv_at hl 8 rfl) ?_
                            exact r_wi C hr hlk hS (⟨sv (by rw [eT, hz, show j1 - x = 0 by omega, kth_hit c54 c72b]; simp [pickI, c87]), φ1, α, hM, hR⟩) dX5_hole_101
                          · skip
                            refine lv_aload_n hx hb dX5_hole_90 rfl (lv_at hl 0 rfl) ?_
                            refine lv_iload hx hb dX5_hole_91 (lv_at hl 7 rfl) ?_
                            refine k_i (c_V (As := [.int (nI (a))]) (rest := []) C v_X5_209 (c5_settingsAt l g h ad φ1 α τ hR hT a (by omega)) ⟨Nat.le_of_ble_eq_true rfl, Nat.le_of_ble_eq_true rfl⟩ (hrec) (hM) hl.1 rfl rfl (Nat.le_of_ble_eq_true rfl) dX5_hole_93 ⟨Nat.le_of_ble_eq_true rfl, Nat.le_of_ble_eq_true rfl⟩) (fun r93 q93 => ?_)
                            subst q93
                            refine lv_goto (tgt := 101) hx hb dX5_hole_96 (by decide) ?_
                            exact r_wi C hr hlk hS (⟨sv (by rw [eT, hz, show j1 - x = 0 by omega, kth_hit c54 c72b]; simp [pickI, c87]), φ1, α, hM, hR⟩) dX5_hole_101
                      · skip
                        refine lv_goto (tgt := 108) hx hb dX5_hole_75 (by decide) ?_
                        refine n_iinc (d := 1) (lv' := [(8, .int (nI (b + 1))), (0, .ref (h)), (1, .int (nI (k1))), (2, .int (nI (t1))), (3, .int (nI (d1))), (4, .int (nI (j1))), (5, .int (y)), (6, .int (nI (x))), (7, .int (nI (a)))]) C dX5_hole_108 (by decide) hl (k := 8) rfl (by decide) rfl (fun ls hl => ?_)
                        refine lv_goto (tgt := 51) hx hb dX5_hole_111 (by decide) ?_
                        exact ih_lb (b + 1) (x) ls (by omega) (by omega) (hx1) (by rw [hz, kth_no c54 (by rw [hf]; exact decide_eq_false c72)]) (lv_sub hl [1, 2, 3, 4, 5, 6, 7, 8, 0] rfl)
                exact lb (d1 + 1) (0) (x) ls (by omega) (by omega) (hx1) (by rw [hz, kth_in c45]) (lv_sub hl [1, 2, 3, 4, 5, 6, 7, 8, 0] rfl)
          exact la (gridN τ + 1) (0) (0) ls (by omega) (by omega) (by omega) (hZ) (lv_sub hl [2, 3, 4, 5, 6, 7, 1, 0] rfl)
        · skip
          refine lv_iconst (v := (-1)) hx hb dX5_hole_31 (by decide) ?_
          exact r_wi C hr hlk hS (⟨sv (by rw [holeT, show inR y 0 1 = false from Bool.eq_false_iff.mpr (fun hz => by have hz := inR_iff.mp hz; simp only [fa_lt, fa_le, li_0, li_1] at c22 c28; omega), Bool.and_false]; rfl), φ1, α, hM, hR⟩) dX5_hole_32

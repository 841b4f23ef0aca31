/-! THE CLASS TrialBook: code, run, fork, again -/
theorem D_off {A : Nat → Prop} {w1 w2 : va_W} (hD : va_D A (w1 ++ w2)) {k j : Nat} {x y : Nat × va_E} (hk : w1[k]? = some x) (hj : w2[j]? = some y) : x.1 ≠ y.1 := by
  intro e
  have h1 := (List.getElem?_eq_some_iff.mp hk).1
  have h2 := hD.1 k (w1.length + j) x y (by rw [List.getElem?_append_left h1]; exact hk) (by rw [List.getElem?_append_right (by omega), show w1.length + j - w1.length = j by omega]; exact hj) e
  omega
theorem off1 {D : va_G} {cl : List vw_C} {A : Nat → Prop} {ws : va_W} {a : Nat} {e : va_E} {H : Heap} (hP : va_P D cl (ws ++ [(a, e)]) H) (hD : va_D A (ws ++ [(a, e)])) : ∀ (k : Nat) (x : Nat × va_E), ws[k]? = some x → ¬ (x.1 = a ∨ H.size ≤ x.1) := by
  intro k x hk h
  rcases h with h | h
  · exact D_off hD hk (j := 0) (y := (a, e)) rfl h
  · have h1 := (List.getElem?_eq_some_iff.mp hk).1
    have h2 := (hP k x (by rw [List.getElem?_append_left h1]; exact hk)).lt
    omega
theorem D_join {A : Nat → Prop} {ws w2 : va_W} {a n : Nat} (h1 : va_D A ws) (h2 : va_D (fun q => q = a ∨ n ≤ q) w2) (hA : ∀ q, (q = a ∨ n ≤ q) → A q) (hx : ∀ (k : Nat) (x : Nat × va_E), ws[k]? = some x → ¬ (x.1 = a ∨ n ≤ x.1)) : va_D A (ws ++ w2) :=
  va_D.app h1 (h2.weaken (fun k q _ h => hA _ h)) (fun i j x y hi hj e => hx i x hi (by have h3 := h2.2 j y hj; rw [← e] at h3; exact h3))
theorem bk_code {g : GG} {b : Nat → Nat} {Z : Nat → Prop} {τ : TB} {cad rad : Nat → Nat} {nf : Int32} {fc : Nat → Option Nat} {fb d : Nat → Int32} {fr : Nat → Option Nat} {f1 f2 : Nat → Int32} {ff : Nat → Option Nat} {H : Heap} {qs : List Nat} {a k : Nat} (hB : BaseR τ cad rad fc fb d fr f1 f2) (hP : va_P g.1 vwCl [(b 0, .inr (4, [.ref (b 1), .ref (b 2), .ref (b 3), .ref (b 5), .int (nI (tN τ)), .ref (b 6), .ref (b 7), .int (nI ((tClm τ).length)), .ref (b 8), .int (nf)])), (b 1, aC g 4 ((va_up fc k (some a)))), (b 2, aI g 4 fb), (b 3, .inr (3, [.ref (b 4), .int (tClk τ)])), (b 4, aI g 8 d), (b 5, aR g 40 fr), (b 6, aI g 20 f1), (b 7, aI g 20 f2), (b 8, aR g 40 ff)] H) (hF : Froz g Z τ cad rad H) (hC : CodeAt g qs a H) (ha : ¬ Z a) : Bk g b Z (fun j => if j = k then qs else tCode τ j, tDat τ, tBnd τ, tClk τ, tRuns τ, tClm τ) H := by
  refine ⟨fun j => if j = k then a else cad j, rad, ⟨nf, va_up fc k (some a), fb, d, fr, f1, f2, ff, ⟨fun j hj => ?_, hB.2⟩, hP⟩, fun j hj => ?_, hF.2⟩
  · show va_up fc k (some a) j = some (if j = k then a else cad j)
    by_cases e : j = k
    · rw [if_pos e, e]; exact if_pos rfl
    · rw [if_neg e]; exact (if_neg e).trans (hB.1 j hj)
  · show CodeAt g (if j = k then qs else tCode τ j) (if j = k then a else cad j) H ∧ ¬ Z (if j = k then a else cad j)
    by_cases e : j = k
    · rw [if_pos e, if_pos e]; exact ⟨hC, ha⟩
    · rw [if_neg e, if_neg e]; exact hF.1 j hj
theorem cod_f {k n : Int32} (h : ¬ ((0 ≤ k.toInt ∧ k.toInt ≤ 3) ∧ (0 ≤ n.toInt ∧ n.toInt ≤ 8))) : (inR k 0 3 && inR n 0 8) = false := by
  rw [Bool.and_eq_false_iff]
  by_cases h1 : 0 ≤ k.toInt ∧ k.toInt ≤ 3
  · exact Or.inr (inF (fun h2 => h ⟨h1, h2⟩))
  · exact Or.inl (inF h1)
set_option maxHeartbeats 4000000 in
set_option maxRecDepth 100000 in
theorem c4_code (l : Launch) (g : GG) (b : Nat → Nat) (Z : Nat → Prop) (τ : TB) (hT : TOK τ) (hbi : ∀ i j, i < 9 → j < 9 → b i = b j → i = j) (hZ : ∀ q, bA b q → Z q) (sz : Nat) (hZs : ∀ q, Z q → q < sz) (k n x y : Int32) : Met l yX4_code (.code yX4_code cX4_code 5 (some .boolean) :: wsL_law) ({ frames := 2, cells := 1, slots := 2, locals := 45 } : Room) (mP g [.ref (b 0), .int (k), .int (n), .int (x), .int (y)] (fun H => H.size = sz ∧ Bk g b Z τ H)) (mQ (fA b sz) (fun z H => z = some (.int (bI (inR k 0 3 && inR n 0 8))) ∧ Bk g b Z (codT τ k n x y) H)) 1 2 ((fA b sz)) := by
  refine mMet (by decide) (Nat.le_of_ble_eq_true rfl) ?_
  intro p e s m below meth c C hr hlk hnm hP ls hl
  have hx := C.1.1
  have hb := C.1.2.1
  have hl : lv_has ls 5 [(0, .ref (b 0)), (1, .int (k)), (2, .int (n)), (3, .int (x)), (4, .int (y))] := hl
  obtain ⟨hsz, hP⟩ := hP
  have hBk := hP
  obtain ⟨cad, rad, ⟨nf, fc, fb, d, fr, f1, f2, ff, hB, hP⟩, hF⟩ := hP
  have hW : WorldAt g (tDat τ) (tClk τ) (b 3) s.heap := ⟨b 4, d, hB.2.2.1, hP.sub [3, 4] rfl⟩
  have hS : va_S (fA b sz) s.heap s.heap [] := va_S.rf
  have hD : va_D (fA b sz) [(b 0, .inr (4, [.ref (b 1), .ref (b 2), .ref (b 3), .ref (b 5), .int (nI (tN τ)), .ref (b 6), .ref (b 7), .int (nI ((tClm τ).length)), .ref (b 8), .int (nf)])), (b 1, aC g 4 fc), (b 2, aI g 4 fb), (b 3, .inr (3, [.ref (b 4), .int (tClk τ)])), (b 4, aI g 8 d), (b 5, aR g 40 fr), (b 6, aI g 20 f1), (b 7, aI g 20 f2), (b 8, aR g 40 ff)] := (base_D hbi).weaken (fun _ _ _ h => Or.inl h)
  have hA : ∀ q, s.heap.size ≤ q → fA b sz q := fun q hq => Or.inr (by rw [← hsz]; exact hq)
  have h40 := hT.2.2.1
  refine lv_iload_n hx hb dX4_code_0 rfl (lv_at hl 1 rfl) ?_
  refine lv_if_lt (tgt := 23) hx hb dX4_code_1 (by decide) (fun c1 => ?_) (fun c1 => ?_)
  · skip
    refine lv_iconst (v := 0) hx hb dX4_code_23 (by decide) ?_
    exact W.moreQ (by decide) (by decide) (r_wz C hr hlk (by first | exact Or.inl rfl | exact Or.inr rfl | exact bI_or _) hS (⟨sv (bif0 (cod_f (by simp only [nI_toInt (show 4 < 2 ^ 31 by omega), fa_lt, fa_le, fa_eq, li_0, li_1, li_2, li_3, li_4, li_5, li_6, li_7, li_8, li_12, li_15, li_16, li_20, li_30, li_40, li_100, li_1000, li_65535, li_65536, li_1000000, li_m1] at c1; omega))), by rw [codT, cod_f (by simp only [nI_toInt (show 4 < 2 ^ 31 by omega), fa_lt, fa_le, fa_eq, li_0, li_1, li_2, li_3, li_4, li_5, li_6, li_7, li_8, li_12, li_15, li_16, li_20, li_30, li_40, li_100, li_1000, li_65535, li_65536, li_1000000, li_m1] at c1; omega)]; exact ⟨cad, rad, ⟨nf, fc, fb, d, fr, f1, f2, ff, hB, hP⟩, hF⟩⟩) dX4_code_24)
  · skip
    refine lv_iload_n hx hb dX4_code_4 rfl (lv_at hl 1 rfl) ?_
    refine lv_aload_n hx hb dX4_code_5 rfl (lv_at hl 0 rfl) ?_
    refine q_get C f_X4_11 (hP) 0 rfl rfl dX4_code_6 ?_
    refine va_alen (v := nI 4) hx hb C.2.1 (hP) 1 2 rfl rfl rfl dX4_code_9 ?_
    refine lv_icmp_ge (tgt := 23) hx hb dX4_code_10 (by decide) (fun c10 => ?_) (fun c10 => ?_)
    · skip
      refine lv_iconst (v := 0) hx hb dX4_code_23 (by decide) ?_
      exact W.moreQ (by decide) (by decide) (r_wz C hr hlk (by first | exact Or.inl rfl | exact Or.inr rfl | exact bI_or _) hS (⟨sv (bif0 (cod_f (by simp only [nI_toInt (show 4 < 2 ^ 31 by omega), fa_lt, fa_le, fa_eq, li_0, li_1, li_2, li_3, li_4, li_5, li_6, li_7, li_8, li_12, li_15, li_16, li_20, li_30, li_40, li_100, li_1000, li_65535, li_65536, li_1000000, li_m1] at c1 c10; omega))), by rw [codT, cod_f (by simp only [nI_toInt (show 4 < 2 ^ 31 by omega), fa_lt, fa_le, fa_eq, li_0, li_1, li_2, li_3, li_4, li_5, li_6, li_7, li_8, li_12, li_15, li_16, li_20, li_30, li_40, li_100, li_1000, li_65535, li_65536, li_1000000, li_m1] at c1 c10; omega)]; exact ⟨cad, rad, ⟨nf, fc, fb, d, fr, f1, f2, ff, hB, hP⟩, hF⟩⟩) dX4_code_24)
    · skip
      refine lv_iload_n hx hb dX4_code_13 rfl (lv_at hl 2 rfl) ?_
      refine lv_if_lt (tgt := 23) hx hb dX4_code_14 (by decide) (fun c14 => ?_) (fun c14 => ?_)
      · skip
        refine lv_iconst (v := 0) hx hb dX4_code_23 (by decide) ?_
        exact W.moreQ (by decide) (by decide) (r_wz C hr hlk (by first | exact Or.inl rfl | exact Or.inr rfl | exact bI_or _) hS (⟨sv (bif0 (cod_f (by simp only [nI_toInt (show 4 < 2 ^ 31 by omega), fa_lt, fa_le, fa_eq, li_0, li_1, li_2, li_3, li_4, li_5, li_6, li_7, li_8, li_12, li_15, li_16, li_20, li_30, li_40, li_100, li_1000, li_65535, li_65536, li_1000000, li_m1] at c1 c10 c14; omega))), by rw [codT, cod_f (by simp only [nI_toInt (show 4 < 2 ^ 31 by omega), fa_lt, fa_le, fa_eq, li_0, li_1, li_2, li_3, li_4, li_5, li_6, li_7, li_8, li_12, li_15, li_16, li_20, li_30, li_40, li_100, li_1000, li_65535, li_65536, li_1000000, li_m1] at c1 c10 c14; omega)]; exact ⟨cad, rad, ⟨nf, fc, fb, d, fr, f1, f2, ff, hB, hP⟩, hF⟩⟩) dX4_code_24)
      · skip
        refine lv_iload_n hx hb dX4_code_17 rfl (lv_at hl 2 rfl) ?_
        refine lv_bipush (v := 8) hx hb dX4_code_18 (by decide) ?_
        refine lv_icmp_le (tgt := 25) hx hb dX4_code_20 (by decide) (fun c20 => ?_) (fun c20 => ?_)
        · skip
          have gn : inR n 0 8 = true := inR_iff.mpr (by simp only [fa_lt, fa_le, fa_eq, li_0, li_1, li_2, li_3, li_4, li_5, li_6, li_7, li_8, li_12, li_15, li_16, li_20, li_30, li_40, li_100, li_1000, li_65535, li_65536, li_1000000, li_m1] at c14 c20; omega)
          obtain ⟨k1, hk1, rfl⟩ := ge_nI c1 c10 (by omega)
          obtain ⟨n1, hn1, rfl⟩ := inR_nI (hi := 8) gn
          have gk : inR (nI k1) 0 3 = true := in_j (hi := 3) (by omega) (by omega)
          refine lv_aload_n hx hb dX4_code_25 rfl (lv_at hl 0 rfl) ?_
          refine q_get C f_X4_11 (hP) 0 rfl rfl dX4_code_26 ?_
          refine lv_iload_n hx hb dX4_code_29 rfl (lv_at hl 1 rfl) ?_
          refine n_new (ci := 0) (fs := [.int (0), .long (0)]) (C1 := RX0) (T := TX0) (N := 2) C (inr_1 _ (List.mem_of_getElem? (i := 12) rfl)) (inr_2 _ (List.mem_of_getElem? (i := 1) rfl)) (inr_2 _ (List.mem_of_getElem? (i := 2) rfl)) inlX0 tyX0 tyX0_ok rfl hP hD hS hA (by decide) (Nat.le_of_ble_eq_true rfl) (Nat.le_of_ble_eq_true rfl) dX4_code_30 (fun q30 H hq30 hP hD hS => ?_)
          refine W.cs (cells' := 1) (slots' := 2) rfl rfl ?_
          have hP : va_P g.1 vwCl [(b 0, .inr (4, [.ref (b 1), .ref (b 2), .ref (b 3), .ref (b 5), .int (nI (tN τ)), .ref (b 6), .ref (b 7), .int (nI ((tClm τ).length)), .ref (b 8), .int (nf)])), (b 1, aC g 4 fc), (b 2, aI g 4 fb), (b 3, .inr (3, [.ref (b 4), .int (tClk τ)])), (b 4, aI g 8 d), (b 5, aR g 40 fr), (b 6, aI g 20 f1), (b 7, aI g 20 f2), (b 8, aR g 40 ff), (q30, .inr (0, [.int (0), .long (0)]))] H := hP
          have hD : va_D (fA b sz) [(b 0, .inr (4, [.ref (b 1), .ref (b 2), .ref (b 3), .ref (b 5), .int (nI (tN τ)), .ref (b 6), .ref (b 7), .int (nI ((tClm τ).length)), .ref (b 8), .int (nf)])), (b 1, aC g 4 fc), (b 2, aI g 4 fb), (b 3, .inr (3, [.ref (b 4), .int (tClk τ)])), (b 4, aI g 8 d), (b 5, aR g 40 fr), (b 6, aI g 20 f1), (b 7, aI g 20 f2), (b 8, aR g 40 ff), (q30, .inr (0, [.int (0), .long (0)]))] := hD
          refine lv_dup hx hb dX4_code_33 rfl ?_
          refine lv_iload_n hx hb dX4_code_34 rfl (lv_at hl 2 rfl) ?_
          refine lv_iload_n hx hb dX4_code_35 rfl (lv_at hl 3 rfl) ?_
          refine lv_iload hx hb dX4_code_36 (lv_at hl 4 rfl) ?_
          refine k_w (c_I (As := [.int (nI (n1)), .int (x), .int (y)]) (rest := [.ref (q30), .int (nI (k1)), .ref (b 1)]) C v_X4_41 (c0_init l g q30 n1 x y (by omega)) ⟨Nat.le_of_ble_eq_true rfl, Nat.le_of_ble_eq_true rfl⟩ (hP.sub [9] rfl) hl.1 rfl rfl (Nat.le_of_ble_eq_true rfl) dX4_code_38 ⟨Nat.le_of_ble_eq_true rfl, Nat.le_of_ble_eq_true rfl⟩) hS (fun q hq => Or.inr (by rw [hq, ← hsz]; exact hq30)) (fun r38 H1 locs q38 hz38 hk38 hS => ?_)
          obtain ⟨rfl, hPc⟩ := q38
          refine W.eq (g2 := F0 m 41 ls [.ref (q30), .int (nI (k1)), .ref (b 1)]) rfl ?_
          have hP : va_P g.1 vwCl [(b 0, .inr (4, [.ref (b 1), .ref (b 2), .ref (b 3), .ref (b 5), .int (nI (tN τ)), .ref (b 6), .ref (b 7), .int (nI ((tClm τ).length)), .ref (b 8), .int (nf)])), (b 1, aC g 4 fc), (b 2, aI g 4 fb), (b 3, .inr (3, [.ref (b 4), .int (tClk τ)])), (b 4, aI g 8 d), (b 5, aR g 40 fr), (b 6, aI g 20 f1), (b 7, aI g 20 f2), (b 8, aR g 40 ff), (q30, .inr (0, [.int (nI ((stepsOf n1 x y).length)), .long (lN (packN (stepsOf n1 x y)))]))] H1 := va_P.app (w2 := [(q30, .inr (0, [.int (nI ((stepsOf n1 x y).length)), .long (lN (packN (stepsOf n1 x y)))]))]) (fr_P (hP.sub (ws' := [(b 0, .inr (4, [.ref (b 1), .ref (b 2), .ref (b 3), .ref (b 5), .int (nI (tN τ)), .ref (b 6), .ref (b 7), .int (nI ((tClm τ).length)), .ref (b 8), .int (nf)])), (b 1, aC g 4 fc), (b 2, aI g 4 fb), (b 3, .inr (3, [.ref (b 4), .int (tClk τ)])), (b 4, aI g 8 d), (b 5, aR g 40 fr), (b 6, aI g 20 f1), (b 7, aI g 20 f2), (b 8, aR g 40 ff)]) [0, 1, 2, 3, 4, 5, 6, 7, 8] rfl) hk38 (fun k z hz q => off1 (ws := [(b 0, .inr (4, [.ref (b 1), .ref (b 2), .ref (b 3), .ref (b 5), .int (nI (tN τ)), .ref (b 6), .ref (b 7), .int (nI ((tClm τ).length)), .ref (b 8), .int (nf)])), (b 1, aC g 4 fc), (b 2, aI g 4 fb), (b 3, .inr (3, [.ref (b 4), .int (tClk τ)])), (b 4, aI g 8 d), (b 5, aR g 40 fr), (b 6, aI g 20 f1), (b 7, aI g 20 f2), (b 8, aR g 40 ff)]) hP hD k z hz (Or.inl q))) hPc
          have hD : va_D (fA b sz) [(b 0, .inr (4, [.ref (b 1), .ref (b 2), .ref (b 3), .ref (b 5), .int (nI (tN τ)), .ref (b 6), .ref (b 7), .int (nI ((tClm τ).length)), .ref (b 8), .int (nf)])), (b 1, aC g 4 fc), (b 2, aI g 4 fb), (b 3, .inr (3, [.ref (b 4), .int (tClk τ)])), (b 4, aI g 8 d), (b 5, aR g 40 fr), (b 6, aI g 20 f1), (b 7, aI g 20 f2), (b 8, aR g 40 ff), (q30, .inr (0, [.int (nI ((stepsOf n1 x y).length)), .long (lN (packN (stepsOf n1 x y)))]))] := va_D_addr (ws := [(b 0, .inr (4, [.ref (b 1), .ref (b 2), .ref (b 3), .ref (b 5), .int (nI (tN τ)), .ref (b 6), .ref (b 7), .int (nI ((tClm τ).length)), .ref (b 8), .int (nf)])), (b 1, aC g 4 fc), (b 2, aI g 4 fb), (b 3, .inr (3, [.ref (b 4), .int (tClk τ)])), (b 4, aI g 8 d), (b 5, aR g 40 fr), (b 6, aI g 20 f1), (b 7, aI g 20 f2), (b 8, aR g 40 ff), (q30, .inr (0, [.int (0), .long (0)]))]) rfl hD
          refine W.cs (cells' := 1) (slots' := 2) rfl rfl ?_
          refine n_qast C hP hD hS 1 2 9 rfl rfl rfl rfl (by omega) (by decide) dX4_code_41 (fun H locs hP hD hS => ?_)
          have hP : va_P g.1 vwCl [(b 0, .inr (4, [.ref (b 1), .ref (b 2), .ref (b 3), .ref (b 5), .int (nI (tN τ)), .ref (b 6), .ref (b 7), .int (nI ((tClm τ).length)), .ref (b 8), .int (nf)])), (b 1, aC g 4 (va_up fc k1 (some q30))), (b 2, aI g 4 fb), (b 3, .inr (3, [.ref (b 4), .int (tClk τ)])), (b 4, aI g 8 d), (b 5, aR g 40 fr), (b 6, aI g 20 f1), (b 7, aI g 20 f2), (b 8, aR g 40 ff), (q30, .inr (0, [.int (nI ((stepsOf n1 x y).length)), .long (lN (packN (stepsOf n1 x y)))]))] H := hP
          have hD : va_D (fA b sz) [(b 0, .inr (4, [.ref (b 1), .ref (b 2), .ref (b 3), .ref (b 5), .int (nI (tN τ)), .ref (b 6), .ref (b 7), .int (nI ((tClm τ).length)), .ref (b 8), .int (nf)])), (b 1, aC g 4 (va_up fc k1 (some q30))), (b 2, aI g 4 fb), (b 3, .inr (3, [.ref (b 4), .int (tClk τ)])), (b 4, aI g 8 d), (b 5, aR g 40 fr), (b 6, aI g 20 f1), (b 7, aI g 20 f2), (b 8, aR g 40 ff), (q30, .inr (0, [.int (nI ((stepsOf n1 x y).length)), .long (lN (packN (stepsOf n1 x y)))]))] := hD
          refine lv_iconst (v := 1) hx hb dX4_code_42 (by decide) ?_
          exact r_wz C hr hlk (by first | exact Or.inl rfl | exact Or.inr rfl | exact bI_or _) hS (⟨sv (bit1 (by rw [gk, gn]; rfl)), by rw [codT, gk, gn, nI_clamp (by omega), nI_clamp (by omega)]; exact bk_code hB (hP.sub [0, 1, 2, 3, 4, 5, 6, 7, 8] rfl) (hF.keep hS (fun q hq h => h.elim (hZ q) (fun e => absurd e (by rw [← hsz]; exact Nat.not_le.mpr hq)))) (hP.sub [9] rfl) (Z_ge hZs (by rw [← hsz]; exact hq30))⟩) dX4_code_43
        · skip
          refine lv_iconst (v := 0) hx hb dX4_code_23 (by decide) ?_
          exact W.moreQ (by decide) (by decide) (r_wz C hr hlk (by first | exact Or.inl rfl | exact Or.inr rfl | exact bI_or _) hS (⟨sv (bif0 (cod_f (by simp only [nI_toInt (show 4 < 2 ^ 31 by omega), fa_lt, fa_le, fa_eq, li_0, li_1, li_2, li_3, li_4, li_5, li_6, li_7, li_8, li_12, li_15, li_16, li_20, li_30, li_40, li_100, li_1000, li_65535, li_65536, li_1000000, li_m1] at c1 c10 c14 c20; omega))), by rw [codT, cod_f (by simp only [nI_toInt (show 4 < 2 ^ 31 by omega), fa_lt, fa_le, fa_eq, li_0, li_1, li_2, li_3, li_4, li_5, li_6, li_7, li_8, li_12, li_15, li_16, li_20, li_30, li_40, li_100, li_1000, li_65535, li_65536, li_1000000, li_m1] at c1 c10 c14 c20; omega)]; exact ⟨cad, rad, ⟨nf, fc, fb, d, fr, f1, f2, ff, hB, hP⟩, hF⟩⟩) dX4_code_24)
theorem run_A {τ : TB} {k t : Nat} {all own : Int32} (h : canRunB (nI k) all own (nI t) = true) : (if tN τ = 40 then -1 else nI (tN τ)) = runA τ (nI k) all own (nI t) := by
  rw [runA, canRunN, h, Bool.true_and]
  by_cases e : tN τ = 40
  · rw [if_pos e, decide_eq_false (by omega)]; rfl
  · rw [if_neg e, decide_eq_true (by omega)]; rfl
theorem run_T {τ : TB} {k t : Nat} {all own : Int32} (h : canRunB (nI k) all own (nI t) = true) (hk : k < 2 ^ 31) (ht : t < 2 ^ 31) : (if tN τ = 40 then τ else pushT τ (newRun τ k all own t)) = runT τ (nI k) all own (nI t) := by
  rw [runT, canRunN, h, Bool.true_and, nI_clamp hk, nI_clamp ht]
  by_cases e : tN τ = 40
  · rw [if_pos e, decide_eq_false (by omega)]; rfl
  · rw [if_neg e, decide_eq_true (by omega)]; rfl
set_option maxHeartbeats 4000000 in
set_option maxRecDepth 100000 in
theorem c4_run (l : Launch) (g : GG) (b : Nat → Nat) (Z : Nat → Prop) (τ : TB) (hT : TOK τ) (hbi : ∀ i j, i < 9 → j < 9 → b i = b j → i = j) (hZ : ∀ q, bA b q → Z q) (sz : Nat) (hZs : ∀ q, Z q → q < sz) (hI : INV τ) (k all own t : Int32) : Met l yX4_run (.code yX4_run cX4_run 6 (some .int) :: wsL_law) ({ frames := 6, cells := 4, slots := 41, locals := 142 } : Room) (mP g [.ref (b 0), .int (k), .int (all), .int (own), .int (t)] (fun H => H.size = sz ∧ Bk g b Z τ H)) (mQ (fA b sz) (fun z H => z = some (.int (runA τ k all own t)) ∧ Bk g b Z (runT τ k all own t) H)) 4 41 ((fA b sz)) := by
  refine mMet (by decide) (Nat.le_of_ble_eq_true rfl) ?_
  intro p e s m below meth c C hr hlk hnm hP ls hl
  have hx := C.1.1
  have hb := C.1.2.1
  have hl : lv_has ls 6 [(0, .ref (b 0)), (1, .int (k)), (2, .int (all)), (3, .int (own)), (4, .int (t))] := hl
  obtain ⟨hsz, hP⟩ := hP
  have hBk := hP
  obtain ⟨cad, rad, ⟨nf, fc, fb, d, fr, f1, f2, ff, hB, hP⟩, hF⟩ := hP
  have hW : WorldAt g (tDat τ) (tClk τ) (b 3) s.heap := ⟨b 4, d, hB.2.2.1, hP.sub [3, 4] rfl⟩
  have hS : va_S (fA b sz) s.heap s.heap [] := va_S.rf
  have hD : va_D (fA b sz) [(b 0, .inr (4, [.ref (b 1), .ref (b 2), .ref (b 3), .ref (b 5), .int (nI (tN τ)), .ref (b 6), .ref (b 7), .int (nI ((tClm τ).length)), .ref (b 8), .int (nf)])), (b 1, aC g 4 fc), (b 2, aI g 4 fb), (b 3, .inr (3, [.ref (b 4), .int (tClk τ)])), (b 4, aI g 8 d), (b 5, aR g 40 fr), (b 6, aI g 20 f1), (b 7, aI g 20 f2), (b 8, aR g 40 ff)] := (base_D hbi).weaken (fun _ _ _ h => Or.inl h)
  have hA : ∀ q, s.heap.size ≤ q → fA b sz q := fun q hq => Or.inr (by rw [← hsz]; exact hq)
  have hF1 : Froz g (fZ Z sz) τ cad rad s.heap := by rw [← hsz]; exact hF.up
  have h40 := hT.2.2.1
  refine lv_aload_n hx hb dX4_run_0 rfl (lv_at hl 0 rfl) ?_
  refine lv_iload_n hx hb dX4_run_1 rfl (lv_at hl 1 rfl) ?_
  refine k_q (c_V (As := [.int (k)]) (rest := []) C v_X4_48 (c4_codeAt l g b τ hT nf fc fb d fr f1 f2 ff (k)) ⟨Nat.le_of_ble_eq_true rfl, Nat.le_of_ble_eq_true rfl⟩ (q_recv C hP 0 rfl rfl) (hP) hl.1 rfl rfl (Nat.le_of_ble_eq_true rfl) dX4_run_2 ⟨Nat.le_of_ble_eq_true rfl, Nat.le_of_ble_eq_true rfl⟩) (fun r2 q2 => ?_)
  by_cases h2 : inR k 0 3 = true
  · skip
    obtain ⟨k1, hk1, rfl⟩ := inR_nI (hi := 3) h2
    obtain rfl : r2 = some (cad k1) := q2.trans (cd_in (by omega) (hB.1 _ (by omega)))
    refine W.eq (g2 := F0 m 5 ls [.ref (cad k1)]) rfl ?_
    have ecl : (nI k1).toNatClampNeg = k1 := nI_clamp (by omega)
    have hk4 : k1 < 4 := by omega
    refine lv_astore (lv' := [(5, .ref (cad k1)), (0, .ref (b 0)), (1, .int (nI (k1))), (2, .int (all)), (3, .int (own)), (4, .int (t))]) hx hb dX4_run_5 hl (by decide) rfl (fun ls hl => ?_)
    refine lv_aload hx hb dX4_run_7 (lv_at hl 0 rfl) ?_
    refine lv_ifnull hx hb dX4_run_9 ?_
    refine lv_iload_n hx hb dX4_run_12 rfl (lv_at hl 3 rfl) ?_
    refine k_i (c_S (As := [.int (all)]) (rest := []) C v_X4_52 (c4_areSettings l g (all)) ⟨Nat.le_of_ble_eq_true rfl, Nat.le_of_ble_eq_true rfl⟩ (trivial) hl.1 rfl rfl (Nat.le_of_ble_eq_true rfl) dX4_run_13 ⟨Nat.le_of_ble_eq_true rfl, Nat.le_of_ble_eq_true rfl⟩) (fun r13 q13 => ?_)
    subst q13
    refine b_ifeq (tgt := 34) C dX4_run_16 (by decide) (fun c16 => ?_) (fun c16 => ?_)
    · skip
      refine lv_iconst (v := (-1)) hx hb dX4_run_34 (by decide) ?_
      exact W.moreQ (by decide) (by decide) (r_wi C hr hlk hS (⟨sv (by rw [runA, show canRunN τ (nI k1) all own t = false by simp [canRunN, canRunB, c16]]; rfl), by rw [runT, show canRunN τ (nI k1) all own t = false by simp [canRunN, canRunB, c16]]; exact ⟨cad, rad, ⟨nf, fc, fb, d, fr, f1, f2, ff, hB, hP⟩, hF⟩⟩) dX4_run_35)
    · skip
      refine lv_iload_n hx hb dX4_run_19 rfl (lv_at hl 4 rfl) ?_
      refine k_i (c_S (As := [.int (own)]) (rest := []) C v_X4_56 (c4_isSeed l g (own)) ⟨Nat.le_of_ble_eq_true rfl, Nat.le_of_ble_eq_true rfl⟩ (trivial) hl.1 rfl rfl (Nat.le_of_ble_eq_true rfl) dX4_run_20 ⟨Nat.le_of_ble_eq_true rfl, Nat.le_of_ble_eq_true rfl⟩) (fun r20 q20 => ?_)
      subst q20
      refine b_ifeq (tgt := 34) C dX4_run_23 (by decide) (fun c23 => ?_) (fun c23 => ?_)
      · skip
        refine lv_iconst (v := (-1)) hx hb dX4_run_34 (by decide) ?_
        exact W.moreQ (by decide) (by decide) (r_wi C hr hlk hS (⟨sv (by rw [runA, show canRunN τ (nI k1) all own t = false by simp [canRunN, canRunB, c16, c23]]; rfl), by rw [runT, show canRunN τ (nI k1) all own t = false by simp [canRunN, canRunB, c16, c23]]; exact ⟨cad, rad, ⟨nf, fc, fb, d, fr, f1, f2, ff, hB, hP⟩, hF⟩⟩) dX4_run_35)
      · skip
        refine lv_iload hx hb dX4_run_26 (lv_at hl 5 rfl) ?_
        refine k_i (c_S (As := [.int (t)]) (rest := []) C v_X4_59 (c4_areTicks l g (t)) ⟨Nat.le_of_ble_eq_true rfl, Nat.le_of_ble_eq_true rfl⟩ (trivial) hl.1 rfl rfl (Nat.le_of_ble_eq_true rfl) dX4_run_28 ⟨Nat.le_of_ble_eq_true rfl, Nat.le_of_ble_eq_true rfl⟩) (fun r28 q28 => ?_)
        subst q28
        refine b_ifne (tgt := 36) C dX4_run_31 (by decide) (fun c31 => ?_) (fun c31 => ?_)
        · skip
          obtain ⟨t1, ht0, ht1, rfl⟩ := inR1_nI (hi := 16) c31
          have gR : canRunB (nI k1) all own (nI t1) = true := by rw [canRunB, h2, c16, c23, c31]; rfl
          have hO : RunOK (newRun τ k1 all own t1) := by have := new_ok hT gR; rw [nI_clamp (by omega), nI_clamp (by omega)] at this; exact this
          refine lv_aload_n hx hb dX4_run_36 rfl (lv_at hl 1 rfl) ?_
          refine n_new (ci := 2) (fs := [.int (0), .null, .int (0), .int (0), .int (0), .null, .null, .int (0), .int (0), .int (0), .int (0), .int (0)]) (C1 := RX2) (T := TX2) (N := 12) C (inr_1 _ (List.mem_of_getElem? (i := 20) rfl)) (inr_5 _ (List.mem_of_getElem? (i := 6) rfl)) (inr_5 _ (List.mem_of_getElem? (i := 7) rfl)) inlX2 tyX2 tyX2_ok rfl hP hD hS hA (by decide) (Nat.le_of_ble_eq_true rfl) (Nat.le_of_ble_eq_true rfl) dX4_run_37 (fun q37 H hq37 hP hD hS => ?_)
          refine W.cs (cells' := 1) (slots' := 12) rfl rfl ?_
          have hP : va_P g.1 vwCl [(b 0, .inr (4, [.ref (b 1), .ref (b 2), .ref (b 3), .ref (b 5), .int (nI (tN τ)), .ref (b 6), .ref (b 7), .int (nI ((tClm τ).length)), .ref (b 8), .int (nf)])), (b 1, aC g 4 fc), (b 2, aI g 4 fb), (b 3, .inr (3, [.ref (b 4), .int (tClk τ)])), (b 4, aI g 8 d), (b 5, aR g 40 fr), (b 6, aI g 20 f1), (b 7, aI g 20 f2), (b 8, aR g 40 ff), (q37, .inr (2, [.int (0), .null, .int (0), .int (0), .int (0), .null, .null, .int (0), .int (0), .int (0), .int (0), .int (0)]))] H := hP
          have hD : va_D (fA b sz) [(b 0, .inr (4, [.ref (b 1), .ref (b 2), .ref (b 3), .ref (b 5), .int (nI (tN τ)), .ref (b 6), .ref (b 7), .int (nI ((tClm τ).length)), .ref (b 8), .int (nf)])), (b 1, aC g 4 fc), (b 2, aI g 4 fb), (b 3, .inr (3, [.ref (b 4), .int (tClk τ)])), (b 4, aI g 8 d), (b 5, aR g 40 fr), (b 6, aI g 20 f1), (b 7, aI g 20 f2), (b 8, aR g 40 ff), (q37, .inr (2, [.int (0), .null, .int (0), .int (0), .int (0), .null, .null, .int (0), .int (0), .int (0), .int (0), .int (0)]))] := hD
          refine lv_dup hx hb dX4_run_40 rfl ?_
          refine lv_iload_n hx hb dX4_run_41 rfl (lv_at hl 2 rfl) ?_
          refine lv_aload hx hb dX4_run_42 (lv_at hl 0 rfl) ?_
          refine lv_iload_n hx hb dX4_run_44 rfl (lv_at hl 3 rfl) ?_
          refine lv_iload_n hx hb dX4_run_45 rfl (lv_at hl 4 rfl) ?_
          refine lv_iload hx hb dX4_run_46 (lv_at hl 5 rfl) ?_
          have hS0 := hS.1
          have hA2 : ∀ q, (q = q37 ∨ H.size ≤ q) → fA b sz q := fun q hq => hq.elim (fun e => Or.inr (by rw [e, ← hsz]; exact hq37)) (fun e => Or.inr (by rw [← hsz]; exact Nat.le_trans hS0 e))
          refine k_w (c_I (As := [.int (nI (k1)), .ref (cad k1), .int (all), .int (own), .int (nI (t1))]) (rest := [.ref (q37), .ref (b 0)]) C v_X4_62 (c2_init l g q37 H.size (cad k1) t1 (nI k1) all own) ⟨Nat.le_of_ble_eq_true rfl, Nat.le_of_ble_eq_true rfl⟩ (⟨rfl, hP.sub [9] rfl⟩) hl.1 rfl rfl (Nat.le_of_ble_eq_true rfl) dX4_run_48 ⟨Nat.le_of_ble_eq_true rfl, Nat.le_of_ble_eq_true rfl⟩) hS (hA2) (fun r48 H1 locs q48 hz48 hk48 hS => ?_)
          obtain ⟨rfl, na, va, ra, gn_, gv_, gr_, hP1, hD1⟩ := q48
          refine W.eq (g2 := F0 m 51 ls [.ref (q37), .ref (b 0)]) rfl ?_
          have hx9 := off1 (ws := [(b 0, .inr (4, [.ref (b 1), .ref (b 2), .ref (b 3), .ref (b 5), .int (nI (tN τ)), .ref (b 6), .ref (b 7), .int (nI ((tClm τ).length)), .ref (b 8), .int (nf)])), (b 1, aC g 4 fc), (b 2, aI g 4 fb), (b 3, .inr (3, [.ref (b 4), .int (tClk τ)])), (b 4, aI g 8 d), (b 5, aR g 40 fr), (b 6, aI g 20 f1), (b 7, aI g 20 f2), (b 8, aR g 40 ff)]) hP hD
          have hP : va_P g.1 vwCl [(b 0, .inr (4, [.ref (b 1), .ref (b 2), .ref (b 3), .ref (b 5), .int (nI (tN τ)), .ref (b 6), .ref (b 7), .int (nI ((tClm τ).length)), .ref (b 8), .int (nf)])), (b 1, aC g 4 fc), (b 2, aI g 4 fb), (b 3, .inr (3, [.ref (b 4), .int (tClk τ)])), (b 4, aI g 8 d), (b 5, aR g 40 fr), (b 6, aI g 20 f1), (b 7, aI g 20 f2), (b 8, aR g 40 ff), (q37, .inr (2, [.int (nI (k1)), .ref (cad k1), .int (all), .int (own), .int (nI (t1)), .ref (na), .ref (ra), .int (nI (0)), .int (bI (false)), .int (bI (false)), .int ((-1)), .int ((-1))])), (na, .inr (1, [.int (0), .int (0), .int (bI (false)), .int (bI (false)), .ref (va)])), (va, aI g 8 ((fun _ => 0))), (ra, aI g 16 ((fun _ => 0)))] H1 := va_P.app (w2 := [(q37, .inr (2, [.int (nI (k1)), .ref (cad k1), .int (all), .int (own), .int (nI (t1)), .ref (na), .ref (ra), .int (nI (0)), .int (bI (false)), .int (bI (false)), .int ((-1)), .int ((-1))])), (na, .inr (1, [.int (0), .int (0), .int (bI (false)), .int (bI (false)), .ref (va)])), (va, aI g 8 ((fun _ => 0))), (ra, aI g 16 ((fun _ => 0)))]) (fr_P (hP.sub (ws' := [(b 0, .inr (4, [.ref (b 1), .ref (b 2), .ref (b 3), .ref (b 5), .int (nI (tN τ)), .ref (b 6), .ref (b 7), .int (nI ((tClm τ).length)), .ref (b 8), .int (nf)])), (b 1, aC g 4 fc), (b 2, aI g 4 fb), (b 3, .inr (3, [.ref (b 4), .int (tClk τ)])), (b 4, aI g 8 d), (b 5, aR g 40 fr), (b 6, aI g 20 f1), (b 7, aI g 20 f2), (b 8, aR g 40 ff)]) [0, 1, 2, 3, 4, 5, 6, 7, 8] rfl) hk48 hx9) hP1
          have hD : va_D (fA b sz) [(b 0, .inr (4, [.ref (b 1), .ref (b 2), .ref (b 3), .ref (b 5), .int (nI (tN τ)), .ref (b 6), .ref (b 7), .int (nI ((tClm τ).length)), .ref (b 8), .int (nf)])), (b 1, aC g 4 fc), (b 2, aI g 4 fb), (b 3, .inr (3, [.ref (b 4), .int (tClk τ)])), (b 4, aI g 8 d), (b 5, aR g 40 fr), (b 6, aI g 20 f1), (b 7, aI g 20 f2), (b 8, aR g 40 ff), (q37, .inr (2, [.int (nI (k1)), .ref (cad k1), .int (all), .int (own), .int (nI (t1)), .ref (na), .ref (ra), .int (nI (0)), .int (bI (false)), .int (bI (false)), .int ((-1)), .int ((-1))])), (na, .inr (1, [.int (0), .int (0), .int (bI (false)), .int (bI (false)), .ref (va)])), (va, aI g 8 ((fun _ => 0))), (ra, aI g 16 ((fun _ => 0)))] := D_join (ws := [(b 0, .inr (4, [.ref (b 1), .ref (b 2), .ref (b 3), .ref (b 5), .int (nI (tN τ)), .ref (b 6), .ref (b 7), .int (nI ((tClm τ).length)), .ref (b 8), .int (nf)])), (b 1, aC g 4 fc), (b 2, aI g 4 fb), (b 3, .inr (3, [.ref (b 4), .int (tClk τ)])), (b 4, aI g 8 d), (b 5, aR g 40 fr), (b 6, aI g 20 f1), (b 7, aI g 20 f2), (b 8, aR g 40 ff)]) (w2 := [(q37, .inr (2, [.int (nI (k1)), .ref (cad k1), .int (all), .int (own), .int (nI (t1)), .ref (na), .ref (ra), .int (nI (0)), .int (bI (false)), .int (bI (false)), .int ((-1)), .int ((-1))])), (na, .inr (1, [.int (0), .int (0), .int (bI (false)), .int (bI (false)), .ref (va)])), (va, aI g 8 ((fun _ => 0))), (ra, aI g 16 ((fun _ => 0)))]) (hD.sub (ws' := [(b 0, .inr (4, [.ref (b 1), .ref (b 2), .ref (b 3), .ref (b 5), .int (nI (tN τ)), .ref (b 6), .ref (b 7), .int (nI ((tClm τ).length)), .ref (b 8), .int (nf)])), (b 1, aC g 4 fc), (b 2, aI g 4 fb), (b 3, .inr (3, [.ref (b 4), .int (tClk τ)])), (b 4, aI g 8 d), (b 5, aR g 40 fr), (b 6, aI g 20 f1), (b 7, aI g 20 f2), (b 8, aR g 40 ff)]) [0, 1, 2, 3, 4, 5, 6, 7, 8] (by decide) rfl) hD1 hA2 hx9
          refine W.cs (cells' := 4) (slots' := 41) rfl rfl ?_
          have gg : sz ≤ q37 ∧ sz ≤ na ∧ sz ≤ va ∧ sz ≤ ra := ⟨by rw [← hsz]; exact hq37, by rw [← hsz]; exact Nat.le_trans hS0 gn_, by rw [← hsz]; exact Nat.le_trans hS0 gv_, by rw [← hsz]; exact Nat.le_trans hS0 gr_⟩
          refine k_w (c_V (As := [.ref (q37)]) (rest := []) C v_X4_65 (c4_enter l g b Z τ hT hbi hZ sz hZs hI nf fc fb d fr f1 f2 ff cad rad hB q37 (cad k1) na va ra k1 t1 all own (-1) (-1) 0 0 false false (fun _ => 0) (fun _ => 0) (fun _ => 0) (tCode τ k1) [] gg.1 gg.2.1 gg.2.2.1 gg.2.2.2 (hF1.1 k1 hk4).2 hO born_new (Nat.zero_le _) (fun j hj => absurd hj (Nat.not_lt_zero _)) (fun _ _ _ => rfl) hD) ⟨Nat.le_of_ble_eq_true rfl, Nat.le_of_ble_eq_true rfl⟩ (q_recv C hP 0 rfl rfl) (⟨hP, (hF1.keep hS (fun q _ hq => fA_Z hZ q hq)), (code_keep hS (fun hlt hq => (hF1.1 k1 hk4).2 (fA_Z hZ _ hq)) (hF1.1 k1 hk4).1)⟩) hl.1 rfl rfl (Nat.le_of_ble_eq_true rfl) dX4_run_51 ⟨Nat.le_of_ble_eq_true rfl, Nat.le_of_ble_eq_true rfl⟩) hS (fun _ hq => hq) (fun r51 H1 locs q51 hz51 hk51 hS => ?_)
          obtain ⟨rfl, hQ⟩ := q51
          refine W.eq (g2 := F0 m 54 ls [.int (if tN τ = 40 then -1 else nI (tN τ))]) rfl ?_
          exact r_wi C hr hlk hS (⟨sv (run_A gR), by rw [← run_T gR (by omega) (by omega)]; exact hQ⟩) dX4_run_54
        · skip
          refine lv_iconst (v := (-1)) hx hb dX4_run_34 (by decide) ?_
          exact W.moreQ (by decide) (by decide) (r_wi C hr hlk hS (⟨sv (by rw [runA, show canRunN τ (nI k1) all own t = false by simp [canRunN, canRunB, c16, c23, c31]]; rfl), by rw [runT, show canRunN τ (nI k1) all own t = false by simp [canRunN, canRunB, c16, c23, c31]]; exact ⟨cad, rad, ⟨nf, fc, fb, d, fr, f1, f2, ff, hB, hP⟩, hF⟩⟩) dX4_run_35)
  · skip
    obtain rfl : r2 = none := q2.trans (if_neg h2)
    refine W.eq (g2 := F0 m 5 ls [.null]) rfl ?_
    refine lv_astoreN (lv' := [(5, .null), (0, .ref (b 0)), (1, .int (k)), (2, .int (all)), (3, .int (own)), (4, .int (t))]) hx hb dX4_run_5 hl (by decide) rfl (fun ls hl => ?_)
    refine lv_aloadN hx hb dX4_run_7 (lv_at hl 0 rfl) ?_
    refine lv_ifnullN (tgt := 34) hx hb dX4_run_9 (by decide) ?_
    refine lv_iconst (v := (-1)) hx hb dX4_run_34 (by decide) ?_
    exact W.moreQ (by decide) (by decide) (r_wi C hr hlk hS (⟨sv (by rw [runA, show canRunN τ k all own t = false by simp [canRunN, canRunB, h2]]; rfl), by rw [runT, show canRunN τ k all own t = false by simp [canRunN, canRunB, h2]]; exact ⟨cad, rad, ⟨nf, fc, fb, d, fr, f1, f2, ff, hB, hP⟩, hF⟩⟩) dX4_run_35)

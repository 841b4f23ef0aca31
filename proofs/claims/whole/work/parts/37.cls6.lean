/-! THE CLASS: what else writes; what is made -/
def RunF (g : GG) (Z : Nat → Prop) (ρ : RunT) (cnt : Bool) (a : Nat) (H : Heap) : Prop := ∃ (ca na va ra : Nat) (v w : Nat → Int32), RV ρ v w ∧ va_P g.1 vwCl [(a, .inr (2, [.int (nI (rCode ρ)), .ref (ca), .int (rSet ρ), .int (rSeed ρ), .int (nI (rTk ρ)), .ref (na), .ref (ra), .int (nI ((rRow ρ).length)), .int (bI (rBr ρ)), .int (bI (cnt)), .int (rOrg ρ), .int (rAt ρ)])), (ca, .inr (0, [.int (nI ((rStp ρ).length)), .long (lN (packN (rStp ρ)))])), (na, .inr (1, [.int (rRS ρ), .int (rRW ρ), .int (bI (rSd ρ)), .int (bI (rCk ρ)), .ref (va)])), (va, aI g 8 v), (ra, aI g 16 w)] H ∧ ¬ Z a ∧ ¬ Z ca ∧ ¬ Z na ∧ ¬ Z va ∧ ¬ Z ra
theorem RunF.run {g : GG} {Z : Nat → Prop} {ρ : RunT} {cnt : Bool} {a : Nat} {H : Heap} (h : RunF g Z ρ cnt a H) : RunAt g ρ cnt a H := by
  obtain ⟨ca, na, va, ra, v, w, h1, h2, -⟩ := h
  exact ⟨ca, na, va, ra, v, w, h1, h2⟩
theorem five_n {A : Nat → Prop} {a b c d f : Nat} {e1 e2 e3 e4 e5 : va_E} (h1 : ¬ A a) (h2 : ¬ A b) (h3 : ¬ A c) (h4 : ¬ A d) (h5 : ¬ A f) : ∀ (k : Nat) (x : Nat × va_E), [(a, e1), (b, e2), (c, e3), (d, e4), (f, e5)][k]? = some x → ¬ A x.1 := by
  intro k x hx
  match k, hx with
  | 0, hx => cases hx; exact h1
  | 1, hx => cases hx; exact h2
  | 2, hx => cases hx; exact h3
  | 3, hx => cases hx; exact h4
  | 4, hx => cases hx; exact h5
theorem two_n {A : Nat → Prop} {a b : Nat} {e1 e2 : va_E} (h1 : ¬ A a) (h2 : ¬ A b) : ∀ (k : Nat) (x : Nat × va_E), [(a, e1), (b, e2)][k]? = some x → ¬ A x.1 := by
  intro k x hx
  match k, hx with
  | 0, hx => cases hx; exact h1
  | 1, hx => cases hx; exact h2
theorem RunF.keep {g : GG} {Z A : Nat → Prop} {ρ : RunT} {cnt : Bool} {a : Nat} {H0 H : Heap} {locs : List Loc} (hS : va_S A H0 H locs) (hA : ∀ q, q < H0.size → A q → Z q) (h : RunF g Z ρ cnt a H0) : RunF g Z ρ cnt a H := by
  obtain ⟨ca, na, va, ra, v, w, h1, h2, n1, n2, n3, n4, n5⟩ := h
  refine ⟨ca, na, va, ra, v, w, h1, h2.kept (fun k x hx => hS.2.1 x.1 ((h2 k x hx).lt) (fun hq => five_n n1 n2 n3 n4 n5 k x hx (hA _ ((h2 k x hx).lt) hq))), n1, n2, n3, n4, n5⟩
theorem one_D {A : Nat → Prop} {a : Nat} {e : va_E} (h : A a) : va_D A [(a, e)] := ⟨fun i j x y hi hj _ => by have h1 := (List.getElem?_eq_some_iff.mp hi).1; have h2 := (List.getElem?_eq_some_iff.mp hj).1; simp at h1 h2; omega, fun k q hk => by have h1 := (List.getElem?_eq_some_iff.mp hk).1; simp at h1; subst h1; cases hk; exact h⟩
theorem D_new {A : Nat → Prop} {D : va_G} {cl : List vw_C} {a b : va_W} {H : Heap} (ha : va_D A a) (hP : va_P D cl a H) (hb : va_D A b) (hge : ∀ (j : Nat) (q : Nat × va_E), b[j]? = some q → H.size ≤ q.1) : va_D A (a ++ b) :=
  va_D.app ha hb (fun i j x y hi hj e => by have h1 := (hP i x hi).lt; have h2 := hge j y hj; rw [e] at h1; exact absurd h1 (Nat.not_lt.mpr h2))
theorem one_ge {n a : Nat} {e : va_E} (h : n ≤ a) : ∀ (j : Nat) (q : Nat × va_E), [(a, e)][j]? = some q → n ≤ q.1 := by
  intro k x hx
  match k, hx with
  | 0, hx => cases hx; exact h
theorem fr_P {D : va_G} {cl : List vw_C} {A : Nat → Prop} {ws : va_W} {H H1 : Heap} (hP : va_P D cl ws H) (hk : ∀ q : Nat, q < H.size → ¬ A q → H1[q]? = H[q]?) (hA : ∀ (k : Nat) (x : Nat × va_E), ws[k]? = some x → ¬ A x.1) : va_P D cl ws H1 := hP.kept (fun k x hx => hk x.1 ((hP k x hx).lt) (hA k x hx))
theorem one_lt {D : va_G} {cl : List vw_C} {a : Nat} {e : va_E} {ws : va_W} {H : Heap} (hP : va_P D cl ((a, e) :: ws) H) : a < H.size := (hP 0 (a, e) rfl).lt
theorem steps_len (n : Nat) (a b : Int32) : (stepsOf n a b).length = n := by simp [stepsOf]
theorem code_l {n : Nat} {x y : Int32} (hn : n ≤ 8) (c : (0 : Int32) < nI n) : ((lN (u64 x y)).toUInt64 >>> ((nI (8 * (8 - n))).toInt64.toUInt64 &&& Int64.toUInt64 63)).toInt64 = lN (packN (stepsOf n x y)) := by
  have h0 : n ≠ 0 := by rintro rfl; exact absurd c (by decide)
  rw [wb_shr (u64_lt x y) (by omega), pack_steps x y n hn, show 64 - 8 * n = 8 * (8 - n) by omega]
theorem code_0 {n : Nat} {x y : Int32} (hn : n ≤ 8) (c : ¬ (0 : Int32) < nI n) : (0 : Int64) = lN (packN (stepsOf n x y)) := by
  have h0 : n = 0 := by
    rcases Nat.eq_zero_or_pos n with h | h
    · exact h
    · exact absurd ((nI_ltI (a := 0) (by omega) (by omega)).mpr h) c
  subst h0
  have e : packN (stepsOf 0 x y) = 0 := rfl
  rw [e]; decide
section LY6
variable {p : Program} {s : State} {m : MethodId} {args : Array Value} {c : Code} {H : Heap} {cc : ByteArray} {nL : Nat} {g : GG} {own : String}
theorem run_recv (C : Cx p m c cc nL s args own g) {ρ : RunT} {cnt : Bool} {a : Nat} (h : RunAt g ρ cnt a H) : ∃ cell : Cell, H[a]? = some cell ∧ cell.vm.isStatics = false ∧ s.vm.findClass "TrialBook$Run" = some cell.cls := by
  obtain ⟨ca, na, va, ra, v, w, h1, h2⟩ := h
  exact q_recv C h2 0 rfl rfl
theorem code_recv (C : Cx p m c cc nL s args own g) {qs : List Nat} {a : Nat} (h : CodeAt g qs a H) : ∃ cell : Cell, H[a]? = some cell ∧ cell.vm.isStatics = false ∧ s.vm.findClass "TrialBook$Code" = some cell.cls := q_recv C h 0 rfl rfl
end LY6
set_option maxHeartbeats 4000000 in
set_option maxRecDepth 100000 in
theorem c0_init (l : Launch) (g : GG) (a n : Nat) (x y : Int32) (hn : n ≤ 8) : Met l yX0_init (.code yX0_init cX0_init 6 none :: wsL_law) ({ frames := 1, cells := 0, slots := 0, locals := 20 } : Room) (mP g [.ref (a), .int (nI (n)), .int (x), .int (y)] (fun H => va_P g.1 vwCl [(a, .inr (0, [.int (0), .long (0)]))] H)) (mQ (fun q => q = a) (fun z H => z = none ∧ CodeAt g (stepsOf n x y) a H)) 0 0 ((fun q => q = a)) := by
  refine mMet (by decide) (Nat.le_of_ble_eq_true rfl) ?_
  intro p e s m below meth c C hr hlk hnm hP ls hl
  have hx := C.1.1
  have hb := C.1.2.1
  have hl : lv_has ls 6 [(0, .ref (a)), (1, .int (nI (n))), (2, .int (x)), (3, .int (y))] := hl
  have hD : va_D (fun q => q = a) [(a, .inr (0, [.int (0), .long (0)]))] := one_D rfl
  have hS : va_S (fun q => q = a) s.heap s.heap [] := va_S.rf
  refine lv_aload_n hx hb dX0_init_0 rfl (lv_at hl 0 rfl) ?_
  refine W.objInit hx hb C.1.2.2.2.1 (C.1.2.2.2.2 _ (inr_2 _ (List.mem_of_getElem? (i := 10) rfl))) (C.1.2.2.2.2 _ (inr_1 _ (List.mem_of_getElem? (i := 10) rfl))) (C.1.2.2.2.2 _ (inr_1 _ (List.mem_of_getElem? (i := 11) rfl))) rfl (by rw [C.1.2.2.1]; exact hl.1) rfl dX0_init_1 (Nat.le_of_ble_eq_true rfl) (Nat.le_of_ble_eq_true rfl) ?_
  refine W.eq (g2 := F0 m 4 ls []) rfl ?_
  refine lv_iload_n hx hb dX0_init_4 rfl (lv_at hl 2 rfl) ?_
  refine lv_i2l (v := (x).toInt64) hx hb dX0_init_5 rfl ?_
  refine lv_bipush (v := 32) hx hb dX0_init_6 (by decide) ?_
  refine lv_lshl (v := ((x).toInt64) <<< ((32 : Int32).toInt64 &&& 63)) hx hb dX0_init_8 rfl ?_
  refine lv_iload_n hx hb dX0_init_9 rfl (lv_at hl 3 rfl) ?_
  refine lv_i2l (v := (y).toInt64) hx hb dX0_init_10 rfl ?_
  refine lv_ldc2 (v := 4294967295) hx hb C.1.2.2.2.1 (C.1.2.2.2.2 _ (inr_2 _ (List.mem_of_getElem? (i := 11) rfl))) dX0_init_11 ?_
  refine lv_land hx hb dX0_init_14 ?_
  refine lv_lor hx hb dX0_init_15 ?_
  refine w_topl (y := lN (u64 x y)) (all_u64 x y) ?_
  refine lv_lstore (lv' := [(4, .long (lN (u64 x y))), (0, .ref (a)), (1, .int (nI (n))), (2, .int (x)), (3, .int (y))]) hx hb dX0_init_16 hl (by decide) rfl (fun ls hl => ?_)
  refine lv_aload_n hx hb dX0_init_18 rfl (lv_at hl 1 rfl) ?_
  refine lv_iload_n hx hb dX0_init_19 rfl (lv_at hl 2 rfl) ?_
  refine q_putF C hnm fp_X0_11 hP hD hS 0 rfl rfl rfl (Nat.le_of_ble_eq_true rfl) dX0_init_20 (fun H locs hP hD hS => ?_)
  have hP : va_P g.1 vwCl [(a, .inr (0, [.int (nI (n)), .long (0)]))] H := hP
  have hD : va_D (fun q => q = a) [(a, .inr (0, [.int (nI (n)), .long (0)]))] := hD
  refine lv_aload_n hx hb dX0_init_23 rfl (lv_at hl 1 rfl) ?_
  refine lv_iload_n hx hb dX0_init_24 rfl (lv_at hl 2 rfl) ?_
  refine lv_if_gt (tgt := 32) hx hb dX0_init_25 (by decide) (fun c25 => ?_) (fun c25 => ?_)
  · skip
    refine lv_lload hx hb dX0_init_32 (lv_at hl 0 rfl) ?_
    refine lv_bipush (v := nI 8) hx hb dX0_init_34 (by decide) ?_
    refine lv_bipush (v := nI 8) hx hb dX0_init_36 (by decide) ?_
    refine lv_iload_n hx hb dX0_init_38 rfl (lv_at hl 2 rfl) ?_
    refine n_isub C (by omega) dX0_init_39 ?_
    refine n_imul C dX0_init_40 ?_
    refine lv_lushr (v := ((lN (u64 x y)).toUInt64 >>> ((nI (8 * (8 - n))).toInt64.toUInt64 &&& Int64.toUInt64 63)).toInt64) hx hb dX0_init_41 rfl ?_
    refine w_topl (y := lN (packN (stepsOf n x y))) (code_l hn c25) ?_
    refine q_putF C hnm fp_X0_17 hP hD hS 0 rfl rfl rfl (Nat.le_of_ble_eq_true rfl) dX0_init_42 (fun H locs hP hD hS => ?_)
    have hP : va_P g.1 vwCl [(a, .inr (0, [.int (nI (n)), .long (lN (packN (stepsOf n x y)))]))] H := hP
    have hD : va_D (fun q => q = a) [(a, .inr (0, [.int (nI (n)), .long (lN (packN (stepsOf n x y)))]))] := hD
    exact r_wv C hr hlk hS (⟨rfl, by unfold CodeAt; rw [steps_len]; exact hP⟩) dX0_init_45
  · skip
    refine lv_lconst (v := 0) hx hb dX0_init_28 (by decide) ?_
    refine w_topl (y := lN (packN (stepsOf n x y))) (code_0 hn c25) ?_
    refine lv_goto (tgt := 42) hx hb dX0_init_29 (by decide) ?_
    refine q_putF C hnm fp_X0_17 hP hD hS 0 rfl rfl rfl (Nat.le_of_ble_eq_true rfl) dX0_init_42 (fun H locs hP hD hS => ?_)
    have hP : va_P g.1 vwCl [(a, .inr (0, [.int (nI (n)), .long (lN (packN (stepsOf n x y)))]))] H := hP
    have hD : va_D (fun q => q = a) [(a, .inr (0, [.int (nI (n)), .long (lN (packN (stepsOf n x y)))]))] := hD
    exact r_wv C hr hlk hS (⟨rfl, by unfold CodeAt; rw [steps_len]; exact hP⟩) dX0_init_45
set_option maxHeartbeats 4000000 in
set_option maxRecDepth 100000 in
theorem c3_init (l : Launch) (g : GG) (a sz : Nat) : Met l yX3_init (.code yX3_init cX3_init 1 none :: wsL_law) ({ frames := 1, cells := 1, slots := 8, locals := 20 } : Room) (mP g [.ref (a)] (fun H => H.size = sz ∧ va_P g.1 vwCl [(a, .inr (3, [.null, .int (0)]))] H)) (mQ (fun q => q = a ∨ sz ≤ q) (fun z H => z = none ∧ ∃ wa : Nat, sz ≤ wa ∧ va_P g.1 vwCl [(a, .inr (3, [.ref (wa), .int (0)])), (wa, aI g 8 ((fun _ => 0)))] H)) 1 8 ((fun q => q = a ∨ sz ≤ q)) := by
  refine mMet (by decide) (Nat.le_of_ble_eq_true rfl) ?_
  intro p e s m below meth c C hr hlk hnm hP ls hl
  have hx := C.1.1
  have hb := C.1.2.1
  have hl : lv_has ls 1 [(0, .ref (a))] := hl
  obtain ⟨hsz, hP⟩ := hP
  have hA : ∀ q, s.heap.size ≤ q → (fun q => q = a ∨ sz ≤ q) q := fun q hq => Or.inr (by rw [← hsz]; exact hq)
  have hD : va_D (fun q => q = a ∨ sz ≤ q) [(a, .inr (3, [.null, .int (0)]))] := one_D (Or.inl rfl)
  have hS : va_S (fun q => q = a ∨ sz ≤ q) s.heap s.heap [] := va_S.rf
  refine lv_aload_n hx hb dX3_init_0 rfl (lv_at hl 0 rfl) ?_
  refine W.objInit hx hb C.1.2.2.2.1 (C.1.2.2.2.2 _ (inr_2 _ (List.mem_of_getElem? (i := 5) rfl))) (C.1.2.2.2.2 _ (inr_1 _ (List.mem_of_getElem? (i := 10) rfl))) (C.1.2.2.2.2 _ (inr_1 _ (List.mem_of_getElem? (i := 11) rfl))) rfl (by rw [C.1.2.2.1]; exact hl.1) rfl dX3_init_1 (Nat.le_of_ble_eq_true rfl) (Nat.le_of_ble_eq_true rfl) ?_
  refine W.eq (g2 := F0 m 4 ls []) rfl ?_
  refine lv_aload_n hx hb dX3_init_4 rfl (lv_at hl 0 rfl) ?_
  refine lv_bipush (v := nI 8) hx hb dX3_init_5 (by decide) ?_
  refine n_newI (n := 8) C hP hD hS hA (by decide) (Nat.le_of_ble_eq_true rfl) (Nat.le_of_ble_eq_true rfl) dX3_init_7 (fun q7 H hq7 hP hD hS => ?_)
  refine W.cs (cells' := 1) (slots' := 8) rfl rfl ?_
  have hP : va_P g.1 vwCl [(a, .inr (3, [.null, .int (0)])), (q7, aI g 8 (fun _ => 0))] H := hP
  have hD : va_D (fun q => q = a ∨ sz ≤ q) [(a, .inr (3, [.null, .int (0)])), (q7, aI g 8 (fun _ => 0))] := hD
  refine q_putF C hnm fp_X3_9 hP hD hS 0 rfl rfl rfl (Nat.le_of_ble_eq_true rfl) dX3_init_9 (fun H locs hP hD hS => ?_)
  have hP : va_P g.1 vwCl [(a, .inr (3, [.ref (q7), .int (0)])), (q7, aI g 8 (fun _ => 0))] H := hP
  have hD : va_D (fun q => q = a ∨ sz ≤ q) [(a, .inr (3, [.ref (q7), .int (0)])), (q7, aI g 8 (fun _ => 0))] := hD
  exact r_wv C hr hlk hS (⟨rfl, q7, by rw [← hsz]; exact hq7, hP⟩) dX3_init_12
set_option maxHeartbeats 4000000 in
set_option maxRecDepth 100000 in
theorem c1_init (l : Launch) (g : GG) (a sz : Nat) : Met l yX1_init (.code yX1_init cX1_init 1 none :: wsL_law) ({ frames := 1, cells := 1, slots := 8, locals := 20 } : Room) (mP g [.ref (a)] (fun H => H.size = sz ∧ va_P g.1 vwCl [(a, .inr (1, [.int (0), .int (0), .int (0), .int (0), .null]))] H)) (mQ (fun q => q = a ∨ sz ≤ q) (fun z H => z = none ∧ ∃ va : Nat, sz ≤ va ∧ va_P g.1 vwCl [(a, .inr (1, [.int (0), .int (0), .int (bI (false)), .int (bI (false)), .ref (va)])), (va, aI g 8 ((fun _ => 0)))] H)) 1 8 ((fun q => q = a ∨ sz ≤ q)) := by
  refine mMet (by decide) (Nat.le_of_ble_eq_true rfl) ?_
  intro p e s m below meth c C hr hlk hnm hP ls hl
  have hx := C.1.1
  have hb := C.1.2.1
  have hl : lv_has ls 1 [(0, .ref (a))] := hl
  obtain ⟨hsz, hP⟩ := hP
  have hA : ∀ q, s.heap.size ≤ q → (fun q => q = a ∨ sz ≤ q) q := fun q hq => Or.inr (by rw [← hsz]; exact hq)
  have hD : va_D (fun q => q = a ∨ sz ≤ q) [(a, .inr (1, [.int (0), .int (0), .int (0), .int (0), .null]))] := one_D (Or.inl rfl)
  have hS : va_S (fun q => q = a ∨ sz ≤ q) s.heap s.heap [] := va_S.rf
  refine lv_aload_n hx hb dX1_init_0 rfl (lv_at hl 0 rfl) ?_
  refine W.objInit hx hb C.1.2.2.2.1 (C.1.2.2.2.2 _ (inr_6 _ (List.mem_of_getElem? (i := 22) rfl))) (C.1.2.2.2.2 _ (inr_1 _ (List.mem_of_getElem? (i := 10) rfl))) (C.1.2.2.2.2 _ (inr_1 _ (List.mem_of_getElem? (i := 11) rfl))) rfl (by rw [C.1.2.2.1]; exact hl.1) rfl dX1_init_1 (Nat.le_of_ble_eq_true rfl) (Nat.le_of_ble_eq_true rfl) ?_
  refine W.eq (g2 := F0 m 4 ls []) rfl ?_
  refine lv_aload_n hx hb dX1_init_4 rfl (lv_at hl 0 rfl) ?_
  refine lv_bipush (v := nI 8) hx hb dX1_init_5 (by decide) ?_
  refine n_newI (n := 8) C hP hD hS hA (by decide) (Nat.le_of_ble_eq_true rfl) (Nat.le_of_ble_eq_true rfl) dX1_init_7 (fun q7 H hq7 hP hD hS => ?_)
  refine W.cs (cells' := 1) (slots' := 8) rfl rfl ?_
  have hP : va_P g.1 vwCl [(a, .inr (1, [.int (0), .int (0), .int (0), .int (0), .null])), (q7, aI g 8 (fun _ => 0))] H := hP
  have hD : va_D (fun q => q = a ∨ sz ≤ q) [(a, .inr (1, [.int (0), .int (0), .int (0), .int (0), .null])), (q7, aI g 8 (fun _ => 0))] := hD
  refine q_putF C hnm fp_X1_9 hP hD hS 0 rfl rfl rfl (Nat.le_of_ble_eq_true rfl) dX1_init_9 (fun H locs hP hD hS => ?_)
  have hP : va_P g.1 vwCl [(a, .inr (1, [.int (0), .int (0), .int (0), .int (0), .ref (q7)])), (q7, aI g 8 (fun _ => 0))] H := hP
  have hD : va_D (fun q => q = a ∨ sz ≤ q) [(a, .inr (1, [.int (0), .int (0), .int (0), .int (0), .ref (q7)])), (q7, aI g 8 (fun _ => 0))] := hD
  exact r_wv C hr hlk hS (⟨rfl, q7, by rw [← hsz]; exact hq7, hP⟩) dX1_init_12
set_option maxHeartbeats 4000000 in
set_option maxRecDepth 100000 in
theorem c2_init (l : Launch) (g : GG) (a sz ca tk : Nat) (k st sd : Int32) : Met l yX2_init (.code yX2_init cX2_init 6 none :: wsL_law) ({ frames := 2, cells := 3, slots := 29, locals := 40 } : Room) (mP g [.ref (a), .int (k), .ref (ca), .int (st), .int (sd), .int (nI (tk))] (fun H => H.size = sz ∧ va_P g.1 vwCl [(a, .inr (2, [.int (0), .null, .int (0), .int (0), .int (0), .null, .null, .int (0), .int (0), .int (0), .int (0), .int (0)]))] H)) (mQ (fun q => q = a ∨ sz ≤ q) (fun z H => z = none ∧ ∃ na va ra : Nat, sz ≤ na ∧ sz ≤ va ∧ sz ≤ ra ∧ va_P g.1 vwCl [(a, .inr (2, [.int (k), .ref (ca), .int (st), .int (sd), .int (nI (tk)), .ref (na), .ref (ra), .int (nI (0)), .int (bI (false)), .int (bI (false)), .int ((-1)), .int ((-1))])), (na, .inr (1, [.int (0), .int (0), .int (bI (false)), .int (bI (false)), .ref (va)])), (va, aI g 8 ((fun _ => 0))), (ra, aI g 16 ((fun _ => 0)))] H ∧ va_D (fun q => q = a ∨ sz ≤ q) [(a, .inr (2, [.int (k), .ref (ca), .int (st), .int (sd), .int (nI (tk)), .ref (na), .ref (ra), .int (nI (0)), .int (bI (false)), .int (bI (false)), .int ((-1)), .int ((-1))])), (na, .inr (1, [.int (0), .int (0), .int (bI (false)), .int (bI (false)), .ref (va)])), (va, aI g 8 ((fun _ => 0))), (ra, aI g 16 ((fun _ => 0)))])) 3 29 ((fun q => q = a ∨ sz ≤ q)) := by
  refine mMet (by decide) (Nat.le_of_ble_eq_true rfl) ?_
  intro p e s m below meth c C hr hlk hnm hP ls hl
  have hx := C.1.1
  have hb := C.1.2.1
  have hl : lv_has ls 6 [(0, .ref (a)), (1, .int (k)), (2, .ref (ca)), (3, .int (st)), (4, .int (sd)), (5, .int (nI (tk)))] := hl
  obtain ⟨hsz, hP⟩ := hP
  have hA : ∀ q, s.heap.size ≤ q → (fun q => q = a ∨ sz ≤ q) q := fun q hq => Or.inr (by rw [← hsz]; exact hq)
  have hD : va_D (fun q => q = a ∨ sz ≤ q) [(a, .inr (2, [.int (0), .null, .int (0), .int (0), .int (0), .null, .null, .int (0), .int (0), .int (0), .int (0), .int (0)]))] := one_D (Or.inl rfl)
  have hS : va_S (fun q => q = a ∨ sz ≤ q) s.heap s.heap [] := va_S.rf
  refine lv_aload_n hx hb dX2_init_0 rfl (lv_at hl 0 rfl) ?_
  refine W.objInit hx hb C.1.2.2.2.1 (C.1.2.2.2.2 _ (inr_6 _ (List.mem_of_getElem? (i := 7) rfl))) (C.1.2.2.2.2 _ (inr_1 _ (List.mem_of_getElem? (i := 10) rfl))) (C.1.2.2.2.2 _ (inr_1 _ (List.mem_of_getElem? (i := 11) rfl))) rfl (by rw [C.1.2.2.1]; exact hl.1) rfl dX2_init_1 (Nat.le_of_ble_eq_true rfl) (Nat.le_of_ble_eq_true rfl) ?_
  refine W.eq (g2 := F0 m 4 ls []) rfl ?_
  refine lv_aload_n hx hb dX2_init_4 rfl (lv_at hl 0 rfl) ?_
  refine n_new (ci := 1) (fs := [.int (0), .int (0), .int (0), .int (0), .null]) (C1 := RX1) (T := TX1) (N := 5) C (inr_6 _ (List.mem_of_getElem? (i := 8) rfl)) (inr_6 _ (List.mem_of_getElem? (i := 9) rfl)) (inr_6 _ (List.mem_of_getElem? (i := 10) rfl)) inlX1 tyX1 tyX1_ok rfl hP hD hS hA (by decide) (Nat.le_of_ble_eq_true rfl) (Nat.le_of_ble_eq_true rfl) dX2_init_5 (fun q5 H hq5 hP hD hS => ?_)
  refine W.cs (cells' := 1) (slots' := 5) rfl rfl ?_
  have hP : va_P g.1 vwCl [(a, .inr (2, [.int (0), .null, .int (0), .int (0), .int (0), .null, .null, .int (0), .int (0), .int (0), .int (0), .int (0)])), (q5, .inr (1, [.int (0), .int (0), .int (0), .int (0), .null]))] H := hP
  have hD : va_D (fun q => q = a ∨ sz ≤ q) [(a, .inr (2, [.int (0), .null, .int (0), .int (0), .int (0), .null, .null, .int (0), .int (0), .int (0), .int (0), .int (0)])), (q5, .inr (1, [.int (0), .int (0), .int (0), .int (0), .null]))] := hD
  refine lv_dup hx hb dX2_init_8 rfl ?_
  have hPo := hP
  have hS0 := hS
  have hne : a ≠ q5 := fun e => absurd (hD.1 0 1 _ _ rfl rfl e) (by decide)
  have hlt : a < H.size := one_lt hP
  refine k_w (c_IN (As := []) (rest := [.ref (q5), .ref (a)]) C v_X2_11 rfl (inr_6 _ (List.mem_of_getElem? (i := 20) rfl)) (c1_init l g q5 H.size) ⟨Nat.le_of_ble_eq_true rfl, Nat.le_of_ble_eq_true rfl⟩ (⟨rfl, hP.sub [1] rfl⟩) hl.1 rfl rfl (Nat.le_of_ble_eq_true rfl) dX2_init_9 ⟨Nat.le_of_ble_eq_true rfl, Nat.le_of_ble_eq_true rfl⟩) hS (fun q hq => hq.elim (fun e => Or.inr (by rw [e, ← hsz]; exact hq5)) (fun e => Or.inr (by rw [← hsz]; exact Nat.le_trans hS.1 e))) (fun r9 H1 locs q9 hz9 hk9 hS => ?_)
  obtain ⟨rfl, va, hva, hP1⟩ := q9
  refine W.eq (g2 := F0 m 12 ls [.ref (q5), .ref (a)]) rfl ?_
  have hP : va_P g.1 vwCl [(a, .inr (2, [.int (0), .null, .int (0), .int (0), .int (0), .null, .null, .int (0), .int (0), .int (0), .int (0), .int (0)])), (q5, .inr (1, [.int (0), .int (0), .int (bI (false)), .int (bI (false)), .ref (va)])), (va, aI g 8 ((fun _ => 0)))] H1 := va_P.app (w2 := [(q5, .inr (1, [.int (0), .int (0), .int (bI (false)), .int (bI (false)), .ref (va)])), (va, aI g 8 ((fun _ => 0)))]) (fr_P (hP.sub (ws' := [(a, .inr (2, [.int (0), .null, .int (0), .int (0), .int (0), .null, .null, .int (0), .int (0), .int (0), .int (0), .int (0)]))]) [0] rfl) hk9 (one_n (A := fun q => q = q5 ∨ H.size ≤ q) (fun hq => hq.elim (fun e => hne e) (fun e => absurd e (Nat.not_le.mpr hlt))))) hP1
  have hD : va_D (fun q => q = a ∨ sz ≤ q) [(a, .inr (2, [.int (0), .null, .int (0), .int (0), .int (0), .null, .null, .int (0), .int (0), .int (0), .int (0), .int (0)])), (q5, .inr (1, [.int (0), .int (0), .int (bI (false)), .int (bI (false)), .ref (va)])), (va, aI g 8 ((fun _ => 0)))] := va_D_addr (ws := [(a, .inr (2, [.int (0), .null, .int (0), .int (0), .int (0), .null, .null, .int (0), .int (0), .int (0), .int (0), .int (0)])), (q5, .inr (1, [.int (0), .int (0), .int (0), .int (0), .null]))] ++ [(va, aI g 8 ((fun _ => 0)))]) rfl (D_new (a := [(a, .inr (2, [.int (0), .null, .int (0), .int (0), .int (0), .null, .null, .int (0), .int (0), .int (0), .int (0), .int (0)])), (q5, .inr (1, [.int (0), .int (0), .int (0), .int (0), .null]))]) (b := [(va, aI g 8 ((fun _ => 0)))]) hD hPo (one_D (Or.inr (by rw [← hsz]; exact Nat.le_trans hS0.1 hva))) (one_ge hva))
  refine W.cs (cells' := 2) (slots' := 13) rfl rfl ?_
  refine q_putF C hnm fp_X2_12 hP hD hS 0 rfl rfl rfl (Nat.le_of_ble_eq_true rfl) dX2_init_12 (fun H locs hP hD hS => ?_)
  have hP : va_P g.1 vwCl [(a, .inr (2, [.int (0), .null, .int (0), .int (0), .int (0), .ref (q5), .null, .int (0), .int (0), .int (0), .int (0), .int (0)])), (q5, .inr (1, [.int (0), .int (0), .int (bI (false)), .int (bI (false)), .ref (va)])), (va, aI g 8 ((fun _ => 0)))] H := hP
  have hD : va_D (fun q => q = a ∨ sz ≤ q) [(a, .inr (2, [.int (0), .null, .int (0), .int (0), .int (0), .ref (q5), .null, .int (0), .int (0), .int (0), .int (0), .int (0)])), (q5, .inr (1, [.int (0), .int (0), .int (bI (false)), .int (bI (false)), .ref (va)])), (va, aI g 8 ((fun _ => 0)))] := hD
  refine lv_aload_n hx hb dX2_init_15 rfl (lv_at hl 0 rfl) ?_
  refine lv_bipush (v := nI 16) hx hb dX2_init_16 (by decide) ?_
  refine n_newI (n := 16) C hP hD hS hA (by decide) (Nat.le_of_ble_eq_true rfl) (Nat.le_of_ble_eq_true rfl) dX2_init_18 (fun q18 H hq18 hP hD hS => ?_)
  refine W.cs (cells' := 3) (slots' := 29) rfl rfl ?_
  have hP : va_P g.1 vwCl [(a, .inr (2, [.int (0), .null, .int (0), .int (0), .int (0), .ref (q5), .null, .int (0), .int (0), .int (0), .int (0), .int (0)])), (q5, .inr (1, [.int (0), .int (0), .int (bI (false)), .int (bI (false)), .ref (va)])), (va, aI g 8 ((fun _ => 0))), (q18, aI g 16 (fun _ => 0))] H := hP
  have hD : va_D (fun q => q = a ∨ sz ≤ q) [(a, .inr (2, [.int (0), .null, .int (0), .int (0), .int (0), .ref (q5), .null, .int (0), .int (0), .int (0), .int (0), .int (0)])), (q5, .inr (1, [.int (0), .int (0), .int (bI (false)), .int (bI (false)), .ref (va)])), (va, aI g 8 ((fun _ => 0))), (q18, aI g 16 (fun _ => 0))] := hD
  refine q_putF C hnm fp_X2_18 hP hD hS 0 rfl rfl rfl (Nat.le_of_ble_eq_true rfl) dX2_init_20 (fun H locs hP hD hS => ?_)
  have hP : va_P g.1 vwCl [(a, .inr (2, [.int (0), .null, .int (0), .int (0), .int (0), .ref (q5), .ref (q18), .int (0), .int (0), .int (0), .int (0), .int (0)])), (q5, .inr (1, [.int (0), .int (0), .int (bI (false)), .int (bI (false)), .ref (va)])), (va, aI g 8 ((fun _ => 0))), (q18, aI g 16 (fun _ => 0))] H := hP
  have hD : va_D (fun q => q = a ∨ sz ≤ q) [(a, .inr (2, [.int (0), .null, .int (0), .int (0), .int (0), .ref (q5), .ref (q18), .int (0), .int (0), .int (0), .int (0), .int (0)])), (q5, .inr (1, [.int (0), .int (0), .int (bI (false)), .int (bI (false)), .ref (va)])), (va, aI g 8 ((fun _ => 0))), (q18, aI g 16 (fun _ => 0))] := hD
  refine lv_aload_n hx hb dX2_init_23 rfl (lv_at hl 0 rfl) ?_
  refine lv_iconst (v := (-1)) hx hb dX2_init_24 (by decide) ?_
  refine q_put C fp_X2_22 hP hD hS 0 rfl rfl rfl (Nat.le_of_ble_eq_true rfl) dX2_init_25 (fun H locs hP hD hS => ?_)
  have hP : va_P g.1 vwCl [(a, .inr (2, [.int (0), .null, .int (0), .int (0), .int (0), .ref (q5), .ref (q18), .int (0), .int (0), .int (0), .int ((-1)), .int (0)])), (q5, .inr (1, [.int (0), .int (0), .int (bI (false)), .int (bI (false)), .ref (va)])), (va, aI g 8 ((fun _ => 0))), (q18, aI g 16 (fun _ => 0))] H := hP
  have hD : va_D (fun q => q = a ∨ sz ≤ q) [(a, .inr (2, [.int (0), .null, .int (0), .int (0), .int (0), .ref (q5), .ref (q18), .int (0), .int (0), .int (0), .int ((-1)), .int (0)])), (q5, .inr (1, [.int (0), .int (0), .int (bI (false)), .int (bI (false)), .ref (va)])), (va, aI g 8 ((fun _ => 0))), (q18, aI g 16 (fun _ => 0))] := hD
  refine lv_aload_n hx hb dX2_init_28 rfl (lv_at hl 0 rfl) ?_
  refine lv_iconst (v := (-1)) hx hb dX2_init_29 (by decide) ?_
  refine q_put C fp_X2_26 hP hD hS 0 rfl rfl rfl (Nat.le_of_ble_eq_true rfl) dX2_init_30 (fun H locs hP hD hS => ?_)
  have hP : va_P g.1 vwCl [(a, .inr (2, [.int (0), .null, .int (0), .int (0), .int (0), .ref (q5), .ref (q18), .int (0), .int (0), .int (0), .int ((-1)), .int ((-1))])), (q5, .inr (1, [.int (0), .int (0), .int (bI (false)), .int (bI (false)), .ref (va)])), (va, aI g 8 ((fun _ => 0))), (q18, aI g 16 (fun _ => 0))] H := hP
  have hD : va_D (fun q => q = a ∨ sz ≤ q) [(a, .inr (2, [.int (0), .null, .int (0), .int (0), .int (0), .ref (q5), .ref (q18), .int (0), .int (0), .int (0), .int ((-1)), .int ((-1))])), (q5, .inr (1, [.int (0), .int (0), .int (bI (false)), .int (bI (false)), .ref (va)])), (va, aI g 8 ((fun _ => 0))), (q18, aI g 16 (fun _ => 0))] := hD
  refine lv_aload_n hx hb dX2_init_33 rfl (lv_at hl 0 rfl) ?_
  refine lv_iload_n hx hb dX2_init_34 rfl (lv_at hl 1 rfl) ?_
  refine q_putF C hnm fp_X2_29 hP hD hS 0 rfl rfl rfl (Nat.le_of_ble_eq_true rfl) dX2_init_35 (fun H locs hP hD hS => ?_)
  have hP : va_P g.1 vwCl [(a, .inr (2, [.int (k), .null, .int (0), .int (0), .int (0), .ref (q5), .ref (q18), .int (0), .int (0), .int (0), .int ((-1)), .int ((-1))])), (q5, .inr (1, [.int (0), .int (0), .int (bI (false)), .int (bI (false)), .ref (va)])), (va, aI g 8 ((fun _ => 0))), (q18, aI g 16 (fun _ => 0))] H := hP
  have hD : va_D (fun q => q = a ∨ sz ≤ q) [(a, .inr (2, [.int (k), .null, .int (0), .int (0), .int (0), .ref (q5), .ref (q18), .int (0), .int (0), .int (0), .int ((-1)), .int ((-1))])), (q5, .inr (1, [.int (0), .int (0), .int (bI (false)), .int (bI (false)), .ref (va)])), (va, aI g 8 ((fun _ => 0))), (q18, aI g 16 (fun _ => 0))] := hD
  refine lv_aload_n hx hb dX2_init_38 rfl (lv_at hl 0 rfl) ?_
  refine lv_aload_n hx hb dX2_init_39 rfl (lv_at hl 2 rfl) ?_
  refine q_putF C hnm fp_X2_32 hP hD hS 0 rfl rfl rfl (Nat.le_of_ble_eq_true rfl) dX2_init_40 (fun H locs hP hD hS => ?_)
  have hP : va_P g.1 vwCl [(a, .inr (2, [.int (k), .ref (ca), .int (0), .int (0), .int (0), .ref (q5), .ref (q18), .int (0), .int (0), .int (0), .int ((-1)), .int ((-1))])), (q5, .inr (1, [.int (0), .int (0), .int (bI (false)), .int (bI (false)), .ref (va)])), (va, aI g 8 ((fun _ => 0))), (q18, aI g 16 (fun _ => 0))] H := hP
  have hD : va_D (fun q => q = a ∨ sz ≤ q) [(a, .inr (2, [.int (k), .ref (ca), .int (0), .int (0), .int (0), .ref (q5), .ref (q18), .int (0), .int (0), .int (0), .int ((-1)), .int ((-1))])), (q5, .inr (1, [.int (0), .int (0), .int (bI (false)), .int (bI (false)), .ref (va)])), (va, aI g 8 ((fun _ => 0))), (q18, aI g 16 (fun _ => 0))] := hD
  refine lv_aload_n hx hb dX2_init_43 rfl (lv_at hl 0 rfl) ?_
  refine lv_iload_n hx hb dX2_init_44 rfl (lv_at hl 3 rfl) ?_
  refine q_putF C hnm fp_X2_36 hP hD hS 0 rfl rfl rfl (Nat.le_of_ble_eq_true rfl) dX2_init_45 (fun H locs hP hD hS => ?_)
  have hP : va_P g.1 vwCl [(a, .inr (2, [.int (k), .ref (ca), .int (st), .int (0), .int (0), .ref (q5), .ref (q18), .int (0), .int (0), .int (0), .int ((-1)), .int ((-1))])), (q5, .inr (1, [.int (0), .int (0), .int (bI (false)), .int (bI (false)), .ref (va)])), (va, aI g 8 ((fun _ => 0))), (q18, aI g 16 (fun _ => 0))] H := hP
  have hD : va_D (fun q => q = a ∨ sz ≤ q) [(a, .inr (2, [.int (k), .ref (ca), .int (st), .int (0), .int (0), .ref (q5), .ref (q18), .int (0), .int (0), .int (0), .int ((-1)), .int ((-1))])), (q5, .inr (1, [.int (0), .int (0), .int (bI (false)), .int (bI (false)), .ref (va)])), (va, aI g 8 ((fun _ => 0))), (q18, aI g 16 (fun _ => 0))] := hD
  refine lv_aload_n hx hb dX2_init_48 rfl (lv_at hl 0 rfl) ?_
  refine lv_iload hx hb dX2_init_49 (lv_at hl 4 rfl) ?_
  refine q_putF C hnm fp_X2_39 hP hD hS 0 rfl rfl rfl (Nat.le_of_ble_eq_true rfl) dX2_init_51 (fun H locs hP hD hS => ?_)
  have hP : va_P g.1 vwCl [(a, .inr (2, [.int (k), .ref (ca), .int (st), .int (sd), .int (0), .ref (q5), .ref (q18), .int (0), .int (0), .int (0), .int ((-1)), .int ((-1))])), (q5, .inr (1, [.int (0), .int (0), .int (bI (false)), .int (bI (false)), .ref (va)])), (va, aI g 8 ((fun _ => 0))), (q18, aI g 16 (fun _ => 0))] H := hP
  have hD : va_D (fun q => q = a ∨ sz ≤ q) [(a, .inr (2, [.int (k), .ref (ca), .int (st), .int (sd), .int (0), .ref (q5), .ref (q18), .int (0), .int (0), .int (0), .int ((-1)), .int ((-1))])), (q5, .inr (1, [.int (0), .int (0), .int (bI (false)), .int (bI (false)), .ref (va)])), (va, aI g 8 ((fun _ => 0))), (q18, aI g 16 (fun _ => 0))] := hD
  refine lv_aload_n hx hb dX2_init_54 rfl (lv_at hl 0 rfl) ?_
  refine lv_iload hx hb dX2_init_55 (lv_at hl 5 rfl) ?_
  refine q_putF C hnm fp_X2_42 hP hD hS 0 rfl rfl rfl (Nat.le_of_ble_eq_true rfl) dX2_init_57 (fun H locs hP hD hS => ?_)
  have hP : va_P g.1 vwCl [(a, .inr (2, [.int (k), .ref (ca), .int (st), .int (sd), .int (nI (tk)), .ref (q5), .ref (q18), .int (0), .int (0), .int (0), .int ((-1)), .int ((-1))])), (q5, .inr (1, [.int (0), .int (0), .int (bI (false)), .int (bI (false)), .ref (va)])), (va, aI g 8 ((fun _ => 0))), (q18, aI g 16 (fun _ => 0))] H := hP
  have hD : va_D (fun q => q = a ∨ sz ≤ q) [(a, .inr (2, [.int (k), .ref (ca), .int (st), .int (sd), .int (nI (tk)), .ref (q5), .ref (q18), .int (0), .int (0), .int (0), .int ((-1)), .int ((-1))])), (q5, .inr (1, [.int (0), .int (0), .int (bI (false)), .int (bI (false)), .ref (va)])), (va, aI g 8 ((fun _ => 0))), (q18, aI g 16 (fun _ => 0))] := hD
  exact r_wv C hr hlk hS (⟨rfl, q5, va, q18, by rw [← hsz]; exact hq5, by rw [← hsz]; exact Nat.le_trans hS0.1 hva, by rw [← hsz]; exact hq18, hP, hD⟩) dX2_init_60
theorem lt_nI {t : Int32} {n : Nat} (c1 : ¬ t < 0) (c2 : t < nI n) : ∃ j : Nat, j < n ∧ t = nI j := by
  obtain ⟨j, hj, rfl⟩ := nI_of c1
  refine ⟨j, ?_, rfl⟩
  rcases Nat.lt_or_ge j n with h | h
  · exact h
  · by_cases hn : n < 2 ^ 31
    · exact absurd c2 (fun q => (fa_of_lt q).2.1 (nI_le h hj))
    · omega
theorem in_j {j hi : Nat} (h : j ≤ hi) (hh : hi < 1000) : inR (nI j) 0 hi = true := inR_iff.mpr (by rw [nI_toInt (by omega)]; omega)
theorem inF {x : Int32} {lo hi : Int} (h : ¬ (lo ≤ x.toInt ∧ x.toInt ≤ hi)) : inR x lo hi = false := Bool.eq_false_iff.mpr (fun q => h (inR_iff.mp q))
set_option maxHeartbeats 4000000 in
set_option maxRecDepth 100000 in
theorem c3_setWord (l : Launch) (g : GG) (wo wa : Nat) (clk : Int32) (d : Nat → Int32) (xs : va_W) (A : Nat → Prop) (i x : Int32) (hD : va_D A ([(wo, .inr (3, [.ref (wa), .int (clk)])), (wa, aI g 8 d)] ++ xs)) : Met l yX3_setWord (.code yX3_setWord cX3_setWord 3 (some .boolean) :: wsL_law) ({ frames := 0, cells := 0, slots := 0, locals := 0 } : Room) (mP g [.ref (wo), .int (i), .int (x)] (fun H => va_P g.1 vwCl ([(wo, .inr (3, [.ref (wa), .int (clk)])), (wa, aI g 8 d)] ++ xs) H)) (mQ A (fun z H => z = some (.int (bI (inR i 0 7))) ∧ va_P g.1 vwCl ([(wo, .inr (3, [.ref (wa), .int (clk)])), (wa, aI g 8 ((if inR i 0 7 then upd d i.toNatClampNeg x else d)))] ++ xs) H)) 0 0 (A) := by
  refine mMet (by decide) (Nat.le_of_ble_eq_true rfl) ?_
  intro p e s m below meth c C hr hlk hnm hP ls hl
  have hx := C.1.1
  have hb := C.1.2.1
  have hl : lv_has ls 3 [(0, .ref (wo)), (1, .int (i)), (2, .int (x))] := hl
  have hS : va_S A s.heap s.heap [] := va_S.rf
  refine lv_iload_n hx hb dX3_setWord_0 rfl (lv_at hl 1 rfl) ?_
  refine lv_if_lt (tgt := 13) hx hb dX3_setWord_1 (by decide) (fun c1 => ?_) (fun c1 => ?_)
  · skip
    refine lv_iconst (v := 0) hx hb dX3_setWord_13 (by decide) ?_
    exact r_wz C hr hlk (by first | exact Or.inl rfl | exact Or.inr rfl | exact bI_or _) hS (⟨sv (bif0 (inF (by simp only [nI_toInt (show 8 < 2 ^ 31 by omega), fa_lt, fa_le, fa_eq, li_0, li_1, li_2, li_3, li_4, li_5, li_6, li_7, li_8, li_12, li_15, li_16, li_20, li_30, li_40, li_100, li_1000, li_65535, li_65536, li_1000000, li_m1] at c1; omega))), by rw [if_neg (by rw [inF (by simp only [nI_toInt (show 8 < 2 ^ 31 by omega), fa_lt, fa_le, fa_eq, li_0, li_1, li_2, li_3, li_4, li_5, li_6, li_7, li_8, li_12, li_15, li_16, li_20, li_30, li_40, li_100, li_1000, li_65535, li_65536, li_1000000, li_m1] at c1; omega)]; decide)]; exact hP⟩) dX3_setWord_14
  · skip
    refine lv_iload_n hx hb dX3_setWord_4 rfl (lv_at hl 1 rfl) ?_
    refine lv_aload_n hx hb dX3_setWord_5 rfl (lv_at hl 0 rfl) ?_
    refine q_get C f_X3_9 (hP) 0 rfl rfl dX3_setWord_6 ?_
    refine va_alen (v := nI 8) hx hb C.2.1 (hP) 1 0 rfl rfl rfl dX3_setWord_9 ?_
    refine lv_icmp_lt (tgt := 15) hx hb dX3_setWord_10 (by decide) (fun c10 => ?_) (fun c10 => ?_)
    · skip
      obtain ⟨j, hj, rfl⟩ := lt_nI c1 c10
      refine lv_aload_n hx hb dX3_setWord_15 rfl (lv_at hl 0 rfl) ?_
      refine q_get C f_X3_9 (hP) 0 rfl rfl dX3_setWord_16 ?_
      refine lv_iload_n hx hb dX3_setWord_19 rfl (lv_at hl 1 rfl) ?_
      refine lv_iload_n hx hb dX3_setWord_20 rfl (lv_at hl 2 rfl) ?_
      refine n_iast C hP hD hS 1 rfl (by omega) (by decide) dX3_setWord_21 (fun H locs hP hD hS => ?_)
      have hP : va_P g.1 vwCl ([(wo, .inr (3, [.ref (wa), .int (clk)])), (wa, aI g 8 (upd d j (x)))] ++ xs) H := hP
      have hD : va_D A ([(wo, .inr (3, [.ref (wa), .int (clk)])), (wa, aI g 8 (upd d j (x)))] ++ xs) := hD
      refine lv_iconst (v := 1) hx hb dX3_setWord_22 (by decide) ?_
      exact r_wz C hr hlk (by first | exact Or.inl rfl | exact Or.inr rfl | exact bI_or _) hS (⟨sv (bit1 (in_j (hi := 7) (by omega) (by omega))), by rw [if_pos (show inR (nI j) 0 7 = true from in_j (hi := 7) (by omega) (by omega)), nI_clamp (by omega)]; exact hP⟩) dX3_setWord_23
    · skip
      refine lv_iconst (v := 0) hx hb dX3_setWord_13 (by decide) ?_
      exact r_wz C hr hlk (by first | exact Or.inl rfl | exact Or.inr rfl | exact bI_or _) hS (⟨sv (bif0 (inF (by simp only [nI_toInt (show 8 < 2 ^ 31 by omega), fa_lt, fa_le, fa_eq, li_0, li_1, li_2, li_3, li_4, li_5, li_6, li_7, li_8, li_12, li_15, li_16, li_20, li_30, li_40, li_100, li_1000, li_65535, li_65536, li_1000000, li_m1] at c1 c10; omega))), by rw [if_neg (by rw [inF (by simp only [nI_toInt (show 8 < 2 ^ 31 by omega), fa_lt, fa_le, fa_eq, li_0, li_1, li_2, li_3, li_4, li_5, li_6, li_7, li_8, li_12, li_15, li_16, li_20, li_30, li_40, li_100, li_1000, li_65535, li_65536, li_1000000, li_m1] at c1 c10; omega)]; decide)]; exact hP⟩) dX3_setWord_14
set_option maxHeartbeats 4000000 in
set_option maxRecDepth 100000 in
theorem c2_comeOf (l : Launch) (g : GG) (a ca na ra tk nr : Nat) (k st sd og ot : Int32) (br cnt : Bool) (xs : va_W) (A : Nat → Prop) (r t : Int32) (hD : va_D A ([(a, .inr (2, [.int (k), .ref (ca), .int (st), .int (sd), .int (nI (tk)), .ref (na), .ref (ra), .int (nI (nr)), .int (bI (br)), .int (bI (cnt)), .int (og), .int (ot)]))] ++ xs)) : Met l yX2_comeOf (.code yX2_comeOf cX2_comeOf 3 none :: wsL_law) ({ frames := 0, cells := 0, slots := 0, locals := 0 } : Room) (mP g [.ref (a), .int (r), .int (t)] (fun H => va_P g.1 vwCl ([(a, .inr (2, [.int (k), .ref (ca), .int (st), .int (sd), .int (nI (tk)), .ref (na), .ref (ra), .int (nI (nr)), .int (bI (br)), .int (bI (cnt)), .int (og), .int (ot)]))] ++ xs) H)) (mQ A (fun z H => z = none ∧ va_P g.1 vwCl ([(a, .inr (2, [.int (k), .ref (ca), .int (st), .int (sd), .int (nI (tk)), .ref (na), .ref (ra), .int (nI (nr)), .int (bI (br)), .int (bI (cnt)), .int (r), .int (t)]))] ++ xs) H)) 0 0 (A) := by
  refine mMet (by decide) (Nat.le_of_ble_eq_true rfl) ?_
  intro p e s m below meth c C hr hlk hnm hP ls hl
  have hx := C.1.1
  have hb := C.1.2.1
  have hl : lv_has ls 3 [(0, .ref (a)), (1, .int (r)), (2, .int (t))] := hl
  have hS : va_S A s.heap s.heap [] := va_S.rf
  refine lv_aload_n hx hb dX2_comeOf_0 rfl (lv_at hl 0 rfl) ?_
  refine lv_iload_n hx hb dX2_comeOf_1 rfl (lv_at hl 1 rfl) ?_
  refine q_put C fp_X2_22 hP hD hS 0 rfl rfl rfl (Nat.le_of_ble_eq_true rfl) dX2_comeOf_2 (fun H locs hP hD hS => ?_)
  have hP : va_P g.1 vwCl ([(a, .inr (2, [.int (k), .ref (ca), .int (st), .int (sd), .int (nI (tk)), .ref (na), .ref (ra), .int (nI (nr)), .int (bI (br)), .int (bI (cnt)), .int (r), .int (ot)]))] ++ xs) H := hP
  have hD : va_D A ([(a, .inr (2, [.int (k), .ref (ca), .int (st), .int (sd), .int (nI (tk)), .ref (na), .ref (ra), .int (nI (nr)), .int (bI (br)), .int (bI (cnt)), .int (r), .int (ot)]))] ++ xs) := hD
  refine lv_aload_n hx hb dX2_comeOf_5 rfl (lv_at hl 0 rfl) ?_
  refine lv_iload_n hx hb dX2_comeOf_6 rfl (lv_at hl 2 rfl) ?_
  refine q_put C fp_X2_26 hP hD hS 0 rfl rfl rfl (Nat.le_of_ble_eq_true rfl) dX2_comeOf_7 (fun H locs hP hD hS => ?_)
  have hP : va_P g.1 vwCl ([(a, .inr (2, [.int (k), .ref (ca), .int (st), .int (sd), .int (nI (tk)), .ref (na), .ref (ra), .int (nI (nr)), .int (bI (br)), .int (bI (cnt)), .int (r), .int (t)]))] ++ xs) H := hP
  have hD : va_D A ([(a, .inr (2, [.int (k), .ref (ca), .int (st), .int (sd), .int (nI (tk)), .ref (na), .ref (ra), .int (nI (nr)), .int (bI (br)), .int (bI (cnt)), .int (r), .int (t)]))] ++ xs) := hD
  exact r_wv C hr hlk hS (⟨rfl, hP⟩) dX2_comeOf_10
set_option maxHeartbeats 4000000 in
set_option maxRecDepth 100000 in
theorem c2_takeRows (l : Launch) (g : GG) (a ca na ra tk : Nat) (k st sd og ot : Int32) (br cnt : Bool) (w : Nat → Int32) (xs : va_W) (A : Nat → Prop) (b t : Nat) (σ : RunT) (cn2 : Bool) (h16 : (rRow σ).length ≤ 16) (ht : t ≤ (rRow σ).length) (hD : va_D A ([(a, .inr (2, [.int (k), .ref (ca), .int (st), .int (sd), .int (nI (tk)), .ref (na), .ref (ra), .int (nI (0)), .int (bI (br)), .int (bI (cnt)), .int (og), .int (ot)])), (ra, aI g 16 w)] ++ xs)) : Met l yX2_takeRows (.code yX2_takeRows cX2_takeRows 4 none :: wsL_law) ({ frames := 1, cells := 0, slots := 0, locals := 21 } : Room) (mP g [.ref (a), .ref (b), .int (nI (t))] (fun H => va_P g.1 vwCl ([(a, .inr (2, [.int (k), .ref (ca), .int (st), .int (sd), .int (nI (tk)), .ref (na), .ref (ra), .int (nI (0)), .int (bI (br)), .int (bI (cnt)), .int (og), .int (ot)])), (ra, aI g 16 w)] ++ xs) H ∧ RunF g A σ cn2 b H)) (mQ A (fun z H => z = none ∧ ∃ w1 : Nat → Int32, (∀ j, j < t → w1 j = (rRow σ).getD j 0) ∧ va_P g.1 vwCl ([(a, .inr (2, [.int (k), .ref (ca), .int (st), .int (sd), .int (nI (tk)), .ref (na), .ref (ra), .int (nI (t)), .int (bI (br)), .int (bI (cnt)), .int (og), .int (ot)])), (ra, aI g 16 w1)] ++ xs) H)) 0 0 (A) := by
  refine mMet (by decide) (Nat.le_of_ble_eq_true rfl) ?_
  intro p e s m below meth c C hr hlk hnm hP ls hl
  have hx := C.1.1
  have hb := C.1.2.1
  have hl : lv_has ls 4 [(0, .ref (a)), (1, .ref (b)), (2, .int (nI (t)))] := hl
  have hS : va_S A s.heap s.heap [] := va_S.rf
  obtain ⟨hP, hF0⟩ := hP
  have hD0 := hD
  refine lv_iconst (v := nI 0) hx hb dX2_takeRows_0 (by decide) ?_
  refine lv_istore_n (lv' := [(3, .int (nI (0))), (0, .ref (a)), (1, .ref (b)), (2, .int (nI (t)))]) hx hb dX2_takeRows_1 rfl hl (by decide) rfl (fun ls hl => ?_)
  have lp : ∀ (n_lp : Nat) (i : Nat) (w1 : Nat → Int32) (H : Heap) (locs : List Loc) (ls : Array Slot), (i ≤ t) → (t + 1 ≤ i + n_lp) → (va_P g.1 vwCl ([(a, .inr (2, [.int (k), .ref (ca), .int (st), .int (sd), .int (nI (tk)), .ref (na), .ref (ra), .int (nI (i)), .int (bI (br)), .int (bI (cnt)), .int (og), .int (ot)])), (ra, aI g 16 w1)] ++ xs) H) → (va_S A s.heap H locs) → (∀ j, j < i → w1 j = (rRow σ).getD j 0) → lv_has ls 4 [(0, .ref (a)), (1, .ref (b)), (2, .int (nI (t))), (3, .int (nI (i)))] → W p l e ({ frames := 1, cells := 0, slots := 0, locals := 21 } : Room) s m ([.ref (a), .ref (b), .int (nI (t))] : List Value).toArray below meth c H locs 0 0 (MQ below (mQ A (fun z H => z = none ∧ ∃ w1 : Nat → Int32, (∀ j, j < t → w1 j = (rRow σ).getD j 0) ∧ va_P g.1 vwCl ([(a, .inr (2, [.int (k), .ref (ca), .int (st), .int (sd), .int (nI (tk)), .ref (na), .ref (ra), .int (nI (t)), .int (bI (br)), .int (bI (cnt)), .int (og), .int (ot)])), (ra, aI g 16 w1)] ++ xs) H)) (([.ref (a), .ref (b), .int (nI (t))] : List Value).toArray) s 0 0 (A)) (F0 m 2 ls []) := by
    intro n_lp
    induction n_lp with
    | zero =>
      intro i w1 H locs ls hi hn hP hS hw
      exact absurd hn (by omega)
    | succ n_lp ih_lp =>
      intro i w1 H locs ls hi hn hP hS hw hl
      have hD : va_D A ([(a, .inr (2, [.int (k), .ref (ca), .int (st), .int (sd), .int (nI (tk)), .ref (na), .ref (ra), .int (nI (i)), .int (bI (br)), .int (bI (cnt)), .int (og), .int (ot)])), (ra, aI g 16 w1)] ++ xs) := va_D_addr (ws := [(a, .inr (2, [.int (k), .ref (ca), .int (st), .int (sd), .int (nI (tk)), .ref (na), .ref (ra), .int (nI (0)), .int (bI (br)), .int (bI (cnt)), .int (og), .int (ot)])), (ra, aI g 16 w)] ++ xs) rfl hD0
      refine lv_iload_n hx hb dX2_takeRows_2 rfl (lv_at hl 3 rfl) ?_
      refine lv_iload_n hx hb dX2_takeRows_3 rfl (lv_at hl 2 rfl) ?_
      refine n_icmp_ge (tgt := 40) C (by omega) (by omega) dX2_takeRows_4 (by decide) (fun c4 => ?_) (fun c4 => ?_)
      · skip
        exact r_wv C hr hlk hS (⟨rfl, w1, fun j hj => hw j (by omega), by rw [show t = i by omega]; exact hP⟩) dX2_takeRows_40
      · skip
        refine lv_iload_n hx hb dX2_takeRows_7 rfl (lv_at hl 3 rfl) ?_
        refine lv_aload_n hx hb dX2_takeRows_8 rfl (lv_at hl 0 rfl) ?_
        refine q_get C f_X2_18 (hP) 0 rfl rfl dX2_takeRows_9 ?_
        refine va_alen (v := nI 16) hx hb C.2.1 (hP) 1 0 rfl rfl rfl dX2_takeRows_12 ?_
        refine n_icmp_ge (tgt := 40) C (by omega) (by omega) dX2_takeRows_13 (by decide) (fun c13 => by exfalso; omega) (fun c13 => ?_)
        refine lv_aload_n hx hb dX2_takeRows_16 rfl (lv_at hl 0 rfl) ?_
        refine q_get C f_X2_18 (hP) 0 rfl rfl dX2_takeRows_17 ?_
        refine lv_iload_n hx hb dX2_takeRows_20 rfl (lv_at hl 3 rfl) ?_
        refine lv_aload_n hx hb dX2_takeRows_21 rfl (lv_at hl 1 rfl) ?_
        refine lv_iload_n hx hb dX2_takeRows_22 rfl (lv_at hl 3 rfl) ?_
        refine k_i (c_V (As := [.int (nI (i))]) (rest := [.int (nI (i)), .ref (ra)]) C v_X2_45 (c2_rowAt l g b σ cn2 h16 ((nI (i)))) ⟨Nat.le_of_ble_eq_true rfl, Nat.le_of_ble_eq_true rfl⟩ (run_recv C (hF0.keep hS (fun _ _ hq => hq)).run) ((hF0.keep hS (fun _ _ hq => hq)).run) hl.1 rfl rfl (Nat.le_of_ble_eq_true rfl) dX2_takeRows_23 ⟨Nat.le_of_ble_eq_true rfl, Nat.le_of_ble_eq_true rfl⟩) (fun r23 q23 => ?_)
        subst q23
        refine n_iast C hP hD hS 1 rfl (by omega) (by decide) dX2_takeRows_26 (fun H locs hP hD hS => ?_)
        have hP : va_P g.1 vwCl ([(a, .inr (2, [.int (k), .ref (ca), .int (st), .int (sd), .int (nI (tk)), .ref (na), .ref (ra), .int (nI (i)), .int (bI (br)), .int (bI (cnt)), .int (og), .int (ot)])), (ra, aI g 16 (upd w1 i (rowI σ ((nI (i))))))] ++ xs) H := hP
        have hD : va_D A ([(a, .inr (2, [.int (k), .ref (ca), .int (st), .int (sd), .int (nI (tk)), .ref (na), .ref (ra), .int (nI (i)), .int (bI (br)), .int (bI (cnt)), .int (og), .int (ot)])), (ra, aI g 16 (upd w1 i (rowI σ ((nI (i))))))] ++ xs) := hD
        refine lv_aload_n hx hb dX2_takeRows_27 rfl (lv_at hl 0 rfl) ?_
        refine lv_iload_n hx hb dX2_takeRows_28 rfl (lv_at hl 3 rfl) ?_
        refine lv_iconst (v := nI 1) hx hb dX2_takeRows_29 (by decide) ?_
        refine n_iadd C dX2_takeRows_30 ?_
        refine q_put C fp_X2_49 hP hD hS 0 rfl rfl rfl (Nat.le_of_ble_eq_true rfl) dX2_takeRows_31 (fun H locs hP hD hS => ?_)
        have hP : va_P g.1 vwCl ([(a, .inr (2, [.int (k), .ref (ca), .int (st), .int (sd), .int (nI (tk)), .ref (na), .ref (ra), .int (nI (i + 1)), .int (bI (br)), .int (bI (cnt)), .int (og), .int (ot)])), (ra, aI g 16 (upd w1 i (rowI σ ((nI (i))))))] ++ xs) H := hP
        have hD : va_D A ([(a, .inr (2, [.int (k), .ref (ca), .int (st), .int (sd), .int (nI (tk)), .ref (na), .ref (ra), .int (nI (i + 1)), .int (bI (br)), .int (bI (cnt)), .int (og), .int (ot)])), (ra, aI g 16 (upd w1 i (rowI σ ((nI (i))))))] ++ xs) := hD
        refine n_iinc (d := 1) (lv' := [(3, .int (nI (i + 1))), (0, .ref (a)), (1, .ref (b)), (2, .int (nI (t)))]) C dX2_takeRows_34 (by decide) hl (k := 3) rfl (by decide) rfl (fun ls hl => ?_)
        refine lv_goto (tgt := 2) hx hb dX2_takeRows_37 (by decide) ?_
        exact ih_lp (i + 1) (upd w1 i (rowI σ (nI i))) (H) (locs) ls (by omega) (by omega) (hP) (hS) (lt_s1 (p := fun j => upd w1 i (rowI σ (nI i)) j = (rRow σ).getD j 0) (fun j hj => by rw [pk_un (by omega)]; exact hw j hj) (by rw [pk_us, rowI_nI (by omega) h16])) (lv_sub hl [1, 2, 3, 0] rfl)
  exact lp (t + 1) (0) (w) (s.heap) ([]) ls (by omega) (by omega) (hP) (hS) (fun j hj => absurd hj (by omega)) (lv_sub hl [1, 2, 3, 0] rfl)
def wM8 (x : Int32) : Nat → Int32
  | 0 => 0
  | n + 1 => if hasB x n then wM8 x n ||| bitI n else wM8 x n
theorem wM8_255 : ∀ n, n < 256 → wM8 (nI n) 8 = nI n := by decide +kernel
theorem w8_nI {x : Int32} (h : x &&& 255 = x) : ∃ n : Nat, n < 256 ∧ x = nI n := by
  rw [pk_and _ 8 (by decide)] at h
  exact ⟨_, Nat.mod_lt _ (by decide), h.symm⟩
theorem wM8_of {x : Int32} (h : x &&& 255 = x) : wM8 x 8 = x := by
  obtain ⟨n, hn, rfl⟩ := w8_nI h
  exact wM8_255 n hn
set_option maxHeartbeats 4000000 in
set_option maxRecDepth 100000 in
theorem c1_addAll (l : Launch) (g : GG) (na va nb vb : Nat) (rs rw : Int32) (sb cb : Bool) (v v2 : Nat → Int32) (xs : va_W) (A : Nat → Prop) (σ : RunT) (h255 : rRW σ &&& 255 = rRW σ) (n1 : ¬ A nb) (n2 : ¬ A vb) (hD : va_D A ([(na, .inr (1, [.int (rs), .int (rw), .int (bI (sb)), .int (bI (cb)), .ref (va)])), (va, aI g 8 v)] ++ xs)) : Met l yX1_addAll (.code yX1_addAll cX1_addAll 3 none :: wsL_law) ({ frames := 1, cells := 0, slots := 0, locals := 22 } : Room) (mP g [.ref (na), .ref (nb)] (fun H => va_P g.1 vwCl ([(na, .inr (1, [.int (rs), .int (rw), .int (bI (sb)), .int (bI (cb)), .ref (va)])), (va, aI g 8 v)] ++ xs) H ∧ va_P g.1 vwCl [(nb, .inr (1, [.int (rRS σ), .int (rRW σ), .int (bI (rSd σ)), .int (bI (rCk σ)), .ref (vb)])), (vb, aI g 8 v2)] H)) (mQ A (fun z H => z = none ∧ ∃ v1 : Nat → Int32, (∀ j, j < 8 → v1 j = if hasB (rRW σ) j then v2 j else v j) ∧ va_P g.1 vwCl ([(na, .inr (1, [.int (rs ||| rRS σ), .int (rw ||| rRW σ), .int (bI (sb || rSd σ)), .int (bI (cb || rCk σ)), .ref (va)])), (va, aI g 8 v1)] ++ xs) H)) 0 0 (A) := by
  refine mMet (by decide) (Nat.le_of_ble_eq_true rfl) ?_
  intro p e s m below meth c C hr hlk hnm hP ls hl
  have hx := C.1.1
  have hb := C.1.2.1
  have hl : lv_has ls 3 [(0, .ref (na)), (1, .ref (nb))] := hl
  have hS : va_S A s.heap s.heap [] := va_S.rf
  obtain ⟨hP, hN0⟩ := hP
  have hD0 := hD
  refine lv_aload_n hx hb dX1_addAll_0 rfl (lv_at hl 0 rfl) ?_
  refine lv_dup hx hb dX1_addAll_1 rfl ?_
  refine q_get C f_X1_19 (hP) 0 rfl rfl dX1_addAll_2 ?_
  refine lv_aload_n hx hb dX1_addAll_5 rfl (lv_at hl 1 rfl) ?_
  refine q_get C f_X1_19 ((S_keep hS hN0 (two_n n1 n2))) 0 rfl rfl dX1_addAll_6 ?_
  refine lv_ior hx hb dX1_addAll_9 ?_
  refine q_put C fp_X1_19 hP hD hS 0 rfl rfl rfl (Nat.le_of_ble_eq_true rfl) dX1_addAll_10 (fun H locs hP hD hS => ?_)
  have hP : va_P g.1 vwCl ([(na, .inr (1, [.int ((rs) ||| (rRS σ)), .int (rw), .int (bI (sb)), .int (bI (cb)), .ref (va)])), (va, aI g 8 v)] ++ xs) H := hP
  have hD : va_D A ([(na, .inr (1, [.int ((rs) ||| (rRS σ)), .int (rw), .int (bI (sb)), .int (bI (cb)), .ref (va)])), (va, aI g 8 v)] ++ xs) := hD
  have ja : ∀ (w0 : Bool) (ls : Array Slot), (w0 = (sb || rSd σ)) → lv_has ls 3 [(0, .ref (na)), (1, .ref (nb))] → W p l e ({ frames := 1, cells := 0, slots := 0, locals := 22 } : Room) s m ([.ref (na), .ref (nb)] : List Value).toArray below meth c H locs 0 0 (MQ below (mQ A (fun z H => z = none ∧ ∃ v1 : Nat → Int32, (∀ j, j < 8 → v1 j = if hasB (rRW σ) j then v2 j else v j) ∧ va_P g.1 vwCl ([(na, .inr (1, [.int (rs ||| rRS σ), .int (rw ||| rRW σ), .int (bI (sb || rSd σ)), .int (bI (cb || rCk σ)), .ref (va)])), (va, aI g 8 v1)] ++ xs) H)) (([.ref (na), .ref (nb)] : List Value).toArray) s 0 0 (A)) (F0 m 33 ls [.int (bI (w0)), .ref (na)]) := by
    intro w0 ls hw0 hl
    subst hw0
    refine q_put C fp_X1_22 hP hD hS 0 rfl (fits01 (by first | exact Or.inl rfl | exact Or.inr rfl | exact bI_or _)).1 (fits01 (by first | exact Or.inl rfl | exact Or.inr rfl | exact bI_or _)).2.1 (Nat.le_of_ble_eq_true rfl) dX1_addAll_33 (fun H locs hP hD hS => ?_)
    have hP : va_P g.1 vwCl ([(na, .inr (1, [.int ((rs) ||| (rRS σ)), .int (rw), .int (bI (sb || rSd σ)), .int (bI (cb)), .ref (va)])), (va, aI g 8 v)] ++ xs) H := hP
    have hD : va_D A ([(na, .inr (1, [.int ((rs) ||| (rRS σ)), .int (rw), .int (bI (sb || rSd σ)), .int (bI (cb)), .ref (va)])), (va, aI g 8 v)] ++ xs) := hD
    have jb : ∀ (w1 : Bool) (ls : Array Slot), (w1 = (cb || rCk σ)) → lv_has ls 3 [(0, .ref (na)), (1, .ref (nb))] → W p l e ({ frames := 1, cells := 0, slots := 0, locals := 22 } : Room) s m ([.ref (na), .ref (nb)] : List Value).toArray below meth c H locs 0 0 (MQ below (mQ A (fun z H => z = none ∧ ∃ v1 : Nat → Int32, (∀ j, j < 8 → v1 j = if hasB (rRW σ) j then v2 j else v j) ∧ va_P g.1 vwCl ([(na, .inr (1, [.int (rs ||| rRS σ), .int (rw ||| rRW σ), .int (bI (sb || rSd σ)), .int (bI (cb || rCk σ)), .ref (va)])), (va, aI g 8 v1)] ++ xs) H)) (([.ref (na), .ref (nb)] : List Value).toArray) s 0 0 (A)) (F0 m 56 ls [.int (bI (w1)), .ref (na)]) := by
      intro w1 ls hw1 hl
      subst hw1
      refine q_put C fp_X1_26 hP hD hS 0 rfl (fits01 (by first | exact Or.inl rfl | exact Or.inr rfl | exact bI_or _)).1 (fits01 (by first | exact Or.inl rfl | exact Or.inr rfl | exact bI_or _)).2.1 (Nat.le_of_ble_eq_true rfl) dX1_addAll_56 (fun H locs hP hD hS => ?_)
      have hP : va_P g.1 vwCl ([(na, .inr (1, [.int ((rs) ||| (rRS σ)), .int (rw), .int (bI (sb || rSd σ)), .int (bI (cb || rCk σ)), .ref (va)])), (va, aI g 8 v)] ++ xs) H := hP
      have hD : va_D A ([(na, .inr (1, [.int ((rs) ||| (rRS σ)), .int (rw), .int (bI (sb || rSd σ)), .int (bI (cb || rCk σ)), .ref (va)])), (va, aI g 8 v)] ++ xs) := hD
      refine lv_iconst (v := nI 0) hx hb dX1_addAll_59 (by decide) ?_
      refine lv_istore_n (lv' := [(2, .int (nI (0))), (0, .ref (na)), (1, .ref (nb))]) hx hb dX1_addAll_60 rfl hl (by decide) rfl (fun ls hl => ?_)
      have lp : ∀ (n_lp : Nat) (i : Nat) (v1 : Nat → Int32) (H : Heap) (locs : List Loc) (ls : Array Slot), (i ≤ 8) → (8 + 1 ≤ i + n_lp) → (va_P g.1 vwCl ([(na, .inr (1, [.int (rs ||| rRS σ), .int (rw ||| wM8 (rRW σ) i), .int (bI (sb || rSd σ)), .int (bI (cb || rCk σ)), .ref (va)])), (va, aI g 8 v1)] ++ xs) H) → (va_S A s.heap H locs) → (∀ j, j < i → v1 j = if hasB (rRW σ) j then v2 j else v j) → (∀ j, i ≤ j → j < 8 → v1 j = v j) → lv_has ls 3 [(0, .ref (na)), (1, .ref (nb)), (2, .int (nI (i)))] → W p l e ({ frames := 1, cells := 0, slots := 0, locals := 22 } : Room) s m ([.ref (na), .ref (nb)] : List Value).toArray below meth c H locs 0 0 (MQ below (mQ A (fun z H => z = none ∧ ∃ v1 : Nat → Int32, (∀ j, j < 8 → v1 j = if hasB (rRW σ) j then v2 j else v j) ∧ va_P g.1 vwCl ([(na, .inr (1, [.int (rs ||| rRS σ), .int (rw ||| rRW σ), .int (bI (sb || rSd σ)), .int (bI (cb || rCk σ)), .ref (va)])), (va, aI g 8 v1)] ++ xs) H)) (([.ref (na), .ref (nb)] : List Value).toArray) s 0 0 (A)) (F0 m 61 ls []) := by
        intro n_lp
        induction n_lp with
        | zero =>
          intro i v1 H locs ls hi hn hP hS hv hu
          exact absurd hn (by omega)
        | succ n_lp ih_lp =>
          intro i v1 H locs ls hi hn hP hS hv hu hl
          have hD : va_D A ([(na, .inr (1, [.int (rs ||| rRS σ), .int (rw ||| wM8 (rRW σ) i), .int (bI (sb || rSd σ)), .int (bI (cb || rCk σ)), .ref (va)])), (va, aI g 8 v1)] ++ xs) := va_D_addr (ws := [(na, .inr (1, [.int (rs), .int (rw), .int (bI (sb)), .int (bI (cb)), .ref (va)])), (va, aI g 8 v)] ++ xs) rfl hD0
          refine lv_iload_n hx hb dX1_addAll_61 rfl (lv_at hl 2 rfl) ?_
          refine lv_aload_n hx hb dX1_addAll_62 rfl (lv_at hl 1 rfl) ?_
          refine q_get C f_X1_9 ((S_keep hS hN0 (two_n n1 n2))) 0 rfl rfl dX1_addAll_63 ?_
          refine va_alen (v := nI 8) hx hb C.2.1 ((S_keep hS hN0 (two_n n1 n2))) 1 0 rfl rfl rfl dX1_addAll_66 ?_
          refine n_icmp_ge (tgt := 98) C (by omega) (by omega) dX1_addAll_67 (by decide) (fun c67 => ?_) (fun c67 => ?_)
          · skip
            exact r_wv C hr hlk hS (⟨rfl, v1, fun j hj => hv j (by omega), by rw [show i = 8 by omega, wM8_of h255] at hP; exact hP⟩) dX1_addAll_98
          · skip
            refine lv_iload_n hx hb dX1_addAll_70 rfl (lv_at hl 2 rfl) ?_
            refine lv_aload_n hx hb dX1_addAll_71 rfl (lv_at hl 1 rfl) ?_
            refine q_get C f_X1_15 ((S_keep hS hN0 (two_n n1 n2))) 0 rfl rfl dX1_addAll_72 ?_
            refine k_i (c_SN (As := [.int (nI (i)), .int (rRW σ)]) (rest := []) C v_X1_29 (inr_10 _ (List.mem_of_getElem? (i := 22) rfl)) (c4_isIn l g i (rRW σ)) ⟨Nat.le_of_ble_eq_true rfl, Nat.le_of_ble_eq_true rfl⟩ (trivial) hl.1 rfl rfl (Nat.le_of_ble_eq_true rfl) dX1_addAll_75 ⟨Nat.le_of_ble_eq_true rfl, Nat.le_of_ble_eq_true rfl⟩) (fun r75 q75 => ?_)
            subst q75
            refine b_ifeq (tgt := 92) C dX1_addAll_78 (by decide) (fun c78 => ?_) (fun c78 => ?_)
            · skip
              refine n_iinc (d := 1) (lv' := [(2, .int (nI (i + 1))), (0, .ref (na)), (1, .ref (nb))]) C dX1_addAll_92 (by decide) hl (k := 2) rfl (by decide) rfl (fun ls hl => ?_)
              refine lv_goto (tgt := 61) hx hb dX1_addAll_95 (by decide) ?_
              exact ih_lp (i + 1) (v1) (H) (locs) ls (by omega) (by omega) (by rw [wM8, if_neg (by rw [c78]; decide)]; exact hP) (hS) (lt_s1 (p := fun j => v1 j = if hasB (rRW σ) j then v2 j else v j) hv (by rw [c78]; exact hu i (Nat.le_refl _) (by omega))) (fun j h1 h2 => hu j (by omega) h2) (lv_sub hl [1, 2, 0] rfl)
            · skip
              refine lv_aload_n hx hb dX1_addAll_81 rfl (lv_at hl 0 rfl) ?_
              refine lv_iload_n hx hb dX1_addAll_82 rfl (lv_at hl 2 rfl) ?_
              refine lv_aload_n hx hb dX1_addAll_83 rfl (lv_at hl 1 rfl) ?_
              refine q_get C f_X1_9 ((S_keep hS hN0 (two_n n1 n2))) 0 rfl rfl dX1_addAll_84 ?_
              refine lv_iload_n hx hb dX1_addAll_87 rfl (lv_at hl 2 rfl) ?_
              refine n_iald C ((S_keep hS hN0 (two_n n1 n2))) 1 rfl (by omega) (by decide) dX1_addAll_88 ?_
              refine k_w (c_V (As := [.int (nI (i)), .int (v2 i)]) (rest := []) C v_X1_33 (c1_addWord l g na va (rs ||| rRS σ) (rw ||| wM8 (rRW σ) i) (sb || rSd σ) (cb || rCk σ) v1 xs A i (v2 i) (by omega) hD) ⟨Nat.le_of_ble_eq_true rfl, Nat.le_of_ble_eq_true rfl⟩ (q_recv C hP 0 rfl rfl) (hP) hl.1 rfl rfl (Nat.le_of_ble_eq_true rfl) dX1_addAll_89 ⟨Nat.le_of_ble_eq_true rfl, Nat.le_of_ble_eq_true rfl⟩) hS (fun _ hq => hq) (fun r89 H1 locs q89 hz89 hk89 hS => ?_)
              obtain ⟨rfl, hP⟩ := q89
              refine W.eq (g2 := F0 m 92 ls []) rfl ?_
              refine n_iinc (d := 1) (lv' := [(2, .int (nI (i + 1))), (0, .ref (na)), (1, .ref (nb))]) C dX1_addAll_92 (by decide) hl (k := 2) rfl (by decide) rfl (fun ls hl => ?_)
              refine lv_goto (tgt := 61) hx hb dX1_addAll_95 (by decide) ?_
              exact ih_lp (i + 1) (upd v1 i (v2 i)) (H1) (locs) ls (by omega) (by omega) (by rw [wM8, if_pos c78, ← or_as]; exact hP) (hS) (lt_s1 (p := fun j => upd v1 i (v2 i) j = if hasB (rRW σ) j then v2 j else v j) (fun j hj => by rw [pk_un (by omega)]; exact hv j hj) (by rw [pk_us, if_pos c78])) (fun j h1 h2 => by rw [pk_un (by omega)]; exact hu j (by omega) h2) (lv_sub hl [1, 2, 0] rfl)
      exact lp (9) (0) (v) (H) (locs) ls (by omega) (by omega) (by rw [wM8, or_0]; exact hP) (hS) (fun j hj => absurd hj (by omega)) (fun j _ _ => rfl) (lv_sub hl [1, 2, 0] rfl)
    refine lv_aload_n hx hb dX1_addAll_36 rfl (lv_at hl 0 rfl) ?_
    refine lv_aload_n hx hb dX1_addAll_37 rfl (lv_at hl 0 rfl) ?_
    refine q_get C f_X1_26 (hP) 0 rfl rfl dX1_addAll_38 ?_
    refine b_ifne (tgt := 51) C dX1_addAll_41 (by decide) (fun c41 => ?_) (fun c41 => ?_)
    · skip
      refine lv_iconst (v := bI true) hx hb dX1_addAll_51 (by decide) ?_
      refine lv_goto (tgt := 56) hx hb dX1_addAll_52 (by decide) ?_
      exact jb (true) ls (by rw [c41]; rfl) (lv_sub hl [0, 1] rfl)
    · skip
      refine lv_aload_n hx hb dX1_addAll_44 rfl (lv_at hl 1 rfl) ?_
      refine q_get C f_X1_26 ((S_keep hS hN0 (two_n n1 n2))) 0 rfl rfl dX1_addAll_45 ?_
      refine b_ifeq (tgt := 55) C dX1_addAll_48 (by decide) (fun c48 => ?_) (fun c48 => ?_)
      · skip
        refine lv_iconst (v := bI false) hx hb dX1_addAll_55 (by decide) ?_
        exact jb (false) ls (by rw [c41, c48]; rfl) (lv_sub hl [0, 1] rfl)
      · skip
        refine lv_iconst (v := bI true) hx hb dX1_addAll_51 (by decide) ?_
        refine lv_goto (tgt := 56) hx hb dX1_addAll_52 (by decide) ?_
        exact jb (true) ls (by rw [c41, c48]; rfl) (lv_sub hl [0, 1] rfl)
  refine lv_aload_n hx hb dX1_addAll_13 rfl (lv_at hl 0 rfl) ?_
  refine lv_aload_n hx hb dX1_addAll_14 rfl (lv_at hl 0 rfl) ?_
  refine q_get C f_X1_22 (hP) 0 rfl rfl dX1_addAll_15 ?_
  refine b_ifne (tgt := 28) C dX1_addAll_18 (by decide) (fun c18 => ?_) (fun c18 => ?_)
  · skip
    refine lv_iconst (v := bI true) hx hb dX1_addAll_28 (by decide) ?_
    refine lv_goto (tgt := 33) hx hb dX1_addAll_29 (by decide) ?_
    exact ja (true) ls (by rw [c18]; rfl) (lv_sub hl [0, 1] rfl)
  · skip
    refine lv_aload_n hx hb dX1_addAll_21 rfl (lv_at hl 1 rfl) ?_
    refine q_get C f_X1_22 ((S_keep hS hN0 (two_n n1 n2))) 0 rfl rfl dX1_addAll_22 ?_
    refine b_ifeq (tgt := 32) C dX1_addAll_25 (by decide) (fun c25 => ?_) (fun c25 => ?_)
    · skip
      refine lv_iconst (v := bI false) hx hb dX1_addAll_32 (by decide) ?_
      exact ja (false) ls (by rw [c18, c25]; rfl) (lv_sub hl [0, 1] rfl)
    · skip
      refine lv_iconst (v := bI true) hx hb dX1_addAll_28 (by decide) ?_
      refine lv_goto (tgt := 33) hx hb dX1_addAll_29 (by decide) ?_
      exact ja (true) ls (by rw [c18, c25]; rfl) (lv_sub hl [0, 1] rfl)

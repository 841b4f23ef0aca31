/-! THE CLASS TrialBook: what writes its own cells -/
def bA (b : Nat → Nat) : Nat → Prop := fun q => ∃ k, k < 9 ∧ q = b k
theorem base_ad {g : GG} {b : Nat → Nat} {xn xc nf xk : Int32} {fc : Nat → Option Nat} {fb d : Nat → Int32} {fr : Nat → Option Nat} {f1 f2 : Nat → Int32} {ff : Nat → Option Nat} : ∀ (i : Nat) (x : Nat × va_E), ([(b 0, .inr (4, [.ref (b 1), .ref (b 2), .ref (b 3), .ref (b 5), .int (xn), .ref (b 6), .ref (b 7), .int (xc), .ref (b 8), .int (nf)])), (b 1, aC g 4 fc), (b 2, aI g 4 fb), (b 3, .inr (3, [.ref (b 4), .int (xk)])), (b 4, aI g 8 d), (b 5, aR g 40 fr), (b 6, aI g 20 f1), (b 7, aI g 20 f2), (b 8, aR g 40 ff)] : va_W)[i]? = some x → i < 9 ∧ x.1 = b i := by
  intro i x hx
  match i, hx with
  | 0, hx => cases hx; exact ⟨by omega, rfl⟩
  | 1, hx => cases hx; exact ⟨by omega, rfl⟩
  | 2, hx => cases hx; exact ⟨by omega, rfl⟩
  | 3, hx => cases hx; exact ⟨by omega, rfl⟩
  | 4, hx => cases hx; exact ⟨by omega, rfl⟩
  | 5, hx => cases hx; exact ⟨by omega, rfl⟩
  | 6, hx => cases hx; exact ⟨by omega, rfl⟩
  | 7, hx => cases hx; exact ⟨by omega, rfl⟩
  | 8, hx => cases hx; exact ⟨by omega, rfl⟩
theorem base_D {g : GG} {b : Nat → Nat} {xn xc nf xk : Int32} {fc : Nat → Option Nat} {fb d : Nat → Int32} {fr : Nat → Option Nat} {f1 f2 : Nat → Int32} {ff : Nat → Option Nat} (hb : ∀ i j, i < 9 → j < 9 → b i = b j → i = j) : va_D (bA b) [(b 0, .inr (4, [.ref (b 1), .ref (b 2), .ref (b 3), .ref (b 5), .int (xn), .ref (b 6), .ref (b 7), .int (xc), .ref (b 8), .int (nf)])), (b 1, aC g 4 fc), (b 2, aI g 4 fb), (b 3, .inr (3, [.ref (b 4), .int (xk)])), (b 4, aI g 8 d), (b 5, aR g 40 fr), (b 6, aI g 20 f1), (b 7, aI g 20 f2), (b 8, aR g 40 ff)] :=
  ⟨fun i j x y hi hj e => by
    have h1 := base_ad i x hi; have h2 := base_ad j y hj
    exact hb i j h1.1 h2.1 (by rw [← h1.2, ← h2.2, e]), fun k q hk => by
    have h1 := base_ad k q hk
    exact ⟨k, h1.1, h1.2⟩⟩
theorem code_keep {g : GG} {A : Nat → Prop} {H0 H : Heap} {locs : List Loc} {qs : List Nat} {a : Nat} (hS : va_S A H0 H locs) (hn : a < H0.size → ¬ A a) (h : CodeAt g qs a H0) : CodeAt g qs a H := va_P.kept h (fun k x hx => by
  match k, hx with
  | 0, hx => cases hx; exact hS.2.1 a ((h 0 _ rfl).lt) (hn ((h 0 _ rfl).lt)))
theorem Froz.keep {g : GG} {Z A : Nat → Prop} {τ : TB} {cad rad : Nat → Nat} {H0 H : Heap} {locs : List Loc} (hS : va_S A H0 H locs) (hA : ∀ q, q < H0.size → A q → Z q) (h : Froz g Z τ cad rad H0) : Froz g Z τ cad rad H :=
  ⟨fun k hk => ⟨code_keep hS (fun hlt hq => (h.1 k hk).2 (hA _ hlt hq)) (h.1 k hk).1, (h.1 k hk).2⟩, fun r hr => (h.2 r hr).keep hS hA⟩
section LY7
variable {p : Program} {l : Launch} {e : Env} {R : Room} {s : State} {m : MethodId} {args : Array Value} {below : List Frame} {meth : Method} {c : Code} {H : Heap} {locs : List Loc} {cells slots : Nat} {Q : State → Prop}
variable {cc : ByteArray} {nL pc : Nat} {ls : Array Slot} {rest : List Value} {g : GG} {own : String} {A : Nat → Prop} {H0 : Heap} {ws wv : va_W}
theorem n_qast2 (C : Cx p m c cc nL s args own g) (hP : va_P g.1 vwCl ws H) (hD : va_D A ws) (hS : va_S A H0 H locs) (q0 t0 : Nat) {a n j v ci : Nat} {cA : ClassId} {r : vw_C} {vs : List Value} {f : Nat → Option Nat} (ha : ws[q0]? = some (a, .inl (cA, n, .inr (.inr (.inr (.inr f)))))) (ht : (tyG g)[t0]? = some (cA, .object r.1)) (hPv : va_P g.1 vwCl wv H) (qk : Nat) (hv : wv[qk]? = some (v, .inr (ci, vs))) (hc : vwCl[ci]? = some r) (hj : j < n) (hn : n < 2 ^ 31) (hdg : decode cc pc = .ok (.aastore, 1))
    (kk : ∀ (H1 : Heap) (locs1 : List Loc), va_P g.1 vwCl (ws.set q0 (a, .inl (cA, n, .inr (.inr (.inr (.inr (va_up f j (some v)))))))) H1 → va_D A (ws.set q0 (a, .inl (cA, n, .inr (.inr (.inr (.inr (va_up f j (some v)))))))) → va_S A H0 H1 locs1 → W p l e R s m args below meth c H1 locs1 cells slots Q (F0 m (pc + 1) ls rest)) : W p l e R s m args below meth c H locs cells slots Q (F0 m pc ls (.ref v :: .int (nI j) :: .ref a :: rest)) := by
  have hcls := (C.2.1.1 ci r hc).2
  refine va_astqM C.1.1 C.1.2.1 C.2.1 hP hD hS q0 t0 ha ht (va_rAny C.2.1 hPv hv hc (fun comp c0 h1 h2 => ?_)) (vp_in_nI hj hn) hdg (fun H1 locs1 h1 h2 h3 => ?_)
  · have e1 : comp = c0 := Option.some.inj (h1.symm.trans h2)
    have e2 : c0 = g.1.1 ci := Option.some.inj (h2.symm.trans hcls.1)
    rw [e1, e2]
    exact va_assign hcls
  · rw [nI_clamp (Nat.lt_trans hj hn)] at h1 h2
    exact kk H1 locs1 h1 h2 h3
end LY7
theorem dat_bk {g : GG} {b : Nat → Nat} {Z : Nat → Prop} {τ : TB} {cad rad : Nat → Nat} {nf : Int32} {fc : Nat → Option Nat} {fb d : Nat → Int32} {fr : Nat → Option Nat} {f1 f2 : Nat → Int32} {ff : Nat → Option Nat} {H : Heap} {i x : Int32} (hB : BaseR τ cad rad fc fb d fr f1 f2) (hP : va_P g.1 vwCl [(b 0, .inr (4, [.ref (b 1), .ref (b 2), .ref (b 3), .ref (b 5), .int (nI (tN τ)), .ref (b 6), .ref (b 7), .int (nI ((tClm τ).length)), .ref (b 8), .int (nf)])), (b 1, aC g 4 fc), (b 2, aI g 4 fb), (b 3, .inr (3, [.ref (b 4), .int (tClk τ)])), (b 4, aI g 8 ((if inR i 0 7 then upd d i.toNatClampNeg x else d))), (b 5, aR g 40 fr), (b 6, aI g 20 f1), (b 7, aI g 20 f2), (b 8, aR g 40 ff)] H) (hF : Froz g Z τ cad rad H) : Bk g b Z (datT τ i x) H := by
  by_cases h : inR i 0 7 = true
  · rw [if_pos h] at hP
    rw [datT, if_pos h]
    exact ⟨cad, rad, ⟨nf, fc, fb, upd d i.toNatClampNeg x, fr, f1, f2, ff, ⟨hB.1, hB.2.1, fun q hq => by
      show upd d i.toNatClampNeg x q = upd (tDat τ) i.toNatClampNeg x q
      by_cases e : q = i.toNatClampNeg
      · rw [e, pk_us, pk_us]
      · rw [pk_un e, pk_un e]; exact hB.2.2.1 q hq, hB.2.2.2⟩, hP⟩, hF⟩
  · rw [if_neg h] at hP
    rw [datT, if_neg h]
    exact ⟨cad, rad, ⟨nf, fc, fb, d, fr, f1, f2, ff, hB, hP⟩, hF⟩
set_option maxHeartbeats 4000000 in
set_option maxRecDepth 100000 in
theorem c4_data (l : Launch) (g : GG) (b : Nat → Nat) (Z : Nat → Prop) (τ : TB) (hT : TOK τ) (hbi : ∀ i j, i < 9 → j < 9 → b i = b j → i = j) (hZ : ∀ q, bA b q → Z q) (i x : Int32) : Met l yX4_data (.code yX4_data cX4_data 3 (some .boolean) :: wsL_law) ({ frames := 1, cells := 0, slots := 0, locals := 22 } : Room) (mP g [.ref (b 0), .int (i), .int (x)] (Bk g b Z τ)) (mQ (bA b) (fun z H => z = some (.int (bI (inR i 0 7))) ∧ Bk g b Z (datT τ i x) H)) 0 0 ((bA b)) := by
  refine mMet (by decide) (Nat.le_of_ble_eq_true rfl) ?_
  intro p e s m below meth c C hr hlk hnm hP ls hl
  have hx := C.1.1
  have hb := C.1.2.1
  have hl : lv_has ls 3 [(0, .ref (b 0)), (1, .int (i)), (2, .int (x))] := hl
  have hBk := hP
  obtain ⟨cad, rad, ⟨nf, fc, fb, d, fr, f1, f2, ff, hB, hP⟩, hF⟩ := hP
  have hW : WorldAt g (tDat τ) (tClk τ) (b 3) s.heap := ⟨b 4, d, hB.2.2.1, hP.sub [3, 4] rfl⟩
  have hS : va_S (bA b) s.heap s.heap [] := va_S.rf
  have hD : va_D (bA b) [(b 0, .inr (4, [.ref (b 1), .ref (b 2), .ref (b 3), .ref (b 5), .int (nI (tN τ)), .ref (b 6), .ref (b 7), .int (nI ((tClm τ).length)), .ref (b 8), .int (nf)])), (b 1, aC g 4 fc), (b 2, aI g 4 fb), (b 3, .inr (3, [.ref (b 4), .int (tClk τ)])), (b 4, aI g 8 d), (b 5, aR g 40 fr), (b 6, aI g 20 f1), (b 7, aI g 20 f2), (b 8, aR g 40 ff)] := base_D hbi
  have h40 := hT.2.2.1
  refine lv_aload_n hx hb dX4_data_0 rfl (lv_at hl 0 rfl) ?_
  refine q_get C f_X4_22 (hP) 0 rfl rfl dX4_data_1 ?_
  refine lv_iload_n hx hb dX4_data_4 rfl (lv_at hl 1 rfl) ?_
  refine lv_iload_n hx hb dX4_data_5 rfl (lv_at hl 2 rfl) ?_
  refine k_w (c_V (As := [.int (i), .int (x)]) (rest := []) C v_X4_44 (c3_setWord l g (b 3) (b 4) (tClk τ) d [(b 0, .inr (4, [.ref (b 1), .ref (b 2), .ref (b 3), .ref (b 5), .int (nI (tN τ)), .ref (b 6), .ref (b 7), .int (nI ((tClm τ).length)), .ref (b 8), .int (nf)])), (b 1, aC g 4 fc), (b 2, aI g 4 fb), (b 5, aR g 40 fr), (b 6, aI g 20 f1), (b 7, aI g 20 f2), (b 8, aR g 40 ff)] (bA b) i x (hD.sub (ws' := [(b 3, .inr (3, [.ref (b 4), .int (tClk τ)])), (b 4, aI g 8 d)] ++ [(b 0, .inr (4, [.ref (b 1), .ref (b 2), .ref (b 3), .ref (b 5), .int (nI (tN τ)), .ref (b 6), .ref (b 7), .int (nI ((tClm τ).length)), .ref (b 8), .int (nf)])), (b 1, aC g 4 fc), (b 2, aI g 4 fb), (b 5, aR g 40 fr), (b 6, aI g 20 f1), (b 7, aI g 20 f2), (b 8, aR g 40 ff)]) [3, 4, 0, 1, 2, 5, 6, 7, 8] (by decide) rfl)) ⟨Nat.le_of_ble_eq_true rfl, Nat.le_of_ble_eq_true rfl⟩ (q_recv C hP 3 rfl rfl) (hP.sub (ws' := [(b 3, .inr (3, [.ref (b 4), .int (tClk τ)])), (b 4, aI g 8 d)] ++ [(b 0, .inr (4, [.ref (b 1), .ref (b 2), .ref (b 3), .ref (b 5), .int (nI (tN τ)), .ref (b 6), .ref (b 7), .int (nI ((tClm τ).length)), .ref (b 8), .int (nf)])), (b 1, aC g 4 fc), (b 2, aI g 4 fb), (b 5, aR g 40 fr), (b 6, aI g 20 f1), (b 7, aI g 20 f2), (b 8, aR g 40 ff)]) [3, 4, 0, 1, 2, 5, 6, 7, 8] rfl) hl.1 rfl rfl (Nat.le_of_ble_eq_true rfl) dX4_data_6 ⟨Nat.le_of_ble_eq_true rfl, Nat.le_of_ble_eq_true rfl⟩) hS (fun _ hq => hq) (fun r6 H1 locs q6 hz6 hk6 hS => ?_)
  obtain ⟨rfl, hP⟩ := q6
  have hP : va_P g.1 vwCl [(b 0, .inr (4, [.ref (b 1), .ref (b 2), .ref (b 3), .ref (b 5), .int (nI (tN τ)), .ref (b 6), .ref (b 7), .int (nI ((tClm τ).length)), .ref (b 8), .int (nf)])), (b 1, aC g 4 fc), (b 2, aI g 4 fb), (b 3, .inr (3, [.ref (b 4), .int (tClk τ)])), (b 4, aI g 8 ((if inR i 0 7 then upd d i.toNatClampNeg x else d))), (b 5, aR g 40 fr), (b 6, aI g 20 f1), (b 7, aI g 20 f2), (b 8, aR g 40 ff)] H1 := hP.sub [2, 3, 4, 0, 1, 5, 6, 7, 8] rfl
  refine W.eq (g2 := F0 m 9 ls [.int (bI (inR i 0 7))]) rfl ?_
  exact r_wz C hr hlk (by first | exact Or.inl rfl | exact Or.inr rfl | exact bI_or _) hS (⟨rfl, dat_bk hB hP (hF.keep hS (fun q _ hq => hZ q hq))⟩) dX4_data_9
theorem bnd_f {i v : Int32} (h : ¬ ((0 ≤ i.toInt ∧ i.toInt ≤ 3) ∧ (1 ≤ v.toInt ∧ v.toInt ≤ 6))) : (inR i 0 3 && inR v 1 6) = false := by
  rw [Bool.and_eq_false_iff]
  by_cases h1 : 0 ≤ i.toInt ∧ i.toInt ≤ 3
  · exact Or.inr (inF (fun h2 => h ⟨h1, h2⟩))
  · exact Or.inl (inF h1)
theorem bnd_u {τ : TB} {fb : Nat → Int32} {i v : Nat} (h : ∀ q, q < 4 → fb q = nI (tBnd τ q)) (hi : i < 2 ^ 31) (hv : v < 2 ^ 31) : ∀ q, q < 4 → upd fb i (nI v) q = nI (if q = (nI i).toNatClampNeg then (nI v).toNatClampNeg else tBnd τ q) := by
  intro q hq
  rw [nI_clamp hi, nI_clamp hv]
  by_cases e : q = i
  · rw [e, pk_us, if_pos rfl]
  · rw [pk_un e, if_neg e]; exact h q hq
set_option maxHeartbeats 4000000 in
set_option maxRecDepth 100000 in
theorem c4_bound (l : Launch) (g : GG) (b : Nat → Nat) (Z : Nat → Prop) (τ : TB) (hT : TOK τ) (hbi : ∀ i j, i < 9 → j < 9 → b i = b j → i = j) (hZ : ∀ q, bA b q → Z q) (i v : Int32) : Met l yX4_bound (.code yX4_bound cX4_bound 3 (some .boolean) :: wsL_law) ({ frames := 0, cells := 0, slots := 0, locals := 0 } : Room) (mP g [.ref (b 0), .int (i), .int (v)] (Bk g b Z τ)) (mQ (bA b) (fun z H => z = some (.int (bI (inR i 0 3 && inR v 1 6))) ∧ Bk g b Z (bndT τ i v) H)) 0 0 ((bA b)) := by
  refine mMet (by decide) (Nat.le_of_ble_eq_true rfl) ?_
  intro p e s m below meth c C hr hlk hnm hP ls hl
  have hx := C.1.1
  have hb := C.1.2.1
  have hl : lv_has ls 3 [(0, .ref (b 0)), (1, .int (i)), (2, .int (v))] := hl
  have hBk := hP
  obtain ⟨cad, rad, ⟨nf, fc, fb, d, fr, f1, f2, ff, hB, hP⟩, hF⟩ := hP
  have hW : WorldAt g (tDat τ) (tClk τ) (b 3) s.heap := ⟨b 4, d, hB.2.2.1, hP.sub [3, 4] rfl⟩
  have hS : va_S (bA b) s.heap s.heap [] := va_S.rf
  have hD : va_D (bA b) [(b 0, .inr (4, [.ref (b 1), .ref (b 2), .ref (b 3), .ref (b 5), .int (nI (tN τ)), .ref (b 6), .ref (b 7), .int (nI ((tClm τ).length)), .ref (b 8), .int (nf)])), (b 1, aC g 4 fc), (b 2, aI g 4 fb), (b 3, .inr (3, [.ref (b 4), .int (tClk τ)])), (b 4, aI g 8 d), (b 5, aR g 40 fr), (b 6, aI g 20 f1), (b 7, aI g 20 f2), (b 8, aR g 40 ff)] := base_D hbi
  have h40 := hT.2.2.1
  refine lv_iload_n hx hb dX4_bound_0 rfl (lv_at hl 1 rfl) ?_
  refine lv_if_lt (tgt := 24) hx hb dX4_bound_1 (by decide) (fun c1 => ?_) (fun c1 => ?_)
  · skip
    refine lv_iconst (v := 0) hx hb dX4_bound_24 (by decide) ?_
    exact r_wz C hr hlk (by first | exact Or.inl rfl | exact Or.inr rfl | exact bI_or _) hS (⟨sv (bif0 (bnd_f (by simp only [nI_toInt (show 4 < 2 ^ 31 by omega), fa_lt, fa_le, fa_eq, li_0, li_1, li_2, li_3, li_4, li_5, li_6, li_7, li_8, li_12, li_15, li_16, li_20, li_30, li_40, li_100, li_1000, li_65535, li_65536, li_1000000, li_m1] at c1; omega))), by rw [bndT, bnd_f (by simp only [nI_toInt (show 4 < 2 ^ 31 by omega), fa_lt, fa_le, fa_eq, li_0, li_1, li_2, li_3, li_4, li_5, li_6, li_7, li_8, li_12, li_15, li_16, li_20, li_30, li_40, li_100, li_1000, li_65535, li_65536, li_1000000, li_m1] at c1; omega)]; exact ⟨cad, rad, ⟨nf, fc, fb, d, fr, f1, f2, ff, hB, hP⟩, hF⟩⟩) dX4_bound_25
  · skip
    refine lv_iload_n hx hb dX4_bound_4 rfl (lv_at hl 1 rfl) ?_
    refine lv_aload_n hx hb dX4_bound_5 rfl (lv_at hl 0 rfl) ?_
    refine q_get C f_X4_15 (hP) 0 rfl rfl dX4_bound_6 ?_
    refine va_alen (v := nI 4) hx hb C.2.1 (hP) 2 0 rfl rfl rfl dX4_bound_9 ?_
    refine lv_icmp_ge (tgt := 24) hx hb dX4_bound_10 (by decide) (fun c10 => ?_) (fun c10 => ?_)
    · skip
      refine lv_iconst (v := 0) hx hb dX4_bound_24 (by decide) ?_
      exact r_wz C hr hlk (by first | exact Or.inl rfl | exact Or.inr rfl | exact bI_or _) hS (⟨sv (bif0 (bnd_f (by simp only [nI_toInt (show 4 < 2 ^ 31 by omega), fa_lt, fa_le, fa_eq, li_0, li_1, li_2, li_3, li_4, li_5, li_6, li_7, li_8, li_12, li_15, li_16, li_20, li_30, li_40, li_100, li_1000, li_65535, li_65536, li_1000000, li_m1] at c1 c10; omega))), by rw [bndT, bnd_f (by simp only [nI_toInt (show 4 < 2 ^ 31 by omega), fa_lt, fa_le, fa_eq, li_0, li_1, li_2, li_3, li_4, li_5, li_6, li_7, li_8, li_12, li_15, li_16, li_20, li_30, li_40, li_100, li_1000, li_65535, li_65536, li_1000000, li_m1] at c1 c10; omega)]; exact ⟨cad, rad, ⟨nf, fc, fb, d, fr, f1, f2, ff, hB, hP⟩, hF⟩⟩) dX4_bound_25
    · skip
      refine lv_iload_n hx hb dX4_bound_13 rfl (lv_at hl 2 rfl) ?_
      refine lv_iconst (v := 1) hx hb dX4_bound_14 (by decide) ?_
      refine lv_icmp_lt (tgt := 24) hx hb dX4_bound_15 (by decide) (fun c15 => ?_) (fun c15 => ?_)
      · skip
        refine lv_iconst (v := 0) hx hb dX4_bound_24 (by decide) ?_
        exact r_wz C hr hlk (by first | exact Or.inl rfl | exact Or.inr rfl | exact bI_or _) hS (⟨sv (bif0 (bnd_f (by simp only [nI_toInt (show 4 < 2 ^ 31 by omega), fa_lt, fa_le, fa_eq, li_0, li_1, li_2, li_3, li_4, li_5, li_6, li_7, li_8, li_12, li_15, li_16, li_20, li_30, li_40, li_100, li_1000, li_65535, li_65536, li_1000000, li_m1] at c1 c10 c15; omega))), by rw [bndT, bnd_f (by simp only [nI_toInt (show 4 < 2 ^ 31 by omega), fa_lt, fa_le, fa_eq, li_0, li_1, li_2, li_3, li_4, li_5, li_6, li_7, li_8, li_12, li_15, li_16, li_20, li_30, li_40, li_100, li_1000, li_65535, li_65536, li_1000000, li_m1] at c1 c10 c15; omega)]; exact ⟨cad, rad, ⟨nf, fc, fb, d, fr, f1, f2, ff, hB, hP⟩, hF⟩⟩) dX4_bound_25
      · skip
        refine lv_iload_n hx hb dX4_bound_18 rfl (lv_at hl 2 rfl) ?_
        refine lv_bipush (v := 6) hx hb dX4_bound_19 (by decide) ?_
        refine lv_icmp_le (tgt := 26) hx hb dX4_bound_21 (by decide) (fun c21 => ?_) (fun c21 => ?_)
        · skip
          obtain ⟨i1, hi1, rfl⟩ := ge_nI c1 c10 (by omega)
          have gv : inR v 1 6 = true := inR_iff.mpr (by simp only [fa_lt, fa_le, fa_eq, li_0, li_1, li_2, li_3, li_4, li_5, li_6, li_7, li_8, li_12, li_15, li_16, li_20, li_30, li_40, li_100, li_1000, li_65535, li_65536, li_1000000, li_m1] at c15 c21; omega)
          obtain ⟨v1, hv0, hv1, rfl⟩ := inR1_nI (hi := 6) gv
          have gi : inR (nI i1) 0 3 = true := in_j (hi := 3) (by omega) (by omega)
          refine lv_aload_n hx hb dX4_bound_26 rfl (lv_at hl 0 rfl) ?_
          refine q_get C f_X4_15 (hP) 0 rfl rfl dX4_bound_27 ?_
          refine lv_iload_n hx hb dX4_bound_30 rfl (lv_at hl 1 rfl) ?_
          refine lv_iload_n hx hb dX4_bound_31 rfl (lv_at hl 2 rfl) ?_
          refine n_iast C hP hD hS 2 rfl (by omega) (by decide) dX4_bound_32 (fun H locs hP hD hS => ?_)
          have hP : va_P g.1 vwCl [(b 0, .inr (4, [.ref (b 1), .ref (b 2), .ref (b 3), .ref (b 5), .int (nI (tN τ)), .ref (b 6), .ref (b 7), .int (nI ((tClm τ).length)), .ref (b 8), .int (nf)])), (b 1, aC g 4 fc), (b 2, aI g 4 (upd fb i1 (nI (v1)))), (b 3, .inr (3, [.ref (b 4), .int (tClk τ)])), (b 4, aI g 8 d), (b 5, aR g 40 fr), (b 6, aI g 20 f1), (b 7, aI g 20 f2), (b 8, aR g 40 ff)] H := hP
          have hD : va_D (bA b) [(b 0, .inr (4, [.ref (b 1), .ref (b 2), .ref (b 3), .ref (b 5), .int (nI (tN τ)), .ref (b 6), .ref (b 7), .int (nI ((tClm τ).length)), .ref (b 8), .int (nf)])), (b 1, aC g 4 fc), (b 2, aI g 4 (upd fb i1 (nI (v1)))), (b 3, .inr (3, [.ref (b 4), .int (tClk τ)])), (b 4, aI g 8 d), (b 5, aR g 40 fr), (b 6, aI g 20 f1), (b 7, aI g 20 f2), (b 8, aR g 40 ff)] := hD
          refine lv_iconst (v := 1) hx hb dX4_bound_33 (by decide) ?_
          exact r_wz C hr hlk (by first | exact Or.inl rfl | exact Or.inr rfl | exact bI_or _) hS (⟨sv (bit1 (by rw [gi, gv]; rfl)), by rw [bndT, gi, gv]; exact ⟨cad, rad, ⟨nf, fc, _, d, fr, f1, f2, ff, ⟨hB.1, fun q hq => bnd_u hB.2.1 (by omega) (by omega) q hq, hB.2.2⟩, hP⟩, hF.keep hS (fun q _ hq => hZ q hq)⟩⟩) dX4_bound_34
        · skip
          refine lv_iconst (v := 0) hx hb dX4_bound_24 (by decide) ?_
          exact r_wz C hr hlk (by first | exact Or.inl rfl | exact Or.inr rfl | exact bI_or _) hS (⟨sv (bif0 (bnd_f (by simp only [nI_toInt (show 4 < 2 ^ 31 by omega), fa_lt, fa_le, fa_eq, li_0, li_1, li_2, li_3, li_4, li_5, li_6, li_7, li_8, li_12, li_15, li_16, li_20, li_30, li_40, li_100, li_1000, li_65535, li_65536, li_1000000, li_m1] at c1 c10 c15 c21; omega))), by rw [bndT, bnd_f (by simp only [nI_toInt (show 4 < 2 ^ 31 by omega), fa_lt, fa_le, fa_eq, li_0, li_1, li_2, li_3, li_4, li_5, li_6, li_7, li_8, li_12, li_15, li_16, li_20, li_30, li_40, li_100, li_1000, li_65535, li_65536, li_1000000, li_m1] at c1 c10 c15 c21; omega)]; exact ⟨cad, rad, ⟨nf, fc, fb, d, fr, f1, f2, ff, hB, hP⟩, hF⟩⟩) dX4_bound_25
theorem clm_u {F : Nat → Int32} {f : Nat → Int32} {ks : List Nat} {x : Nat} (h : ∀ j, j < ks.length → f j = F (ks.getD j 0)) : ∀ j, j < (ks ++ [x]).length → upd f ks.length (F x) j = F ((ks ++ [x]).getD j 0) := by
  intro j hj
  rw [List.length_append, List.length_singleton] at hj
  rcases Nat.lt_or_ge j ks.length with h1 | h1
  · rw [pk_un (by omega), h j h1, List.getD_eq_getElem?_getD, List.getD_eq_getElem?_getD, List.getElem?_append_left h1]
  · have e : j = ks.length := by omega
    subst e
    rw [pk_us, List.getD_eq_getElem?_getD, List.getElem?_append_right (Nat.le_refl _)]
    simp
theorem BaseR.clm {τ : TB} {cad rad : Nat → Nat} {fc : Nat → Option Nat} {fb d : Nat → Int32} {fr : Nat → Option Nat} {f1 f2 : Nat → Int32} {j : Nat} (hB : BaseR τ cad rad fc fb d fr f1 f2) : BaseR (tCode τ, tDat τ, tBnd τ, tClk τ, tRuns τ, tClm τ ++ [j]) cad rad fc fb d fr (upd f1 (tClm τ).length (nI j)) (upd f2 (tClm τ).length (lastR (rRow (tRun τ j)))) :=
  ⟨hB.1, hB.2.1, hB.2.2.1, hB.2.2.2.1, clm_u (F := nI) hB.2.2.2.2.1, clm_u (F := fun r => lastR (rRow (tRun τ r))) hB.2.2.2.2.2⟩
theorem cl_e {n : Nat} : nI (n + 1 - 1) = if true = true then nI n else -1 := by rw [if_pos rfl, show n + 1 - 1 = n by omega]
set_option maxHeartbeats 4000000 in
set_option maxRecDepth 100000 in
theorem c4_claim (l : Launch) (g : GG) (b : Nat → Nat) (Z : Nat → Prop) (τ : TB) (hT : TOK τ) (hbi : ∀ i j, i < 9 → j < 9 → b i = b j → i = j) (hZ : ∀ q, bA b q → Z q) (r : Int32) : Met l yX4_claim (.code yX4_claim cX4_claim 3 (some .int) :: wsL_law) ({ frames := 2, cells := 0, slots := 0, locals := 41 } : Room) (mP g [.ref (b 0), .int (r)] (Bk g b Z τ)) (mQ (bA b) (fun z H => z = some (.int (clmA τ r)) ∧ Bk g b Z (clmT τ r) H)) 0 0 ((bA b)) := by
  refine mMet (by decide) (Nat.le_of_ble_eq_true rfl) ?_
  intro p e s m below meth c C hr hlk hnm hP ls hl
  have hx := C.1.1
  have hb := C.1.2.1
  have hl : lv_has ls 3 [(0, .ref (b 0)), (1, .int (r))] := hl
  have hBk := hP
  obtain ⟨cad, rad, ⟨nf, fc, fb, d, fr, f1, f2, ff, hB, hP⟩, hF⟩ := hP
  have hW : WorldAt g (tDat τ) (tClk τ) (b 3) s.heap := ⟨b 4, d, hB.2.2.1, hP.sub [3, 4] rfl⟩
  have hS : va_S (bA b) s.heap s.heap [] := va_S.rf
  have hD : va_D (bA b) [(b 0, .inr (4, [.ref (b 1), .ref (b 2), .ref (b 3), .ref (b 5), .int (nI (tN τ)), .ref (b 6), .ref (b 7), .int (nI ((tClm τ).length)), .ref (b 8), .int (nf)])), (b 1, aC g 4 fc), (b 2, aI g 4 fb), (b 3, .inr (3, [.ref (b 4), .int (tClk τ)])), (b 4, aI g 8 d), (b 5, aR g 40 fr), (b 6, aI g 20 f1), (b 7, aI g 20 f2), (b 8, aR g 40 ff)] := base_D hbi
  have hc20 := hT.2.2.2.2.1
  have h40 := hT.2.2.1
  refine lv_aload_n hx hb dX4_claim_0 rfl (lv_at hl 0 rfl) ?_
  refine lv_iload_n hx hb dX4_claim_1 rfl (lv_at hl 1 rfl) ?_
  refine k_q (c_V (As := [.int (r)]) (rest := []) C v_X4_69 (c4_runAt l g b τ hT nf fc fb d fr f1 f2 ff (r)) ⟨Nat.le_of_ble_eq_true rfl, Nat.le_of_ble_eq_true rfl⟩ (q_recv C hP 0 rfl rfl) (hP) hl.1 rfl rfl (Nat.le_of_ble_eq_true rfl) dX4_claim_2 ⟨Nat.le_of_ble_eq_true rfl, Nat.le_of_ble_eq_true rfl⟩) (fun r2 q2 => ?_)
  by_cases h2 : inR r 0 (tN τ - 1) = true
  · skip
    obtain ⟨j, hj, rfl⟩ := isRun_nI h2 h40
    obtain rfl : r2 = some (rad j) := q2.trans (rn_in hj h40 (hB.2.2.2.1 _ hj))
    refine W.eq (g2 := F0 m 5 ls [.ref (rad j)]) rfl ?_
    have hRA := (hF.2 j hj).run
    obtain ⟨ca, na, va, ra, vv, ww, hv, hPr⟩ := id hRA
    have hNA := note_at hv hPr
    have hO := hT.2.2.2.1 j hj
    have h16 := Nat.le_trans hO.2.2.2.2.2.2.2.1 hO.2.2.2.2.2.2.1
    have ecl : (nI j).toNatClampNeg = j := nI_clamp (by omega)
    refine lv_astore_n (lv' := [(2, .ref (rad j)), (0, .ref (b 0)), (1, .int (nI (j)))]) hx hb dX4_claim_5 rfl hl (by decide) rfl (fun ls hl => ?_)
    refine lv_aload_n hx hb dX4_claim_6 rfl (lv_at hl 0 rfl) ?_
    refine lv_ifnull hx hb dX4_claim_7 ?_
    refine lv_aload_n hx hb dX4_claim_10 rfl (lv_at hl 0 rfl) ?_
    refine q_get C f_X4_73 (hPr) 0 rfl rfl dX4_claim_11 ?_
    refine b_ifne (tgt := 33) C dX4_claim_14 (by decide) (fun c14 => ?_) (fun c14 => ?_)
    · skip
      refine lv_iconst (v := (-1)) hx hb dX4_claim_33 (by decide) ?_
      exact r_wi C hr hlk hS (⟨sv (by rw [clmA, show canClm τ (nI j) = false from by rw [canClm, ecl, c14, Bool.and_comm (inR _ _ _)]; rfl]; rfl), by rw [clmT, show canClm τ (nI j) = false from by rw [canClm, ecl, c14, Bool.and_comm (inR _ _ _)]; rfl]; exact ⟨cad, rad, ⟨nf, fc, fb, d, fr, f1, f2, ff, hB, hP⟩, hF⟩⟩) dX4_claim_34
    · skip
      refine lv_aload_n hx hb dX4_claim_17 rfl (lv_at hl 1 rfl) ?_
      refine q_get C f_X4_227 (hP) 0 rfl rfl dX4_claim_18 ?_
      refine lv_if_lt (tgt := 33) hx hb dX4_claim_21 (by decide) (fun c21 => by exfalso; exact absurd c21 (nI_pos (by omega))) (fun c21 => ?_)
      refine lv_aload_n hx hb dX4_claim_24 rfl (lv_at hl 1 rfl) ?_
      refine q_get C f_X4_227 (hP) 0 rfl rfl dX4_claim_25 ?_
      refine lv_bipush (v := nI 20) hx hb dX4_claim_28 (by decide) ?_
      refine n_icmp_lt (tgt := 35) C (by omega) (by omega) dX4_claim_30 (by decide) (fun c30 => ?_) (fun c30 => ?_)
      · skip
        refine lv_aload_n hx hb dX4_claim_35 rfl (lv_at hl 1 rfl) ?_
        refine q_get C f_X4_32 (hP) 0 rfl rfl dX4_claim_36 ?_
        refine lv_aload_n hx hb dX4_claim_39 rfl (lv_at hl 1 rfl) ?_
        refine q_get C f_X4_227 (hP) 0 rfl rfl dX4_claim_40 ?_
        refine lv_iload_n hx hb dX4_claim_43 rfl (lv_at hl 2 rfl) ?_
        refine n_iast C hP hD hS 6 rfl (by omega) (by decide) dX4_claim_44 (fun H locs hP hD hS => ?_)
        have hP : va_P g.1 vwCl [(b 0, .inr (4, [.ref (b 1), .ref (b 2), .ref (b 3), .ref (b 5), .int (nI (tN τ)), .ref (b 6), .ref (b 7), .int (nI ((tClm τ).length)), .ref (b 8), .int (nf)])), (b 1, aC g 4 fc), (b 2, aI g 4 fb), (b 3, .inr (3, [.ref (b 4), .int (tClk τ)])), (b 4, aI g 8 d), (b 5, aR g 40 fr), (b 6, aI g 20 (upd f1 ((tClm τ).length) (nI (j)))), (b 7, aI g 20 f2), (b 8, aR g 40 ff)] H := hP
        have hD : va_D (bA b) [(b 0, .inr (4, [.ref (b 1), .ref (b 2), .ref (b 3), .ref (b 5), .int (nI (tN τ)), .ref (b 6), .ref (b 7), .int (nI ((tClm τ).length)), .ref (b 8), .int (nf)])), (b 1, aC g 4 fc), (b 2, aI g 4 fb), (b 3, .inr (3, [.ref (b 4), .int (tClk τ)])), (b 4, aI g 8 d), (b 5, aR g 40 fr), (b 6, aI g 20 (upd f1 ((tClm τ).length) (nI (j)))), (b 7, aI g 20 f2), (b 8, aR g 40 ff)] := hD
        refine lv_aload_n hx hb dX4_claim_45 rfl (lv_at hl 1 rfl) ?_
        refine q_get C f_X4_35 (hP) 0 rfl rfl dX4_claim_46 ?_
        refine lv_aload_n hx hb dX4_claim_49 rfl (lv_at hl 1 rfl) ?_
        refine q_get C f_X4_227 (hP) 0 rfl rfl dX4_claim_50 ?_
        refine lv_aload_n hx hb dX4_claim_53 rfl (lv_at hl 0 rfl) ?_
        refine k_i (c_V (As := []) (rest := [.int (nI ((tClm τ).length)), .ref (b 7)]) C v_X4_230 (c2_lastRow l g (rad j) (tRun τ j) (cntB τ j) h16) ⟨Nat.le_of_ble_eq_true rfl, Nat.le_of_ble_eq_true rfl⟩ (run_recv C ((hF.2 j hj).keep hS (fun q _ hq => hZ q hq)).run) (((hF.2 j hj).keep hS (fun q _ hq => hZ q hq)).run) hl.1 rfl rfl (Nat.le_of_ble_eq_true rfl) dX4_claim_54 ⟨Nat.le_of_ble_eq_true rfl, Nat.le_of_ble_eq_true rfl⟩) (fun r54 q54 => ?_)
        subst q54
        refine n_iast C hP hD hS 7 rfl (by omega) (by decide) dX4_claim_57 (fun H locs hP hD hS => ?_)
        have hP : va_P g.1 vwCl [(b 0, .inr (4, [.ref (b 1), .ref (b 2), .ref (b 3), .ref (b 5), .int (nI (tN τ)), .ref (b 6), .ref (b 7), .int (nI ((tClm τ).length)), .ref (b 8), .int (nf)])), (b 1, aC g 4 fc), (b 2, aI g 4 fb), (b 3, .inr (3, [.ref (b 4), .int (tClk τ)])), (b 4, aI g 8 d), (b 5, aR g 40 fr), (b 6, aI g 20 (upd f1 ((tClm τ).length) (nI (j)))), (b 7, aI g 20 (upd f2 ((tClm τ).length) (lastR (rRow (tRun τ j))))), (b 8, aR g 40 ff)] H := hP
        have hD : va_D (bA b) [(b 0, .inr (4, [.ref (b 1), .ref (b 2), .ref (b 3), .ref (b 5), .int (nI (tN τ)), .ref (b 6), .ref (b 7), .int (nI ((tClm τ).length)), .ref (b 8), .int (nf)])), (b 1, aC g 4 fc), (b 2, aI g 4 fb), (b 3, .inr (3, [.ref (b 4), .int (tClk τ)])), (b 4, aI g 8 d), (b 5, aR g 40 fr), (b 6, aI g 20 (upd f1 ((tClm τ).length) (nI (j)))), (b 7, aI g 20 (upd f2 ((tClm τ).length) (lastR (rRow (tRun τ j))))), (b 8, aR g 40 ff)] := hD
        refine lv_aload_n hx hb dX4_claim_58 rfl (lv_at hl 1 rfl) ?_
        refine lv_dup hx hb dX4_claim_59 rfl ?_
        refine q_get C f_X4_227 (hP) 0 rfl rfl dX4_claim_60 ?_
        refine lv_iconst (v := nI 1) hx hb dX4_claim_63 (by decide) ?_
        refine n_iadd C dX4_claim_64 ?_
        refine q_put C fp_X4_227 hP hD hS 0 rfl rfl rfl (Nat.le_of_ble_eq_true rfl) dX4_claim_65 (fun H locs hP hD hS => ?_)
        have hP : va_P g.1 vwCl [(b 0, .inr (4, [.ref (b 1), .ref (b 2), .ref (b 3), .ref (b 5), .int (nI (tN τ)), .ref (b 6), .ref (b 7), .int (nI (((tClm τ).length) + 1)), .ref (b 8), .int (nf)])), (b 1, aC g 4 fc), (b 2, aI g 4 fb), (b 3, .inr (3, [.ref (b 4), .int (tClk τ)])), (b 4, aI g 8 d), (b 5, aR g 40 fr), (b 6, aI g 20 (upd f1 ((tClm τ).length) (nI (j)))), (b 7, aI g 20 (upd f2 ((tClm τ).length) (lastR (rRow (tRun τ j))))), (b 8, aR g 40 ff)] H := hP
        have hD : va_D (bA b) [(b 0, .inr (4, [.ref (b 1), .ref (b 2), .ref (b 3), .ref (b 5), .int (nI (tN τ)), .ref (b 6), .ref (b 7), .int (nI (((tClm τ).length) + 1)), .ref (b 8), .int (nf)])), (b 1, aC g 4 fc), (b 2, aI g 4 fb), (b 3, .inr (3, [.ref (b 4), .int (tClk τ)])), (b 4, aI g 8 d), (b 5, aR g 40 fr), (b 6, aI g 20 (upd f1 ((tClm τ).length) (nI (j)))), (b 7, aI g 20 (upd f2 ((tClm τ).length) (lastR (rRow (tRun τ j))))), (b 8, aR g 40 ff)] := hD
        refine lv_aload_n hx hb dX4_claim_68 rfl (lv_at hl 1 rfl) ?_
        refine q_get C f_X4_227 (hP) 0 rfl rfl dX4_claim_69 ?_
        refine lv_iconst (v := nI 1) hx hb dX4_claim_72 (by decide) ?_
        refine n_isub C (by omega) dX4_claim_73 ?_
        exact r_wi C hr hlk hS (⟨sv (by rw [clmA, show canClm τ (nI j) = true by rw [canClm, h2, ecl, c14, decide_eq_true (by omega)]; rfl]; exact cl_e), by rw [clmT, show canClm τ (nI j) = true by rw [canClm, h2, ecl, c14, decide_eq_true (by omega)]; rfl, ecl]; exact ⟨cad, rad, ⟨nf, fc, fb, d, fr, _, _, ff, hB.clm, by show va_P g.1 vwCl [(b 0, .inr (4, [.ref (b 1), .ref (b 2), .ref (b 3), .ref (b 5), .int (nI (tN τ)), .ref (b 6), .ref (b 7), .int (nI ((tClm τ ++ [j]).length)), .ref (b 8), .int (nf)])), (b 1, aC g 4 fc), (b 2, aI g 4 fb), (b 3, .inr (3, [.ref (b 4), .int (tClk τ)])), (b 4, aI g 8 d), (b 5, aR g 40 fr), (b 6, aI g 20 ((upd f1 (tClm τ).length (nI j)))), (b 7, aI g 20 ((upd f2 (tClm τ).length (lastR (rRow (tRun τ j)))))), (b 8, aR g 40 ff)] H; rw [List.length_append]; exact hP⟩, hF.keep hS (fun q _ hq => hZ q hq)⟩⟩) dX4_claim_74
      · skip
        refine lv_iconst (v := (-1)) hx hb dX4_claim_33 (by decide) ?_
        exact r_wi C hr hlk hS (⟨sv (by rw [clmA, show canClm τ (nI j) = false from by rw [canClm, decide_eq_false (by omega), Bool.and_false]]; rfl), by rw [clmT, show canClm τ (nI j) = false from by rw [canClm, decide_eq_false (by omega), Bool.and_false]]; exact ⟨cad, rad, ⟨nf, fc, fb, d, fr, f1, f2, ff, hB, hP⟩, hF⟩⟩) dX4_claim_34
  · skip
    obtain rfl : r2 = none := q2.trans (if_neg h2)
    refine W.eq (g2 := F0 m 5 ls [.null]) rfl ?_
    refine lv_astore_nN (lv' := [(2, .null), (0, .ref (b 0)), (1, .int (r))]) hx hb dX4_claim_5 rfl hl (by decide) rfl (fun ls hl => ?_)
    refine lv_aload_nN hx hb dX4_claim_6 rfl (lv_at hl 0 rfl) ?_
    refine lv_ifnullN (tgt := 33) hx hb dX4_claim_7 (by decide) ?_
    refine lv_iconst (v := (-1)) hx hb dX4_claim_33 (by decide) ?_
    exact r_wi C hr hlk hS (⟨sv (by rw [clmA, show canClm τ r = false from by rw [canClm, Bool.eq_false_iff.mpr h2]; rfl]; rfl), by rw [clmT, show canClm τ r = false from by rw [canClm, Bool.eq_false_iff.mpr h2]; rfl]; exact ⟨cad, rad, ⟨nf, fc, fb, d, fr, f1, f2, ff, hB, hP⟩, hF⟩⟩) dX4_claim_34

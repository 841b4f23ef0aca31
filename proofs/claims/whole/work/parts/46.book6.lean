/-! THE CLASS TrialBook: a run entered -/
theorem sbn_le {s t : State} {L : List Loc} {c n c' n' : Nat} (h : s.sameButNew t L c n) (hc : c ≤ c') (hn : n ≤ n') : s.sameButNew t L c' n' := ⟨h.1, h.2.1, Nat.le_trans h.2.2.1 (Nat.add_le_add_left hc _), h.2.2.2.1, Nat.le_trans h.2.2.2.2.1 hn, h.2.2.2.2.2⟩
section LY8
variable {p : Program} {l : Launch} {e : Env} {R : Room} {s : State} {m : MethodId} {args : Array Value} {below : List Frame} {meth : Method} {c : Code} {H : Heap} {locs : List Loc} {cells slots : Nat}
theorem W.moreQ {Qc : Array Value → State → Outcome → State → Prop} {a : Array Value} {mc ms mc' ms' : Nat} {free : Addr → Prop} {g : JFrame} (h1 : mc ≤ mc') (h2 : ms ≤ ms') (k : W p l e R s m args below meth c H locs cells slots (MQ below Qc a s mc ms free) g) : W p l e R s m args below meth c H locs cells slots (MQ below Qc a s mc' ms' free) g := by
  intro T hT X
  obtain ⟨t, a, o, b1, b2, b3, L, b4, b5⟩ := k T hT X
  exact ⟨t, a, o, b1, b2, b3, L, ⟨b4.1, b4.2.1, sbn_le b4.2.2 h1 h2⟩, b5⟩
end LY8
def fA (b : Nat → Nat) (sz : Nat) : Nat → Prop := fun q => bA b q ∨ sz ≤ q
def fZ (Z : Nat → Prop) (sz : Nat) : Nat → Prop := fun q => Z q ∨ sz ≤ q
theorem RunF.down {g : GG} {Y Z : Nat → Prop} {ρ : RunT} {cnt : Bool} {a : Nat} {H : Heap} (hY : ∀ q, Y q → Z q) (h : RunF g Z ρ cnt a H) : RunF g Y ρ cnt a H := by
  obtain ⟨ca, na, va, ra, v, w, h1, h2, n1, n2, n3, n4, n5⟩ := h
  exact ⟨ca, na, va, ra, v, w, h1, h2, fun q => n1 (hY _ q), fun q => n2 (hY _ q), fun q => n3 (hY _ q), fun q => n4 (hY _ q), fun q => n5 (hY _ q)⟩
theorem Froz.down {g : GG} {Y Z : Nat → Prop} {τ : TB} {cad rad : Nat → Nat} {H : Heap} (hY : ∀ q, Y q → Z q) (h : Froz g Z τ cad rad H) : Froz g Y τ cad rad H := ⟨fun k hk => ⟨(h.1 k hk).1, fun q => (h.1 k hk).2 (hY _ q)⟩, fun r hr => (h.2 r hr).down hY⟩
theorem RunF.up {g : GG} {Z : Nat → Prop} {ρ : RunT} {cnt : Bool} {a : Nat} {H : Heap} (h : RunF g Z ρ cnt a H) : RunF g (fZ Z H.size) ρ cnt a H := by
  obtain ⟨ca, na, va, ra, v, w, h1, h2, n1, n2, n3, n4, n5⟩ := h
  have f : ∀ {q : Nat}, ¬ Z q → q < H.size → ¬ fZ Z H.size q := fun hz hl q => q.elim hz (fun e => absurd e (Nat.not_le.mpr hl))
  exact ⟨ca, na, va, ra, v, w, h1, h2, f n1 ((h2 0 _ rfl).lt), f n2 ((h2 1 _ rfl).lt), f n3 ((h2 2 _ rfl).lt), f n4 ((h2 3 _ rfl).lt), f n5 ((h2 4 _ rfl).lt)⟩
theorem Froz.up {g : GG} {Z : Nat → Prop} {τ : TB} {cad rad : Nat → Nat} {H : Heap} (h : Froz g Z τ cad rad H) : Froz g (fZ Z H.size) τ cad rad H := ⟨fun k hk => ⟨(h.1 k hk).1, fun q => q.elim (h.1 k hk).2 (fun e => absurd e (Nat.not_le.mpr (((h.1 k hk).1 0 _ rfl).lt)))⟩, fun r hr => (h.2 r hr).up⟩
def clk1 (τ : TB) : TB := (tCode τ, tDat τ, tBnd τ, tClk τ + 1, tRuns τ, tClm τ)
set_option maxHeartbeats 4000000 in
set_option maxRecDepth 100000 in
theorem c4_isCountedAlready (l : Launch) (g : GG) (b : Nat → Nat) (τ : TB) (hT : TOK τ) (nf : Int32) (fc : Nat → Option Nat) (fb d : Nat → Int32) (fr : Nat → Option Nat) (f1 f2 : Nat → Int32) (ff : Nat → Option Nat) (cad rad : Nat → Nat) (hB : BaseR τ cad rad fc fb d fr f1 f2) (Z : Nat → Prop) (a : Nat) (ρ : RunT) (cnt : Bool) (hO2 : RunOK ρ) : Met l yX4_isCountedAlready (.code yX4_isCountedAlready cX4_isCountedAlready 4 (some .boolean) :: wsL_law) ({ frames := 3, cells := 0, slots := 0, locals := 65 } : Room) (mP g [.ref (b 0), .ref (a)] (fun H => va_P g.1 vwCl [(b 0, .inr (4, [.ref (b 1), .ref (b 2), .ref (b 3), .ref (b 5), .int (nI (tN τ)), .ref (b 6), .ref (b 7), .int (nI ((tClm τ).length)), .ref (b 8), .int (nf)])), (b 1, aC g 4 fc), (b 2, aI g 4 fb), (b 3, .inr (3, [.ref (b 4), .int (tClk τ)])), (b 4, aI g 8 d), (b 5, aR g 40 fr), (b 6, aI g 20 f1), (b 7, aI g 20 f2), (b 8, aR g 40 ff)] H ∧ Froz g Z τ cad rad H ∧ RunAt g ρ cnt a H)) (vp_Si (fun z => z = bI ((List.range (tN τ)).any (fun o => cntB τ o && rlkB (tRun τ o) ρ)))) 0 0 ((fun _ => False)) := by
  refine mMet (by decide) (Nat.le_of_ble_eq_true rfl) ?_
  intro p e s m below meth c C hr hlk hnm hP ls hl
  have hx := C.1.1
  have hb := C.1.2.1
  have hl : lv_has ls 4 [(0, .ref (b 0)), (1, .ref (a))] := hl
  obtain ⟨hP, hF, hRM⟩ := hP
  have h40 := hT.2.2.1
  refine lv_iconst (v := nI 0) hx hb dX4_isCountedAlready_0 (by decide) ?_
  refine lv_istore_n (lv' := [(2, .int (nI (0))), (0, .ref (b 0)), (1, .ref (a))]) hx hb dX4_isCountedAlready_1 rfl hl (by decide) rfl (fun ls hl => ?_)
  have lp : ∀ (n_lp : Nat) (r : Nat) (ls : Array Slot), (r ≤ tN τ) → (tN τ + 1 ≤ r + n_lp) → (∀ o, o < r → (cntB τ o && rlkB (tRun τ o) ρ) = false) → lv_has ls 4 [(0, .ref (b 0)), (1, .ref (a)), (2, .int (nI (r)))] → W p l e ({ frames := 3, cells := 0, slots := 0, locals := 65 } : Room) s m ([.ref (b 0), .ref (a)] : List Value).toArray below meth c s.heap [] 0 0 (MQ below (vp_Si (fun z => z = bI ((List.range (tN τ)).any (fun o => cntB τ o && rlkB (tRun τ o) ρ)))) (([.ref (b 0), .ref (a)] : List Value).toArray) s 0 0 ((fun _ => False))) (F0 m 2 ls []) := by
    intro n_lp
    induction n_lp with
    | zero =>
      intro r ls hrN hn hz
      exact absurd hn (by omega)
    | succ n_lp ih_lp =>
      intro r ls hrN hn hz hl
      refine lv_iload_n hx hb dX4_isCountedAlready_2 rfl (lv_at hl 2 rfl) ?_
      refine lv_aload_n hx hb dX4_isCountedAlready_3 rfl (lv_at hl 0 rfl) ?_
      refine q_get C f_X4_144 (hP) 0 rfl rfl dX4_isCountedAlready_4 ?_
      refine n_icmp_ge (tgt := 43) C (by omega) (by omega) dX4_isCountedAlready_7 (by decide) (fun c7 => ?_) (fun c7 => ?_)
      · skip
        refine lv_iconst (v := 0) hx hb dX4_isCountedAlready_43 (by decide) ?_
        exact r_z C hr hlk (by first | exact Or.inl rfl | exact Or.inr rfl | exact bI_or _) (bif0 (anyRf (fun o ho => hz o (by omega)))) dX4_isCountedAlready_44
      · skip
        refine lv_aload_n hx hb dX4_isCountedAlready_10 rfl (lv_at hl 0 rfl) ?_
        refine lv_iload_n hx hb dX4_isCountedAlready_11 rfl (lv_at hl 2 rfl) ?_
        refine k_q (c_V (As := [.int (nI (r))]) (rest := []) C v_X4_69 (c4_runAt l g b τ hT nf fc fb d fr f1 f2 ff (nI (r))) ⟨Nat.le_of_ble_eq_true rfl, Nat.le_of_ble_eq_true rfl⟩ (q_recv C hP 0 rfl rfl) (hP) hl.1 rfl rfl (Nat.le_of_ble_eq_true rfl) dX4_isCountedAlready_12 ⟨Nat.le_of_ble_eq_true rfl, Nat.le_of_ble_eq_true rfl⟩) (fun r12 q12 => ?_)
        obtain rfl : r12 = some (rad r) := q12.trans (rn_in (c7) h40 (hB.2.2.2.1 _ (c7)))
        refine W.eq (g2 := F0 m 15 ls [.ref (rad r)]) rfl ?_
        refine lv_astore_n (lv' := [(3, .ref (rad r)), (0, .ref (b 0)), (1, .ref (a)), (2, .int (nI (r)))]) hx hb dX4_isCountedAlready_15 rfl hl (by decide) rfl (fun ls hl => ?_)
        refine lv_aload_n hx hb dX4_isCountedAlready_16 rfl (lv_at hl 0 rfl) ?_
        refine lv_ifnull hx hb dX4_isCountedAlready_17 ?_
        have hRA := (hF.2 r c7).run
        obtain ⟨ca, na, va, ra, vv, ww, hv, hPr⟩ := id hRA
        have hNA := note_at hv hPr
        have hO := hT.2.2.2.1 r c7
        have h16 := Nat.le_trans hO.2.2.2.2.2.2.2.1 hO.2.2.2.2.2.2.1
        refine lv_aload_n hx hb dX4_isCountedAlready_20 rfl (lv_at hl 0 rfl) ?_
        refine q_get C f_X4_240 (hPr) 0 rfl rfl dX4_isCountedAlready_21 ?_
        refine b_ifeq (tgt := 37) C dX4_isCountedAlready_24 (by decide) (fun c24 => ?_) (fun c24 => ?_)
        · skip
          refine n_iinc (d := 1) (lv' := [(2, .int (nI (r + 1))), (3, .ref (rad r)), (0, .ref (b 0)), (1, .ref (a))]) C dX4_isCountedAlready_37 (by decide) hl (k := 3) rfl (by decide) rfl (fun ls hl => ?_)
          refine lv_goto (tgt := 2) hx hb dX4_isCountedAlready_40 (by decide) ?_
          exact ih_lp (r + 1) ls (by omega) (by omega) (lt_s1 (p := fun o => (cntB τ o && rlkB (tRun τ o) ρ) = false) hz (by rw [c24]; simp)) (lv_sub hl [2, 3, 0] rfl)
        · skip
          refine lv_aload_n hx hb dX4_isCountedAlready_27 rfl (lv_at hl 0 rfl) ?_
          refine lv_aload_n hx hb dX4_isCountedAlready_28 rfl (lv_at hl 2 rfl) ?_
          refine k_i (c_V (As := [.ref (a)]) (rest := []) C v_X4_243 (c2_isLike l g (rad r) a (tRun τ r) ρ (cntB τ r) cnt hO hO2) ⟨Nat.le_of_ble_eq_true rfl, Nat.le_of_ble_eq_true rfl⟩ (run_recv C hRA) (⟨hRA, hRM⟩) hl.1 rfl rfl (Nat.le_of_ble_eq_true rfl) dX4_isCountedAlready_29 ⟨Nat.le_of_ble_eq_true rfl, Nat.le_of_ble_eq_true rfl⟩) (fun r29 q29 => ?_)
          subst q29
          refine b_ifeq (tgt := 37) C dX4_isCountedAlready_32 (by decide) (fun c32 => ?_) (fun c32 => ?_)
          · skip
            refine n_iinc (d := 1) (lv' := [(2, .int (nI (r + 1))), (3, .ref (rad r)), (0, .ref (b 0)), (1, .ref (a))]) C dX4_isCountedAlready_37 (by decide) hl (k := 3) rfl (by decide) rfl (fun ls hl => ?_)
            refine lv_goto (tgt := 2) hx hb dX4_isCountedAlready_40 (by decide) ?_
            exact ih_lp (r + 1) ls (by omega) (by omega) (lt_s1 (p := fun o => (cntB τ o && rlkB (tRun τ o) ρ) = false) hz (by rw [c24, c32]; simp)) (lv_sub hl [2, 3, 0] rfl)
          · skip
            refine lv_iconst (v := 1) hx hb dX4_isCountedAlready_35 (by decide) ?_
            exact r_z C hr hlk (by first | exact Or.inl rfl | exact Or.inr rfl | exact bI_or _) (bit1 (anyR c7 (by rw [c24, c32]; rfl))) dX4_isCountedAlready_36
  exact lp (tN τ + 1) (0) ls (by omega) (by omega) (fun o ho => absurd ho (by omega)) (lv_sub hl [1, 2, 0] rfl)
theorem bk_push {g : GG} {b : Nat → Nat} {Z : Nat → Prop} {τ : TB} {cad rad : Nat → Nat} {nf : Int32} {fc : Nat → Option Nat} {fb d : Nat → Int32} {fr : Nat → Option Nat} {f1 f2 : Nat → Int32} {ff : Nat → Option Nat} {H : Heap} {ρ : RunT} {a : Nat} (hT : TOK τ) (hB : BaseR τ cad rad fc fb d fr f1 f2) (hP : va_P g.1 vwCl [(b 0, .inr (4, [.ref (b 1), .ref (b 2), .ref (b 3), .ref (b 5), .int (nI (tN τ + 1)), .ref (b 6), .ref (b 7), .int (nI ((tClm τ).length)), .ref (b 8), .int (nf)])), (b 1, aC g 4 fc), (b 2, aI g 4 fb), (b 3, .inr (3, [.ref (b 4), .int (tClk τ + 1)])), (b 4, aI g 8 d), (b 5, aR g 40 ((va_up fr (tN τ) (some a)))), (b 6, aI g 20 f1), (b 7, aI g 20 f2), (b 8, aR g 40 ff)] H) (hF : Froz g Z τ cad rad H) (hR : RunF g Z ρ (cntB (pushT τ ρ) (tN τ)) a H) : Bk g b Z (pushT τ ρ) H := by
  refine ⟨cad, fun r => if r = tN τ then a else rad r, ⟨nf, fc, fb, d, va_up fr (tN τ) (some a), f1, f2, ff, ⟨hB.1, hB.2.1, hB.2.2.1, fun r hr => ?_, hB.2.2.2.2.1, fun j hj => ?_⟩, ?_⟩, hF.1, fun r hr => ?_⟩
  · rw [push_n] at hr
    show va_up fr (tN τ) (some a) r = some (if r = tN τ then a else rad r)
    by_cases e : r = tN τ
    · rw [if_pos e, e]; exact if_pos rfl
    · rw [if_neg e]; exact (if_neg e).trans (hB.2.2.2.1 r (by omega))
  · have hj : j < (tClm τ).length := hj
    show f2 j = lastR (rRow (tRun (pushT τ ρ) ((tClm τ).getD j 0)))
    rw [push_old (hT.2.2.2.2.2 _ (getD_mem hj)).1]; exact hB.2.2.2.2.2 j hj
  · rw [push_n]; exact hP
  · rw [push_n] at hr
    by_cases e : r = tN τ
    · show RunF g Z _ _ (if r = tN τ then a else rad r) H
      rw [if_pos e, e, push_new]; exact hR
    · show RunF g Z _ _ (if r = tN τ then a else rad r) H
      rw [if_neg e, push_old (by omega), cnt_push (by omega)]; exact hF.2 r (by omega)
theorem fA_Z {b : Nat → Nat} {Z : Nat → Prop} {sz : Nat} (hZ : ∀ q, bA b q → Z q) : ∀ q, fA b sz q → fZ Z sz q := fun q h => h.elim (fun e => Or.inl (hZ q e)) Or.inr
theorem Z_ge {Z : Nat → Prop} {sz a : Nat} (hZs : ∀ q, Z q → q < sz) (h : sz ≤ a) : ¬ Z a := fun q => absurd (hZs a q) (Nat.not_lt.mpr h)
set_option maxHeartbeats 4000000 in
set_option maxRecDepth 100000 in
theorem c4_enter (l : Launch) (g : GG) (b : Nat → Nat) (Z : Nat → Prop) (τ : TB) (hT : TOK τ) (hbi : ∀ i j, i < 9 → j < 9 → b i = b j → i = j) (hZ : ∀ q, bA b q → Z q) (sz : Nat) (hZs : ∀ q, Z q → q < sz) (hI : INV τ) (nf : Int32) (fc : Nat → Option Nat) (fb d : Nat → Int32) (fr : Nat → Option Nat) (f1 f2 : Nat → Int32) (ff : Nat → Option Nat) (cad rad : Nat → Nat) (hB : BaseR τ cad rad fc fb d fr f1 f2) (a ca na va ra kk tk : Nat) (st sd og ot rs0 rw0 : Int32) (s0 c0 : Bool) (v0 w0 was : Nat → Int32) (qs : List Nat) (rows0 : List Int32) (g1 : sz ≤ a) (g2 : sz ≤ na) (g3 : sz ≤ va) (g4 : sz ≤ ra) (hca : ¬ fZ Z sz ca) (hO : RunOK (mkRun (tDat τ) (tClk τ + 1) kk qs st sd tk rows0 og ot rs0 rw0 s0 c0 was)) (hBn : Born (mkRun (tDat τ) (tClk τ + 1) kk qs st sd tk rows0 og ot rs0 rw0 s0 c0 was)) (hr0 : rows0.length ≤ tk) (hw0 : ∀ j, j < rows0.length → w0 j = rows0.getD j 0) (h00 : ∀ i, i < 8 → hasB rw0 i = true → v0 i = was i) (hD : va_D (fA b sz) [(b 0, .inr (4, [.ref (b 1), .ref (b 2), .ref (b 3), .ref (b 5), .int (nI (tN τ)), .ref (b 6), .ref (b 7), .int (nI ((tClm τ).length)), .ref (b 8), .int (nf)])), (b 1, aC g 4 fc), (b 2, aI g 4 fb), (b 3, .inr (3, [.ref (b 4), .int (tClk τ)])), (b 4, aI g 8 d), (b 5, aR g 40 fr), (b 6, aI g 20 f1), (b 7, aI g 20 f2), (b 8, aR g 40 ff), (a, .inr (2, [.int (nI (kk)), .ref (ca), .int (st), .int (sd), .int (nI (tk)), .ref (na), .ref (ra), .int (nI (rows0.length)), .int (bI (false)), .int (bI (false)), .int (og), .int (ot)])), (na, .inr (1, [.int (rs0), .int (rw0), .int (bI (s0)), .int (bI (c0)), .ref (va)])), (va, aI g 8 v0), (ra, aI g 16 w0)]) : Met l yX4_enter (.code yX4_enter cX4_enter 2 (some .int) :: wsL_law) ({ frames := 5, cells := 0, slots := 0, locals := 121 } : Room) (mP g [.ref (b 0), .ref (a)] (fun H => va_P g.1 vwCl [(b 0, .inr (4, [.ref (b 1), .ref (b 2), .ref (b 3), .ref (b 5), .int (nI (tN τ)), .ref (b 6), .ref (b 7), .int (nI ((tClm τ).length)), .ref (b 8), .int (nf)])), (b 1, aC g 4 fc), (b 2, aI g 4 fb), (b 3, .inr (3, [.ref (b 4), .int (tClk τ)])), (b 4, aI g 8 d), (b 5, aR g 40 fr), (b 6, aI g 20 f1), (b 7, aI g 20 f2), (b 8, aR g 40 ff), (a, .inr (2, [.int (nI (kk)), .ref (ca), .int (st), .int (sd), .int (nI (tk)), .ref (na), .ref (ra), .int (nI (rows0.length)), .int (bI (false)), .int (bI (false)), .int (og), .int (ot)])), (na, .inr (1, [.int (rs0), .int (rw0), .int (bI (s0)), .int (bI (c0)), .ref (va)])), (va, aI g 8 v0), (ra, aI g 16 w0)] H ∧ Froz g (fZ Z sz) τ cad rad H ∧ CodeAt g qs ca H)) (mQ (fA b sz) (fun z H => z = some (.int (if tN τ = 40 then -1 else nI (tN τ))) ∧ Bk g b Z (if tN τ = 40 then τ else pushT τ (mkRun (tDat τ) (tClk τ + 1) kk qs st sd tk rows0 og ot rs0 rw0 s0 c0 was)) H)) 0 0 ((fA b sz)) := by
  refine mMet (by decide) (Nat.le_of_ble_eq_true rfl) ?_
  intro p e s m below meth c C hr hlk hnm hP ls hl
  have hx := C.1.1
  have hb := C.1.2.1
  have hl : lv_has ls 2 [(0, .ref (b 0)), (1, .ref (a))] := hl
  obtain ⟨hP, hF0, hC0⟩ := hP
  have hS : va_S (fA b sz) s.heap s.heap [] := va_S.rf
  have hD0 := hD
  have hnC : ¬ fA b sz ca := fun q => hca (fA_Z hZ _ q)
  have h40 := hT.2.2.1
  refine lv_aload_n hx hb dX4_enter_0 rfl (lv_at hl 0 rfl) ?_
  refine q_get C f_X4_144 (hP) 0 rfl rfl dX4_enter_1 ?_
  refine lv_if_lt (tgt := 19) hx hb dX4_enter_4 (by decide) (fun c4 => by exfalso; exact absurd c4 (nI_pos (by omega))) (fun c4 => ?_)
  refine lv_aload_n hx hb dX4_enter_7 rfl (lv_at hl 0 rfl) ?_
  refine q_get C f_X4_144 (hP) 0 rfl rfl dX4_enter_8 ?_
  refine lv_aload_n hx hb dX4_enter_11 rfl (lv_at hl 0 rfl) ?_
  refine q_get C f_X4_28 (hP) 0 rfl rfl dX4_enter_12 ?_
  refine va_alen (v := nI 40) hx hb C.2.1 (hP) 5 3 rfl rfl rfl dX4_enter_15 ?_
  refine n_icmp_lt (tgt := 21) C (by omega) (by omega) dX4_enter_16 (by decide) (fun c16 => ?_) (fun c16 => ?_)
  · skip
    refine lv_aload_n hx hb dX4_enter_21 rfl (lv_at hl 0 rfl) ?_
    refine q_get C f_X4_22 (hP) 0 rfl rfl dX4_enter_22 ?_
    refine lv_dup hx hb dX4_enter_25 rfl ?_
    refine q_get C f_X4_142 (hP) 3 rfl rfl dX4_enter_26 ?_
    refine lv_iconst (v := 1) hx hb dX4_enter_29 (by decide) ?_
    refine lv_iadd hx hb dX4_enter_30 ?_
    refine q_put C fp_X4_142 hP hD hS 3 rfl rfl rfl (Nat.le_of_ble_eq_true rfl) dX4_enter_31 (fun H locs hP hD hS => ?_)
    have hP : va_P g.1 vwCl [(b 0, .inr (4, [.ref (b 1), .ref (b 2), .ref (b 3), .ref (b 5), .int (nI (tN τ)), .ref (b 6), .ref (b 7), .int (nI ((tClm τ).length)), .ref (b 8), .int (nf)])), (b 1, aC g 4 fc), (b 2, aI g 4 fb), (b 3, .inr (3, [.ref (b 4), .int ((tClk τ) + (1 : Int32))])), (b 4, aI g 8 d), (b 5, aR g 40 fr), (b 6, aI g 20 f1), (b 7, aI g 20 f2), (b 8, aR g 40 ff), (a, .inr (2, [.int (nI (kk)), .ref (ca), .int (st), .int (sd), .int (nI (tk)), .ref (na), .ref (ra), .int (nI (rows0.length)), .int (bI (false)), .int (bI (false)), .int (og), .int (ot)])), (na, .inr (1, [.int (rs0), .int (rw0), .int (bI (s0)), .int (bI (c0)), .ref (va)])), (va, aI g 8 v0), (ra, aI g 16 w0)] H := hP
    have hD : va_D (fA b sz) [(b 0, .inr (4, [.ref (b 1), .ref (b 2), .ref (b 3), .ref (b 5), .int (nI (tN τ)), .ref (b 6), .ref (b 7), .int (nI ((tClm τ).length)), .ref (b 8), .int (nf)])), (b 1, aC g 4 fc), (b 2, aI g 4 fb), (b 3, .inr (3, [.ref (b 4), .int ((tClk τ) + (1 : Int32))])), (b 4, aI g 8 d), (b 5, aR g 40 fr), (b 6, aI g 20 f1), (b 7, aI g 20 f2), (b 8, aR g 40 ff), (a, .inr (2, [.int (nI (kk)), .ref (ca), .int (st), .int (sd), .int (nI (tk)), .ref (na), .ref (ra), .int (nI (rows0.length)), .int (bI (false)), .int (bI (false)), .int (og), .int (ot)])), (na, .inr (1, [.int (rs0), .int (rw0), .int (bI (s0)), .int (bI (c0)), .ref (va)])), (va, aI g 8 v0), (ra, aI g 16 w0)] := hD
    refine lv_aload_n hx hb dX4_enter_34 rfl (lv_at hl 1 rfl) ?_
    refine lv_aload_n hx hb dX4_enter_35 rfl (lv_at hl 0 rfl) ?_
    refine q_get C f_X4_22 (hP) 0 rfl rfl dX4_enter_36 ?_
    refine k_w (c_V (As := [.ref (b 3)]) (rest := []) C v_X4_151 (c2_doTicks l g a ca na va ra (b 3) (b 4) (nI kk) st sd og ot ((tClk τ) + (1 : Int32)) false tk d [(b 0, .inr (4, [.ref (b 1), .ref (b 2), .ref (b 3), .ref (b 5), .int (nI (tN τ)), .ref (b 6), .ref (b 7), .int (nI ((tClm τ).length)), .ref (b 8), .int (nf)])), (b 1, aC g 4 fc), (b 2, aI g 4 fb), (b 5, aR g 40 fr), (b 6, aI g 20 f1), (b 7, aI g 20 f2), (b 8, aR g 40 ff)] (fA b sz) kk rfl qs hnC rs0 rw0 s0 c0 v0 w0 rows0 hO.2.2.1 hO.2.1 hr0 hO.2.2.2.2.2.2.1 hw0 (hD.sub (ws' := [(a, .inr (2, [.int (nI (kk)), .ref (ca), .int (st), .int (sd), .int (nI (tk)), .ref (na), .ref (ra), .int (nI (rows0.length)), .int (bI (false)), .int (bI (false)), .int (og), .int (ot)])), (na, .inr (1, [.int (rs0), .int (rw0), .int (bI (s0)), .int (bI (c0)), .ref (va)])), (va, aI g 8 v0), (ra, aI g 16 w0), (b 3, .inr (3, [.ref (b 4), .int ((tClk τ) + (1 : Int32))])), (b 4, aI g 8 d)] ++ [(b 0, .inr (4, [.ref (b 1), .ref (b 2), .ref (b 3), .ref (b 5), .int (nI (tN τ)), .ref (b 6), .ref (b 7), .int (nI ((tClm τ).length)), .ref (b 8), .int (nf)])), (b 1, aC g 4 fc), (b 2, aI g 4 fb), (b 5, aR g 40 fr), (b 6, aI g 20 f1), (b 7, aI g 20 f2), (b 8, aR g 40 ff)]) [9, 10, 11, 12, 3, 4, 0, 1, 2, 5, 6, 7, 8] (by decide) rfl)) ⟨Nat.le_of_ble_eq_true rfl, Nat.le_of_ble_eq_true rfl⟩ (q_recv C hP 9 rfl rfl) (⟨hP.sub (ws' := [(a, .inr (2, [.int (nI (kk)), .ref (ca), .int (st), .int (sd), .int (nI (tk)), .ref (na), .ref (ra), .int (nI (rows0.length)), .int (bI (false)), .int (bI (false)), .int (og), .int (ot)])), (na, .inr (1, [.int (rs0), .int (rw0), .int (bI (s0)), .int (bI (c0)), .ref (va)])), (va, aI g 8 v0), (ra, aI g 16 w0), (b 3, .inr (3, [.ref (b 4), .int ((tClk τ) + (1 : Int32))])), (b 4, aI g 8 d)] ++ [(b 0, .inr (4, [.ref (b 1), .ref (b 2), .ref (b 3), .ref (b 5), .int (nI (tN τ)), .ref (b 6), .ref (b 7), .int (nI ((tClm τ).length)), .ref (b 8), .int (nf)])), (b 1, aC g 4 fc), (b 2, aI g 4 fb), (b 5, aR g 40 fr), (b 6, aI g 20 f1), (b 7, aI g 20 f2), (b 8, aR g 40 ff)]) [9, 10, 11, 12, 3, 4, 0, 1, 2, 5, 6, 7, 8] rfl, S_keep hS hC0 (one_n hnC)⟩) hl.1 rfl rfl (Nat.le_of_ble_eq_true rfl) dX4_enter_39 ⟨Nat.le_of_ble_eq_true rfl, Nat.le_of_ble_eq_true rfl⟩) hS (fun _ hq => hq) (fun r39 H1 locs q39 hz39 hk39 hS => ?_)
    obtain ⟨rfl, v1, w1, hv1, hw1, hP⟩ := q39
    refine W.eq (g2 := F0 m 42 ls []) rfl ?_
    rw [xR_cg hB.2.2.1] at hv1 hw1 hP
    have hP : va_P g.1 vwCl [(b 0, .inr (4, [.ref (b 1), .ref (b 2), .ref (b 3), .ref (b 5), .int (nI (tN τ)), .ref (b 6), .ref (b 7), .int (nI ((tClm τ).length)), .ref (b 8), .int (nf)])), (b 1, aC g 4 fc), (b 2, aI g 4 fb), (b 3, .inr (3, [.ref (b 4), .int ((tClk τ) + (1 : Int32))])), (b 4, aI g 8 d), (b 5, aR g 40 fr), (b 6, aI g 20 f1), (b 7, aI g 20 f2), (b 8, aR g 40 ff), (a, .inr (2, [.int (nI (kk)), .ref (ca), .int (st), .int (sd), .int (nI (tk)), .ref (na), .ref (ra), .int (nI ((xRun (tDat τ) (tClk τ + 1) st sd qs tk rows0).2.length)), .int (bI (xSt (xRun (tDat τ) (tClk τ + 1) st sd qs tk rows0).1)), .int (bI (false)), .int (og), .int (ot)])), (na, .inr (1, [.int (rs0 ||| xRS (xRun (tDat τ) (tClk τ + 1) st sd qs tk rows0).1), .int (rw0 ||| xRW (xRun (tDat τ) (tClk τ + 1) st sd qs tk rows0).1), .int (bI (s0 || xSd (xRun (tDat τ) (tClk τ + 1) st sd qs tk rows0).1)), .int (bI (c0 || xCk (xRun (tDat τ) (tClk τ + 1) st sd qs tk rows0).1)), .ref (va)])), (va, aI g 8 v1), (ra, aI g 16 w1)] H1 := hP.sub [6, 7, 8, 4, 5, 9, 10, 11, 12, 0, 1, 2, 3] rfl
    have hD : va_D (fA b sz) [(b 0, .inr (4, [.ref (b 1), .ref (b 2), .ref (b 3), .ref (b 5), .int (nI (tN τ)), .ref (b 6), .ref (b 7), .int (nI ((tClm τ).length)), .ref (b 8), .int (nf)])), (b 1, aC g 4 fc), (b 2, aI g 4 fb), (b 3, .inr (3, [.ref (b 4), .int ((tClk τ) + (1 : Int32))])), (b 4, aI g 8 d), (b 5, aR g 40 fr), (b 6, aI g 20 f1), (b 7, aI g 20 f2), (b 8, aR g 40 ff), (a, .inr (2, [.int (nI (kk)), .ref (ca), .int (st), .int (sd), .int (nI (tk)), .ref (na), .ref (ra), .int (nI ((xRun (tDat τ) (tClk τ + 1) st sd qs tk rows0).2.length)), .int (bI (xSt (xRun (tDat τ) (tClk τ + 1) st sd qs tk rows0).1)), .int (bI (false)), .int (og), .int (ot)])), (na, .inr (1, [.int (rs0 ||| xRS (xRun (tDat τ) (tClk τ + 1) st sd qs tk rows0).1), .int (rw0 ||| xRW (xRun (tDat τ) (tClk τ + 1) st sd qs tk rows0).1), .int (bI (s0 || xSd (xRun (tDat τ) (tClk τ + 1) st sd qs tk rows0).1)), .int (bI (c0 || xCk (xRun (tDat τ) (tClk τ + 1) st sd qs tk rows0).1)), .ref (va)])), (va, aI g 8 v1), (ra, aI g 16 w1)] := va_D_addr (ws := [(b 0, .inr (4, [.ref (b 1), .ref (b 2), .ref (b 3), .ref (b 5), .int (nI (tN τ)), .ref (b 6), .ref (b 7), .int (nI ((tClm τ).length)), .ref (b 8), .int (nf)])), (b 1, aC g 4 fc), (b 2, aI g 4 fb), (b 3, .inr (3, [.ref (b 4), .int (tClk τ)])), (b 4, aI g 8 d), (b 5, aR g 40 fr), (b 6, aI g 20 f1), (b 7, aI g 20 f2), (b 8, aR g 40 ff), (a, .inr (2, [.int (nI (kk)), .ref (ca), .int (st), .int (sd), .int (nI (tk)), .ref (na), .ref (ra), .int (nI (rows0.length)), .int (bI (false)), .int (bI (false)), .int (og), .int (ot)])), (na, .inr (1, [.int (rs0), .int (rw0), .int (bI (s0)), .int (bI (c0)), .ref (va)])), (va, aI g 8 v0), (ra, aI g 16 w0)]) rfl hD0
    have hC := S_keep hS hC0 (one_n hnC)
    have hF := hF0.keep hS (fun q _ hq => fA_Z hZ q hq)
    have hRV := rv_mk (k := kk) (og := og) (at' := ot) (rs := rs0) (bs := s0) (bc := c0) hB.2.2.1 h00 hv1 hw1
    have hRM : RunAt g (mkRun (tDat τ) (tClk τ + 1) kk qs st sd tk rows0 og ot rs0 rw0 s0 c0 was) false a H1 := ⟨ca, na, va, ra, v1, w1, hRV, ((hP.sub [9] rfl).app (w2 := [(ca, .inr (0, [.int (nI ((qs).length)), .long (lN (packN (qs)))]))]) hC).app (w2 := [(na, .inr (1, [.int (rs0 ||| xRS (xRun (tDat τ) (tClk τ + 1) st sd qs tk rows0).1), .int (rw0 ||| xRW (xRun (tDat τ) (tClk τ + 1) st sd qs tk rows0).1), .int (bI (s0 || xSd (xRun (tDat τ) (tClk τ + 1) st sd qs tk rows0).1)), .int (bI (c0 || xCk (xRun (tDat τ) (tClk τ + 1) st sd qs tk rows0).1)), .ref (va)])), (va, aI g 8 v1), (ra, aI g 16 w1)]) (hP.sub [10, 11, 12] rfl)⟩
    have jn : ∀ (v2 : Bool) (ls : Array Slot), (v2 = cntB (pushT τ (mkRun (tDat τ) (tClk τ + 1) kk qs st sd tk rows0 og ot rs0 rw0 s0 c0 was)) (tN τ)) → lv_has ls 2 [(0, .ref (b 0)), (1, .ref (a))] → W p l e ({ frames := 5, cells := 0, slots := 0, locals := 121 } : Room) s m ([.ref (b 0), .ref (a)] : List Value).toArray below meth c H1 locs 0 0 (MQ below (mQ (fA b sz) (fun z H => z = some (.int (if tN τ = 40 then -1 else nI (tN τ))) ∧ Bk g b Z (if tN τ = 40 then τ else pushT τ (mkRun (tDat τ) (tClk τ + 1) kk qs st sd tk rows0 og ot rs0 rw0 s0 c0 was)) H)) (([.ref (b 0), .ref (a)] : List Value).toArray) s 0 0 ((fA b sz))) (F0 m 63 ls [.int (bI (v2)), .ref (a)]) := by
      intro v2 ls hv2 hl
      refine q_put C fp_X4_240 hP hD hS 9 rfl (fits01 (by first | exact Or.inl rfl | exact Or.inr rfl | exact bI_or _)).1 (fits01 (by first | exact Or.inl rfl | exact Or.inr rfl | exact bI_or _)).2.1 (Nat.le_of_ble_eq_true rfl) dX4_enter_63 (fun H locs hP hD hS => ?_)
      have hP : va_P g.1 vwCl [(b 0, .inr (4, [.ref (b 1), .ref (b 2), .ref (b 3), .ref (b 5), .int (nI (tN τ)), .ref (b 6), .ref (b 7), .int (nI ((tClm τ).length)), .ref (b 8), .int (nf)])), (b 1, aC g 4 fc), (b 2, aI g 4 fb), (b 3, .inr (3, [.ref (b 4), .int ((tClk τ) + (1 : Int32))])), (b 4, aI g 8 d), (b 5, aR g 40 fr), (b 6, aI g 20 f1), (b 7, aI g 20 f2), (b 8, aR g 40 ff), (a, .inr (2, [.int (nI (kk)), .ref (ca), .int (st), .int (sd), .int (nI (tk)), .ref (na), .ref (ra), .int (nI ((xRun (tDat τ) (tClk τ + 1) st sd qs tk rows0).2.length)), .int (bI (xSt (xRun (tDat τ) (tClk τ + 1) st sd qs tk rows0).1)), .int (bI (v2)), .int (og), .int (ot)])), (na, .inr (1, [.int (rs0 ||| xRS (xRun (tDat τ) (tClk τ + 1) st sd qs tk rows0).1), .int (rw0 ||| xRW (xRun (tDat τ) (tClk τ + 1) st sd qs tk rows0).1), .int (bI (s0 || xSd (xRun (tDat τ) (tClk τ + 1) st sd qs tk rows0).1)), .int (bI (c0 || xCk (xRun (tDat τ) (tClk τ + 1) st sd qs tk rows0).1)), .ref (va)])), (va, aI g 8 v1), (ra, aI g 16 w1)] H := hP
      have hD : va_D (fA b sz) [(b 0, .inr (4, [.ref (b 1), .ref (b 2), .ref (b 3), .ref (b 5), .int (nI (tN τ)), .ref (b 6), .ref (b 7), .int (nI ((tClm τ).length)), .ref (b 8), .int (nf)])), (b 1, aC g 4 fc), (b 2, aI g 4 fb), (b 3, .inr (3, [.ref (b 4), .int ((tClk τ) + (1 : Int32))])), (b 4, aI g 8 d), (b 5, aR g 40 fr), (b 6, aI g 20 f1), (b 7, aI g 20 f2), (b 8, aR g 40 ff), (a, .inr (2, [.int (nI (kk)), .ref (ca), .int (st), .int (sd), .int (nI (tk)), .ref (na), .ref (ra), .int (nI ((xRun (tDat τ) (tClk τ + 1) st sd qs tk rows0).2.length)), .int (bI (xSt (xRun (tDat τ) (tClk τ + 1) st sd qs tk rows0).1)), .int (bI (v2)), .int (og), .int (ot)])), (na, .inr (1, [.int (rs0 ||| xRS (xRun (tDat τ) (tClk τ + 1) st sd qs tk rows0).1), .int (rw0 ||| xRW (xRun (tDat τ) (tClk τ + 1) st sd qs tk rows0).1), .int (bI (s0 || xSd (xRun (tDat τ) (tClk τ + 1) st sd qs tk rows0).1)), .int (bI (c0 || xCk (xRun (tDat τ) (tClk τ + 1) st sd qs tk rows0).1)), .ref (va)])), (va, aI g 8 v1), (ra, aI g 16 w1)] := hD
      refine lv_aload_n hx hb dX4_enter_66 rfl (lv_at hl 0 rfl) ?_
      refine q_get C f_X4_28 (hP) 0 rfl rfl dX4_enter_67 ?_
      refine lv_aload_n hx hb dX4_enter_70 rfl (lv_at hl 0 rfl) ?_
      refine q_get C f_X4_144 (hP) 0 rfl rfl dX4_enter_71 ?_
      refine lv_aload_n hx hb dX4_enter_74 rfl (lv_at hl 1 rfl) ?_
      refine n_qast C hP hD hS 5 3 9 rfl rfl rfl rfl (by omega) (by decide) dX4_enter_75 (fun H locs hP hD hS => ?_)
      have hP : va_P g.1 vwCl [(b 0, .inr (4, [.ref (b 1), .ref (b 2), .ref (b 3), .ref (b 5), .int (nI (tN τ)), .ref (b 6), .ref (b 7), .int (nI ((tClm τ).length)), .ref (b 8), .int (nf)])), (b 1, aC g 4 fc), (b 2, aI g 4 fb), (b 3, .inr (3, [.ref (b 4), .int ((tClk τ) + (1 : Int32))])), (b 4, aI g 8 d), (b 5, aR g 40 (va_up fr (tN τ) (some a))), (b 6, aI g 20 f1), (b 7, aI g 20 f2), (b 8, aR g 40 ff), (a, .inr (2, [.int (nI (kk)), .ref (ca), .int (st), .int (sd), .int (nI (tk)), .ref (na), .ref (ra), .int (nI ((xRun (tDat τ) (tClk τ + 1) st sd qs tk rows0).2.length)), .int (bI (xSt (xRun (tDat τ) (tClk τ + 1) st sd qs tk rows0).1)), .int (bI (v2)), .int (og), .int (ot)])), (na, .inr (1, [.int (rs0 ||| xRS (xRun (tDat τ) (tClk τ + 1) st sd qs tk rows0).1), .int (rw0 ||| xRW (xRun (tDat τ) (tClk τ + 1) st sd qs tk rows0).1), .int (bI (s0 || xSd (xRun (tDat τ) (tClk τ + 1) st sd qs tk rows0).1)), .int (bI (c0 || xCk (xRun (tDat τ) (tClk τ + 1) st sd qs tk rows0).1)), .ref (va)])), (va, aI g 8 v1), (ra, aI g 16 w1)] H := hP
      have hD : va_D (fA b sz) [(b 0, .inr (4, [.ref (b 1), .ref (b 2), .ref (b 3), .ref (b 5), .int (nI (tN τ)), .ref (b 6), .ref (b 7), .int (nI ((tClm τ).length)), .ref (b 8), .int (nf)])), (b 1, aC g 4 fc), (b 2, aI g 4 fb), (b 3, .inr (3, [.ref (b 4), .int ((tClk τ) + (1 : Int32))])), (b 4, aI g 8 d), (b 5, aR g 40 (va_up fr (tN τ) (some a))), (b 6, aI g 20 f1), (b 7, aI g 20 f2), (b 8, aR g 40 ff), (a, .inr (2, [.int (nI (kk)), .ref (ca), .int (st), .int (sd), .int (nI (tk)), .ref (na), .ref (ra), .int (nI ((xRun (tDat τ) (tClk τ + 1) st sd qs tk rows0).2.length)), .int (bI (xSt (xRun (tDat τ) (tClk τ + 1) st sd qs tk rows0).1)), .int (bI (v2)), .int (og), .int (ot)])), (na, .inr (1, [.int (rs0 ||| xRS (xRun (tDat τ) (tClk τ + 1) st sd qs tk rows0).1), .int (rw0 ||| xRW (xRun (tDat τ) (tClk τ + 1) st sd qs tk rows0).1), .int (bI (s0 || xSd (xRun (tDat τ) (tClk τ + 1) st sd qs tk rows0).1)), .int (bI (c0 || xCk (xRun (tDat τ) (tClk τ + 1) st sd qs tk rows0).1)), .ref (va)])), (va, aI g 8 v1), (ra, aI g 16 w1)] := hD
      refine lv_aload_n hx hb dX4_enter_76 rfl (lv_at hl 0 rfl) ?_
      refine lv_dup hx hb dX4_enter_77 rfl ?_
      refine q_get C f_X4_144 (hP) 0 rfl rfl dX4_enter_78 ?_
      refine lv_iconst (v := nI 1) hx hb dX4_enter_81 (by decide) ?_
      refine n_iadd C dX4_enter_82 ?_
      refine q_put C fp_X4_144 hP hD hS 0 rfl rfl rfl (Nat.le_of_ble_eq_true rfl) dX4_enter_83 (fun H locs hP hD hS => ?_)
      have hP : va_P g.1 vwCl [(b 0, .inr (4, [.ref (b 1), .ref (b 2), .ref (b 3), .ref (b 5), .int (nI ((tN τ) + 1)), .ref (b 6), .ref (b 7), .int (nI ((tClm τ).length)), .ref (b 8), .int (nf)])), (b 1, aC g 4 fc), (b 2, aI g 4 fb), (b 3, .inr (3, [.ref (b 4), .int ((tClk τ) + (1 : Int32))])), (b 4, aI g 8 d), (b 5, aR g 40 (va_up fr (tN τ) (some a))), (b 6, aI g 20 f1), (b 7, aI g 20 f2), (b 8, aR g 40 ff), (a, .inr (2, [.int (nI (kk)), .ref (ca), .int (st), .int (sd), .int (nI (tk)), .ref (na), .ref (ra), .int (nI ((xRun (tDat τ) (tClk τ + 1) st sd qs tk rows0).2.length)), .int (bI (xSt (xRun (tDat τ) (tClk τ + 1) st sd qs tk rows0).1)), .int (bI (v2)), .int (og), .int (ot)])), (na, .inr (1, [.int (rs0 ||| xRS (xRun (tDat τ) (tClk τ + 1) st sd qs tk rows0).1), .int (rw0 ||| xRW (xRun (tDat τ) (tClk τ + 1) st sd qs tk rows0).1), .int (bI (s0 || xSd (xRun (tDat τ) (tClk τ + 1) st sd qs tk rows0).1)), .int (bI (c0 || xCk (xRun (tDat τ) (tClk τ + 1) st sd qs tk rows0).1)), .ref (va)])), (va, aI g 8 v1), (ra, aI g 16 w1)] H := hP
      have hD : va_D (fA b sz) [(b 0, .inr (4, [.ref (b 1), .ref (b 2), .ref (b 3), .ref (b 5), .int (nI ((tN τ) + 1)), .ref (b 6), .ref (b 7), .int (nI ((tClm τ).length)), .ref (b 8), .int (nf)])), (b 1, aC g 4 fc), (b 2, aI g 4 fb), (b 3, .inr (3, [.ref (b 4), .int ((tClk τ) + (1 : Int32))])), (b 4, aI g 8 d), (b 5, aR g 40 (va_up fr (tN τ) (some a))), (b 6, aI g 20 f1), (b 7, aI g 20 f2), (b 8, aR g 40 ff), (a, .inr (2, [.int (nI (kk)), .ref (ca), .int (st), .int (sd), .int (nI (tk)), .ref (na), .ref (ra), .int (nI ((xRun (tDat τ) (tClk τ + 1) st sd qs tk rows0).2.length)), .int (bI (xSt (xRun (tDat τ) (tClk τ + 1) st sd qs tk rows0).1)), .int (bI (v2)), .int (og), .int (ot)])), (na, .inr (1, [.int (rs0 ||| xRS (xRun (tDat τ) (tClk τ + 1) st sd qs tk rows0).1), .int (rw0 ||| xRW (xRun (tDat τ) (tClk τ + 1) st sd qs tk rows0).1), .int (bI (s0 || xSd (xRun (tDat τ) (tClk τ + 1) st sd qs tk rows0).1)), .int (bI (c0 || xCk (xRun (tDat τ) (tClk τ + 1) st sd qs tk rows0).1)), .ref (va)])), (va, aI g 8 v1), (ra, aI g 16 w1)] := hD
      refine lv_aload_n hx hb dX4_enter_86 rfl (lv_at hl 0 rfl) ?_
      refine q_get C f_X4_144 (hP) 0 rfl rfl dX4_enter_87 ?_
      refine lv_iconst (v := nI 1) hx hb dX4_enter_90 (by decide) ?_
      refine n_isub C (by omega) dX4_enter_91 ?_
      exact r_wi C hr hlk hS (⟨sv (by rw [if_neg (by omega), Nat.add_sub_cancel]), by rw [if_neg (show ¬ tN τ = 40 by omega)]; exact bk_push hT hB (hP.sub [0, 1, 2, 3, 4, 5, 6, 7, 8] rfl) ((hF0.keep hS (fun q _ hq => fA_Z hZ q hq)).down (fun _ => Or.inl)) ⟨ca, na, va, ra, v1, w1, hRV, by rw [← hv2]; exact ((hP.sub [9] rfl).app (w2 := [(ca, .inr (0, [.int (nI ((qs).length)), .long (lN (packN (qs)))]))]) (S_keep hS hC0 (one_n hnC))).app (w2 := [(na, .inr (1, [.int (rs0 ||| xRS (xRun (tDat τ) (tClk τ + 1) st sd qs tk rows0).1), .int (rw0 ||| xRW (xRun (tDat τ) (tClk τ + 1) st sd qs tk rows0).1), .int (bI (s0 || xSd (xRun (tDat τ) (tClk τ + 1) st sd qs tk rows0).1)), .int (bI (c0 || xCk (xRun (tDat τ) (tClk τ + 1) st sd qs tk rows0).1)), .ref (va)])), (va, aI g 8 v1), (ra, aI g 16 w1)]) (hP.sub [10, 11, 12] rfl), Z_ge hZs g1, fun q => hca (Or.inl q), Z_ge hZs g2, Z_ge hZs g3, Z_ge hZs g4⟩⟩) dX4_enter_92
    refine lv_aload_n hx hb dX4_enter_42 rfl (lv_at hl 1 rfl) ?_
    refine lv_aload_n hx hb dX4_enter_43 rfl (lv_at hl 1 rfl) ?_
    refine k_i (c_V (As := []) (rest := [.ref (a)]) C v_X4_234 (c2_isComparable l g a (mkRun (tDat τ) (tClk τ + 1) kk qs st sd tk rows0 og ot rs0 rw0 s0 c0 was) false hO) ⟨Nat.le_of_ble_eq_true rfl, Nat.le_of_ble_eq_true rfl⟩ (q_recv C hP 9 rfl rfl) (hRM) hl.1 rfl rfl (Nat.le_of_ble_eq_true rfl) dX4_enter_44 ⟨Nat.le_of_ble_eq_true rfl, Nat.le_of_ble_eq_true rfl⟩) (fun r44 q44 => ?_)
    subst q44
    refine b_ifeq (tgt := 62) C dX4_enter_47 (by decide) (fun c47 => ?_) (fun c47 => ?_)
    · skip
      refine lv_iconst (v := bI false) hx hb dX4_enter_62 (by decide) ?_
      exact jn (false) ls (by rw [← cnt_last hI hBn, c47]; rfl) (lv_sub hl [0, 1] rfl)
    · skip
      refine lv_aload_n hx hb dX4_enter_50 rfl (lv_at hl 0 rfl) ?_
      refine lv_aload_n hx hb dX4_enter_51 rfl (lv_at hl 1 rfl) ?_
      refine k_i (c_V (As := [.ref (a)]) (rest := [.ref (a)]) C v_X4_237 (c4_isCountedAlready l g b (clk1 τ) hT nf fc fb d fr f1 f2 ff cad rad hB (fZ Z sz) a (mkRun (tDat τ) (tClk τ + 1) kk qs st sd tk rows0 og ot rs0 rw0 s0 c0 was) false hO) ⟨Nat.le_of_ble_eq_true rfl, Nat.le_of_ble_eq_true rfl⟩ (q_recv C hP 0 rfl rfl) (⟨hP.sub [0, 1, 2, 3, 4, 5, 6, 7, 8] rfl, hF, hRM⟩) hl.1 rfl rfl (Nat.le_of_ble_eq_true rfl) dX4_enter_52 ⟨Nat.le_of_ble_eq_true rfl, Nat.le_of_ble_eq_true rfl⟩) (fun r52 q52 => ?_)
      subst q52
      refine b_ifne (tgt := 62) C dX4_enter_55 (by decide) (fun c55 => ?_) (fun c55 => ?_)
      · skip
        refine lv_iconst (v := bI false) hx hb dX4_enter_62 (by decide) ?_
        exact jn (false) ls (by have c55 : ((List.range (tN τ)).any (fun o => cntB τ o && rlkB (tRun τ o) (mkRun (tDat τ) (tClk τ + 1) kk qs st sd tk rows0 og ot rs0 rw0 s0 c0 was))) = true := c55; rw [← cnt_last hI hBn, c47, c55]; rfl) (lv_sub hl [0, 1] rfl)
      · skip
        refine lv_iconst (v := bI true) hx hb dX4_enter_58 (by decide) ?_
        refine lv_goto (tgt := 63) hx hb dX4_enter_59 (by decide) ?_
        exact jn (true) ls (by have c55 : ((List.range (tN τ)).any (fun o => cntB τ o && rlkB (tRun τ o) (mkRun (tDat τ) (tClk τ + 1) kk qs st sd tk rows0 og ot rs0 rw0 s0 c0 was))) = false := c55; rw [← cnt_last hI hBn, c47, c55]; rfl) (lv_sub hl [0, 1] rfl)
  · skip
    refine lv_iconst (v := (-1)) hx hb dX4_enter_19 (by decide) ?_
    exact r_wi C hr hlk hS (⟨sv (by rw [if_pos (by omega)]), by rw [if_pos (show tN τ = 40 by omega)]; exact ⟨cad, rad, ⟨nf, fc, fb, d, fr, f1, f2, ff, hB, hP.sub [0, 1, 2, 3, 4, 5, 6, 7, 8] rfl⟩, hF0.down (fun _ => Or.inl)⟩⟩) dX4_enter_20

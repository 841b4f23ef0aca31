/-! PURE: what the class's ways have to do with the book's answers -/
theorem or_z {x y : Int32} (h : x ||| y = 0) : x = 0 ∧ y = 0 := by
  have h2 : x.toBitVec ||| y.toBitVec = 0#32 := by
    have := congrArg Int32.toBitVec h
    simpa using this
  have h3 := BitVec.or_eq_zero_iff.mp h2
  exact ⟨Int32.toBitVec_inj.mp h3.1, Int32.toBitVec_inj.mp h3.2⟩
theorem chgM0 (dat : Nat → Int32) (ρ : RunT) : ∀ n, n ≤ 8 → (chgM dat ρ n = 0 ↔ ∀ i, i < n → chgB dat ρ i = false)
  | 0, _ => ⟨fun _ i hi => absurd hi (by omega), fun _ => rfl⟩
  | n + 1, hn => by
    have ih := chgM0 dat ρ n (by omega)
    simp only [chgM]
    cases e : chgB dat ρ n with
    | true =>
      simp only [if_true]
      constructor
      · intro h; exact absurd (or_z h).2 ((by decide +kernel : ∀ i, i < 8 → bitI i ≠ 0) n (by omega))
      · intro h; rw [h n (by omega)] at e; cases e
    | false =>
      simp only [Bool.false_eq_true, if_false]
      rw [ih]
      exact ⟨fun h => lt_s1 h e, fun h i hi => h i (by omega)⟩
theorem stale_e {τ : TB} {ρ : RunT} : staleB τ ρ = (!decide (rStp ρ = tCode τ (rCode ρ)) || decide (¬ chgM (tDat τ) ρ 8 = 0)) := by
  unfold staleB
  congr 1
  rw [Bool.eq_iff_iff, decide_eq_true_eq, chgM0 _ _ 8 (Nat.le_refl _), List.any_eq_true]
  constructor
  · rintro ⟨i, hi, h⟩ hz
    rw [hz i (List.mem_range.mp hi)] at h; cases h
  · intro h
    refine Classical.byContradiction (fun hc => h (fun i hi => ?_))
    cases e : chgB (tDat τ) ρ i with
    | false => rfl
    | true => exact absurd ⟨i, List.mem_range.mpr hi, e⟩ hc
theorem sav_e {τ : TB} {qs : List Nat} {all own : Int32} {tk : Nat} {ρ : RunT} : savB τ qs all own tk ρ = (fitB ρ all && fsdB ρ own && usB (tDat τ) ρ qs tk) := by
  have h8 : (List.range 8).all (fun i => !chgB (tDat τ) ρ i) = decide (chgM (tDat τ) ρ 8 = 0) := by
    rw [Bool.eq_iff_iff, decide_eq_true_eq, chgM0 _ _ 8 (Nat.le_refl _), allR]
    exact ⟨fun h i hi => by simpa using h i hi, fun h i hi => by simp [h i hi]⟩
  unfold savB usB cmpB fitB fsdB
  rw [h8]
  generalize decide (rOrg ρ = (-1)) = x1
  generalize rBr ρ = x2
  generalize rCk ρ = x3
  generalize decide (tk ≤ rTk ρ) = x4
  generalize decide (rStp ρ = qs) = x5
  generalize (!rSd ρ || decide (rSeed ρ = own)) = x6
  generalize (List.range 4).all (fun i => !hasB (rRS ρ) i || decide (sett (rSet ρ) i = sett all i)) = x7
  generalize decide (chgM (tDat τ) ρ 8 = 0) = x8
  cases x1 <;> cases x2 <;> cases x3 <;> cases x4 <;> cases x5 <;> cases x6 <;> cases x7 <;> cases x8 <;> rfl
theorem msk_gen (x y c : Int32) : (x &&& (c ^^^ (-1)) = y &&& (c ^^^ (-1))) ↔ x ^^^ y = (x ^^^ y) &&& c := by
  rw [← Int32.toBitVec_inj, ← Int32.toBitVec_inj]
  simp only [Int32.toBitVec_and, Int32.toBitVec_xor]
  rw [show Int32.toBitVec (-1) = BitVec.allOnes 32 by decide]
  generalize x.toBitVec = a
  generalize y.toBitVec = b
  generalize c.toBitVec = d
  constructor
  · intro h
    ext j hj
    have h2 := congrArg (fun z : BitVec 32 => z[j]) h
    simp only [BitVec.getElem_and, BitVec.getElem_xor, BitVec.getElem_allOnes] at h2 ⊢
    revert h2
    cases a[j] <;> cases b[j] <;> cases d[j] <;> decide
  · intro h
    ext j hj
    have h2 := congrArg (fun z : BitVec 32 => z[j]) h
    simp only [BitVec.getElem_and, BitVec.getElem_xor, BitVec.getElem_allOnes] at h2 ⊢
    revert h2
    cases a[j] <;> cases b[j] <;> cases d[j] <;> decide
theorem bv_sett (a b : BitVec 32) (n : Nat) (hn : n + 4 ≤ 32) : ((a.sshiftRight n &&& 15#32) ^^^ (b.sshiftRight n &&& 15#32)) <<< n = (a ^^^ b) &&& (15#32 <<< n) := by
  ext j hj
  simp only [BitVec.getElem_shiftLeft, BitVec.getElem_and, BitVec.getElem_xor, BitVec.getElem_sshiftRight]
  by_cases h : j < n
  · simp [h]
  · simp only [h, dif_neg, not_false_eq_true, dite_false, if_false]
    have e : n + (j - n) = j := by omega
    by_cases h4 : n + (j - n) < 32
    · simp only [e, dif_pos hj]
      cases a[j] <;> cases b[j] <;> cases (15#32)[j - n] <;> rfl
    · omega
theorem sett_xor (x y : Int32) : ∀ i, i < 4 → (sett x i ^^^ sett y i) <<< ((nI (4 * i)) &&& 31) = (x ^^^ y) &&& ((15 : Int32) <<< ((nI (4 * i)) &&& 31)) := by
  intro i hi
  have key : ∀ (k : Int32) (n : Nat), (k.toBitVec.smod 32).toNat = n → n + 4 ≤ 32 → (((x >>> k) &&& 15) ^^^ ((y >>> k) &&& 15)) <<< k = (x ^^^ y) &&& ((15 : Int32) <<< k) := by
    intro k n hk hn
    apply Int32.toBitVec_inj.mp
    show ((x.toBitVec.sshiftRight (k.toBitVec.smod 32).toNat &&& 15#32) ^^^ (y.toBitVec.sshiftRight (k.toBitVec.smod 32).toNat &&& 15#32)) <<< (k.toBitVec.smod 32).toNat = (x.toBitVec ^^^ y.toBitVec) &&& (15#32 <<< (k.toBitVec.smod 32).toNat)
    rw [hk]
    exact bv_sett _ _ n hn
  unfold sett
  rcases (show i = 0 ∨ i = 1 ∨ i = 2 ∨ i = 3 by omega) with rfl | rfl | rfl | rfl
  · exact key _ 0 (by decide) (by omega)
  · exact key _ 4 (by decide) (by omega)
  · exact key _ 8 (by decide) (by omega)
  · exact key _ 12 (by decide) (by omega)
theorem mask_xor (x y : Int32) {i : Nat} (hi : i < 4) : (x &&& msk i = y &&& msk i) ↔ x ^^^ y = (sett x i ^^^ sett y i) <<< ((nI (4 * i)) &&& 31) := by
  rw [sett_xor x y i hi]
  exact msk_gen x y _
/-- the words that a run reads hang on its steps, settings and ticks alone, if it does not break -/
def tRW (all : Int32) (t : Nat) : List Nat → Int32 → Bool → Int32
  | [], x, _ => x
  | q :: qs, x, sk => if sk then tRW all t qs x false else tRW all t qs (if q / 16 = 5 then x ||| bitI ((t + q % 16) % 8) else x) (xSkip all q)
theorem xRW_step (dat : Nat → Int32) (clk all own : Int32) (t q : Nat) (X : XS) : xRW (xStep dat clk all own t q X) = if q / 16 = 5 then xRW X ||| bitI ((t + q % 16) % 8) else xRW X := by
  by_cases h : q / 16 = 5
  · rw [xs_5 h, if_pos h]; rfl
  · rw [if_neg h]
    by_cases h0 : q / 16 = 0
    · rw [xs_0 h0]; rfl
    · by_cases h1 : q / 16 = 1
      · rw [xs_1 h1]; rfl
      · by_cases h2 : q / 16 = 2
        · rw [xs_2 h2]; rfl
        · by_cases h3 : q / 16 = 3
          · rw [xs_3 h3]; rfl
          · by_cases h4 : q / 16 = 4
            · rw [xs_4 h4]; rfl
            · by_cases h6 : q / 16 = 6
              · rw [xs_6 h6]; rfl
              · by_cases h7 : q / 16 = 7
                · rw [xs_7 h7]; rfl
                · by_cases h8 : q / 16 = 8
                  · rw [xs_8 h8]; rfl
                  · by_cases h9 : q / 16 = 9
                    · rw [xs_9 h9]; rfl
                    · rw [xs_n (by omega)]
theorem tRW_e (dat : Nat → Int32) (clk all own : Int32) (t : Nat) : ∀ (qs : List Nat) (X : XS) (sk : Bool), xSt (xTick dat clk all own t qs X sk) = false → xRW (xTick dat clk all own t qs X sk) = tRW all t qs (xRW X) sk
  | [], X, sk, _ => rfl
  | q :: qs, X, sk, h => by
    by_cases hs : xSt X = true
    · rw [xT_stop _ hs, hs] at h; cases h
    · have hs : xSt X = false := by simpa using hs
      cases sk with
      | true =>
        have e : xTick dat clk all own t (q :: qs) X true = xTick dat clk all own t qs X false := by simp [xTick, hs]
        rw [e] at h ⊢
        rw [tRW_e dat clk all own t qs X false h]; simp [tRW]
      | false =>
        have e : xTick dat clk all own t (q :: qs) X false = xTick dat clk all own t qs (xStep dat clk all own t q X) (xSkip all q) := by simp [xTick, hs]
        rw [e] at h ⊢
        rw [tRW_e dat clk all own t qs _ _ h, xRW_step]; simp [tRW]
def gRW (all : Int32) (qs : List Nat) : Nat → Nat → Int32 → Int32
  | 0, _, x => x
  | n + 1, t, x => gRW all qs n (t + 1) (tRW all t qs x false)
theorem gRW_e (dat : Nat → Int32) (clk all own : Int32) (qs : List Nat) : ∀ (n t : Nat) (X : XS) (rows : List Int32), xSt (xGo dat clk all own qs n t X rows).1 = false → xRW (xGo dat clk all own qs n t X rows).1 = gRW all qs n t (xRW X)
  | 0, t, X, rows, _ => rfl
  | n + 1, t, X, rows, h => by
    by_cases hs : xSt (xTick dat clk all own t qs X false) = true
    · have e : xGo dat clk all own qs (n + 1) t X rows = (xTick dat clk all own t qs X false, rows) := by simp [xGo, hs]
      rw [e] at h
      rw [hs] at h; cases h
    · have hs : xSt (xTick dat clk all own t qs X false) = false := by simpa using hs
      have e : xGo dat clk all own qs (n + 1) t X rows = xGo dat clk all own qs n (t + 1) (xTick dat clk all own t qs X false) (rows ++ [xV (xTick dat clk all own t qs X false)]) := by simp [xGo, hs]
      rw [e] at h ⊢
      rw [gRW_e dat clk all own qs n (t + 1) _ _ h, tRW_e dat clk all own t qs X false hs]; rfl
def Born (ρ : RunT) : Prop := cmpB ρ = true → rRW ρ = gRW (rSet ρ) (rStp ρ) (rTk ρ) 0 0
def Low (ρ : RunT) : Prop := rRW ρ &&& 255 = rRW ρ
def INV (τ : TB) : Prop := ∀ r, r < tN τ → Born (tRun τ r) ∧ Low (tRun τ r)
/-- bits that are low stay so -/
theorem and_or_d (x y z : Int32) : (x ||| y) &&& z = (x &&& z) ||| (y &&& z) := by
  apply Int32.toBitVec_inj.mp
  simp only [Int32.toBitVec_and, Int32.toBitVec_or]
  ext k
  simp only [BitVec.getElem_and, BitVec.getElem_or]
  cases x.toBitVec[k] <;> cases y.toBitVec[k] <;> cases z.toBitVec[k] <;> rfl
theorem low_or {x y : Int32} (hx : x &&& 255 = x) (hy : y &&& 255 = y) : (x ||| y) &&& 255 = x ||| y := by rw [and_or_d, hx, hy]
theorem low_tick (dat : Nat → Int32) (clk all own : Int32) (t : Nat) : ∀ (qs : List Nat) (X : XS) (sk : Bool), xRW X &&& 255 = xRW X → xRW (xTick dat clk all own t qs X sk) &&& 255 = xRW (xTick dat clk all own t qs X sk)
  | [], X, sk, h => h
  | q :: qs, X, sk, h => by
    by_cases hs : xSt X = true
    · rw [xT_stop _ hs]; exact h
    · have hs : xSt X = false := by simpa using hs
      cases sk with
      | true =>
        have e : xTick dat clk all own t (q :: qs) X true = xTick dat clk all own t qs X false := by simp [xTick, hs]
        rw [e]; exact low_tick dat clk all own t qs X false h
      | false =>
        have e : xTick dat clk all own t (q :: qs) X false = xTick dat clk all own t qs (xStep dat clk all own t q X) (xSkip all q) := by simp [xTick, hs]
        rw [e]
        refine low_tick dat clk all own t qs _ _ ?_
        rw [xRW_step]
        split
        · exact low_or h ((by decide +kernel : ∀ i, i < 8 → bitI i &&& 255 = bitI i) _ (Nat.mod_lt _ (by decide)))
        · exact h
theorem low_go (dat : Nat → Int32) (clk all own : Int32) (qs : List Nat) : ∀ (n t : Nat) (X : XS) (rows : List Int32), xRW X &&& 255 = xRW X → xRW (xGo dat clk all own qs n t X rows).1 &&& 255 = xRW (xGo dat clk all own qs n t X rows).1
  | 0, t, X, rows, h => h
  | n + 1, t, X, rows, h => by
    have h2 := low_tick dat clk all own t qs X false h
    by_cases hs : xSt (xTick dat clk all own t qs X false) = true
    · have e : xGo dat clk all own qs (n + 1) t X rows = (xTick dat clk all own t qs X false, rows) := by simp [xGo, hs]
      rw [e]; exact h2
    · have hs : xSt (xTick dat clk all own t qs X false) = false := by simpa using hs
      have e : xGo dat clk all own qs (n + 1) t X rows = xGo dat clk all own qs n (t + 1) (xTick dat clk all own t qs X false) (rows ++ [xV (xTick dat clk all own t qs X false)]) := by simp [xGo, hs]
      rw [e]; exact low_go dat clk all own qs n (t + 1) _ _ h2
theorem low_mk {dat : Nat → Int32} {clk : Int32} {k : Nat} {qs : List Nat} {st sd : Int32} {tk : Nat} {rows : List Int32} {og at' rs rw' : Int32} {bs bc : Bool} {was : Nat → Int32} (h : rw' &&& 255 = rw') : Low (mkRun dat clk k qs st sd tk rows og at' rs rw' bs bc was) :=
  low_or h (low_go dat clk st sd qs _ _ _ rows (show (0 : Int32) &&& 255 = 0 by decide))
theorem born_new {dat : Nat → Int32} {clk : Int32} {k : Nat} {qs : List Nat} {st sd : Int32} {tk : Nat} {was : Nat → Int32} : Born (mkRun dat clk k qs st sd tk [] (-1) (-1) 0 0 false false was) := by
  intro hc
  have hb : xSt (xRun dat clk st sd qs tk []).1 = false := by
    simp only [cmpB, Bool.and_eq_true, Bool.not_eq_true'] at hc
    exact hc.1.2
  have h2 := gRW_e dat clk st sd qs _ _ _ [] hb
  show 0 ||| xRW (xRun dat clk st sd qs tk []).1 = gRW st qs tk 0 0
  rw [or0]
  exact h2
theorem born_fork {ρ : RunT} {r : Nat} (h : rOrg ρ = nI r) (hr : r < 40) : Born ρ := by
  intro hc
  simp only [cmpB, Bool.and_eq_true, decide_eq_true_eq] at hc
  have h2 := hc.1.1
  rw [h] at h2
  exact absurd h2 ((by decide +kernel : ∀ r, r < 40 → nI r ≠ (-1)) r hr)
/-- a run counts, if no lesser one is like it: by those that count, or by all -/
def cntB (τ : TB) (r : Nat) : Bool := cmpB (tRun τ r) && leastB τ r (rTk (tRun τ r))
theorem may_e {ρ : RunT} {tk : Nat} : mayB ρ tk = (cmpB ρ && decide (rTk ρ = tk)) := rfl
theorem has_self {x : Int32} {i : Nat} (h : hasB x i = true) : hasB (x &&& x) i = true := by rw [Int32.and_self]; exact h
theorem like_e {ρ σ : RunT} : likeB ρ σ = true ↔ rStp ρ = rStp σ ∧ rSeed ρ = rSeed σ ∧ rTk ρ = rTk σ ∧ agrB ρ σ = true := by
  simp only [likeB, Bool.and_eq_true, decide_eq_true_eq, agrB, and_assoc]
theorem rlk_e {ρ σ : RunT} : rlkB ρ σ = true ↔ rStp ρ = rStp σ ∧ rSet ρ = rSet σ ∧ rSeed ρ = rSeed σ ∧ rTk ρ = rTk σ ∧ rRW ρ = rRW σ ∧ agrB ρ σ = true := by
  simp only [rlkB, Bool.and_eq_true, decide_eq_true_eq, and_assoc]
theorem agr_e {ρ σ : RunT} : agrB ρ σ = true ↔ ∀ i, i < 8 → hasB (rRW ρ &&& rRW σ) i = true → rWas ρ i = rWas σ i := by
  rw [agrB, allR]
  refine ⟨fun h i hi hb => ?_, fun h i hi => ?_⟩
  · have h2 := h i hi
    rw [hb] at h2
    simpa using h2
  · cases e : hasB (rRW ρ &&& rRW σ) i with
    | false => simp
    | true => simp [h i hi e]
theorem least_no {τ : TB} {p tk : Nat} (h : leastB τ p tk = false) : ∃ o, o < p ∧ mayB (tRun τ o) tk = true ∧ rSet (tRun τ o) = rSet (tRun τ p) ∧ likeB (tRun τ o) (tRun τ p) = true := by
  refine Classical.byContradiction (fun hc => ?_)
  have h2 : leastB τ p tk = true := by
    rw [leastB, allR]
    intro o ho
    cases e : (mayB (tRun τ o) tk && decide (rSet (tRun τ o) = rSet (tRun τ p)) && likeB (tRun τ o) (tRun τ p)) with
    | false => rfl
    | true =>
      simp only [Bool.and_eq_true, decide_eq_true_eq] at e
      exact absurd ⟨o, ho, e.1.1, e.1.2, e.2⟩ hc
  rw [h2] at h; cases h
theorem least_has {τ : TB} {p : Nat} (hp : cmpB (tRun τ p) = true) (hI : ∀ r, r ≤ p → Born (tRun τ r)) : ∀ (m o : Nat), o < m → o < p → cmpB (tRun τ o) = true → rSet (tRun τ o) = rSet (tRun τ p) → likeB (tRun τ o) (tRun τ p) = true → ∃ r, r < p ∧ cntB τ r = true ∧ rlkB (tRun τ r) (tRun τ p) = true
  | 0, o, h, _, _, _, _ => absurd h (by omega)
  | m + 1, o, h, ho, hc, hs, hl => by
    obtain ⟨l1, l2, l3, l4⟩ := like_e.mp hl
    have e1 : rRW (tRun τ o) = rRW (tRun τ p) := by rw [hI o (by omega) hc, hI p (Nat.le_refl _) hp, hs, l1, l3]
    cases e : leastB τ o (rTk (tRun τ o)) with
    | true => exact ⟨o, ho, by rw [cntB, hc, e]; rfl, rlk_e.mpr ⟨l1, hs, l2, l3, e1, l4⟩⟩
    | false =>
      obtain ⟨o2, h2, hm, hs2, hl2⟩ := least_no e
      obtain ⟨k1, k2, k3, k4⟩ := like_e.mp hl2
      rw [may_e, Bool.and_eq_true] at hm
      have e2 : rRW (tRun τ o2) = rRW (tRun τ o) := by rw [hI o (by omega) hc, hI o2 (by omega) hm.1, hs2, k1, k3]
      refine least_has hp hI m o2 (by omega) (by omega) hm.1 (hs2.trans hs) (like_e.mpr ⟨k1.trans l1, k2.trans l2, k3.trans l3, agr_e.mpr (fun i hi hb => ?_)⟩)
      rw [e2, e1, Int32.and_self] at hb
      exact (agr_e.mp k4 i hi (by rw [e2, e1, Int32.and_self]; exact hb)).trans (agr_e.mp l4 i hi (by rw [e1, Int32.and_self]; exact hb))
theorem cnt_e {τ : TB} {p : Nat} (hI : ∀ r, r ≤ p → Born (tRun τ r)) : (cmpB (tRun τ p) && !((List.range p).any (fun o => cntB τ o && rlkB (tRun τ o) (tRun τ p)))) = cntB τ p := by
  cases hp : cmpB (tRun τ p) with
  | false => rw [cntB, hp]; rfl
  | true =>
    rw [cntB, hp, Bool.true_and, Bool.true_and]
    cases e : leastB τ p (rTk (tRun τ p)) with
    | false =>
      obtain ⟨o, h2, hm, hs2, hl2⟩ := least_no e
      rw [may_e, Bool.and_eq_true] at hm
      obtain ⟨r, hr, h3, h4⟩ := least_has hp hI (o + 1) o (by omega) h2 hm.1 hs2 hl2
      rw [anyR hr (by rw [h3, h4]; rfl)]; rfl
    | true =>
      rw [anyRf (fun o ho => ?_)]; rfl
      cases h3 : cntB τ o with
      | false => rfl
      | true =>
        cases h4 : rlkB (tRun τ o) (tRun τ p) with
        | false => rfl
        | true =>
          rw [leastB, allR] at e
          have e2 := e o ho
          obtain ⟨l1, l2, l3, l4, l5, l6⟩ := rlk_e.mp h4
          rw [cntB, Bool.and_eq_true] at h3
          rw [may_e, h3.1, decide_eq_true l4, decide_eq_true l2, like_e.mpr ⟨l1, l3, l4, l6⟩] at e2
          exact absurd e2 (by decide)

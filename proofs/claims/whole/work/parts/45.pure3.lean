/-! PURE: a run more, a run again; what can be stays so -/
theorem xs_cg {d d' : Nat → Int32} (h : ∀ i, i < 8 → d i = d' i) (clk all own : Int32) (t q : Nat) (X : XS) : xStep d clk all own t q X = xStep d' clk all own t q X := by
  unfold xStep
  rw [h _ (Nat.mod_lt _ (by decide))]
theorem xT_cg {d d' : Nat → Int32} (h : ∀ i, i < 8 → d i = d' i) (clk all own : Int32) (t : Nat) : ∀ (qs : List Nat) (X : XS) (sk : Bool), xTick d clk all own t qs X sk = xTick d' clk all own t qs X sk
  | [], _, _ => rfl
  | q :: qs, X, sk => by
    simp only [xTick]
    rw [xT_cg h clk all own t qs X false, xs_cg h, xT_cg h clk all own t qs]
theorem xG_cg {d d' : Nat → Int32} (h : ∀ i, i < 8 → d i = d' i) (clk all own : Int32) (qs : List Nat) : ∀ (n t : Nat) (X : XS) (rows : List Int32), xGo d clk all own qs n t X rows = xGo d' clk all own qs n t X rows
  | 0, _, _, _ => rfl
  | n + 1, t, X, rows => by
    simp only [xGo]
    rw [xT_cg h, xG_cg h clk all own qs n]
theorem xR_cg {d d' : Nat → Int32} (h : ∀ i, i < 8 → d i = d' i) (clk all own : Int32) (qs : List Nat) (tk : Nat) (rows : List Int32) : xRun d clk all own qs tk rows = xRun d' clk all own qs tk rows := xG_cg h clk all own qs _ _ _ _
theorem xR_len (dat : Nat → Int32) (clk all own : Int32) (qs : List Nat) (tk : Nat) (rows : List Int32) (h : rows.length ≤ tk) : rows.length ≤ (xRun dat clk all own qs tk rows).2.length ∧ (xRun dat clk all own qs tk rows).2.length ≤ tk ∧ (xSt (xRun dat clk all own qs tk rows).1 = false → (xRun dat clk all own qs tk rows).2.length = tk) ∧ ∀ j, j < rows.length → (xRun dat clk all own qs tk rows).2.getD j 0 = rows.getD j 0 := by
  have z := xG_len dat clk all own qs (tk - rows.length) rows.length (lastR rows, 0, 0, false, false, false) rows rfl
  refine ⟨z.1, ?_, fun q => ?_, z.2.2.2⟩
  · have z2 : (xRun dat clk all own qs tk rows).2.length ≤ rows.length + (tk - rows.length) := z.2.1
    omega
  · have z3 : (xRun dat clk all own qs tk rows).2.length = rows.length + (tk - rows.length) := z.2.2.1 rfl q
    omega
theorem run_ok {dat : Nat → Int32} {clk : Int32} {k : Nat} {qs : List Nat} {st sd : Int32} {tk : Nat} {rows : List Int32} {og at' rs rw' : Int32} {bs bc : Bool} {was : Nat → Int32} (hk : k < 4) (hq8 : qs.length ≤ 8) (hq : ∀ q ∈ qs, q < 256) (hst : sOK st = true) (hsd : inR sd 0 99 = true) (h1 : 1 ≤ tk) (h16 : tk ≤ 16) (hrw : rows.length ≤ tk) (hog : (og = (-1) ∧ at' = (-1)) ∨ (inR og 0 39 = true ∧ ∃ a : Nat, a ≤ rows.length ∧ at' = nI a)) : RunOK (mkRun dat clk k qs st sd tk rows og at' rs rw' bs bc was) := by
  obtain ⟨z1, z2, z3, -⟩ := xR_len dat clk st sd qs tk rows hrw
  refine ⟨hk, hq8, hq, hst, hsd, h1, h16, z2, z3, ?_⟩
  rcases hog with h | ⟨h, a, ha, e⟩
  · exact Or.inl h
  · exact Or.inr ⟨h, a, Nat.le_trans ha z1, e⟩
theorem rv_mk {dat d : Nat → Int32} {clk : Int32} {k : Nat} {qs : List Nat} {st sd : Int32} {tk : Nat} {rows : List Int32} {og at' rs rw' : Int32} {bs bc : Bool} {was v0 v' w' : Nat → Int32} (hd : ∀ i, i < 8 → d i = dat i) (h0 : ∀ i, i < 8 → hasB rw' i = true → v0 i = was i) (hv : ∀ i, i < 8 → v' i = if hasB (xRW (xRun dat clk st sd qs tk rows).1) i then d i else v0 i) (hw : ∀ j, j < (xRun dat clk st sd qs tk rows).2.length → w' j = (xRun dat clk st sd qs tk rows).2.getD j 0) : RV (mkRun dat clk k qs st sd tk rows og at' rs rw' bs bc was) v' w' := by
  refine ⟨fun i hi hb => ?_, hw⟩
  have hb2 : hasB (rw' ||| xRW (xRun dat clk st sd qs tk rows).1) i = true := hb
  show v' i = if hasB (xRW (xRun dat clk st sd qs tk rows).1) i then dat i else was i
  rw [hv i hi]
  rw [hasOr, Bool.or_eq_true] at hb2
  by_cases e : hasB (xRW (xRun dat clk st sd qs tk rows).1) i = true
  · rw [if_pos e, if_pos e, hd i hi]
  · rw [if_neg e, if_neg e]
    rcases hb2 with h | h
    · exact h0 i hi h
    · exact absurd h e
theorem least_cg {τ σ : TB} {p tk : Nat} (h : ∀ r, r ≤ p → tRun σ r = tRun τ r) : leastB σ p tk = leastB τ p tk := by
  unfold leastB
  rw [Bool.eq_iff_iff, allR, allR]
  constructor
  · intro k o ho
    have := k o ho
    rw [h o (by omega), h p (Nat.le_refl _)] at this
    exact this
  · intro k o ho
    rw [h o (by omega), h p (Nat.le_refl _)]
    exact k o ho
theorem cnt_cg {τ σ : TB} {r : Nat} (h : ∀ o, o ≤ r → tRun σ o = tRun τ o) : cntB σ r = cntB τ r := by
  unfold cntB
  rw [h r (Nat.le_refl _), least_cg h]
theorem cnt_push {τ : TB} {ρ : RunT} {r : Nat} (h : r < tN τ) : cntB (pushT τ ρ) r = cntB τ r := cnt_cg (fun o ho => push_old (by omega))
theorem cnt_last {τ : TB} {ρ : RunT} (hI : INV τ) (hB : Born ρ) : (cmpB ρ && !((List.range (tN τ)).any (fun o => cntB τ o && rlkB (tRun τ o) ρ))) = cntB (pushT τ ρ) (tN τ) := by
  rw [← cnt_e (τ := pushT τ ρ) (p := tN τ) (fun r hr => ?_), push_new]
  · congr 2
    rw [Bool.eq_iff_iff, List.any_eq_true, List.any_eq_true]
    constructor
    · rintro ⟨o, ho, h⟩
      exact ⟨o, ho, by rw [cnt_push (List.mem_range.mp ho), push_old (List.mem_range.mp ho)]; exact h⟩
    · rintro ⟨o, ho, h⟩
      rw [cnt_push (List.mem_range.mp ho), push_old (List.mem_range.mp ho)] at h
      exact ⟨o, ho, h⟩
  · rcases Nat.lt_or_ge r (tN τ) with h | h
    · rw [push_old h]; exact (hI r h).1
    · rw [show r = tN τ by omega, push_new]; exact hB
theorem TOK.push {τ : TB} {ρ : RunT} (hT : TOK τ) (hn : tN τ < 40) (hO : RunOK ρ) : TOK (pushT τ ρ) := by
  obtain ⟨h1, h2, h3, h4, h5, h6⟩ := hT
  refine ⟨h1, h2, by rw [push_n]; omega, fun r hr => ?_, h5, fun r hr => ?_⟩
  · rw [push_n] at hr
    rcases Nat.lt_or_ge r (tN τ) with h | h
    · rw [push_old h]; exact h4 r h
    · rw [show r = tN τ by omega, push_new]; exact hO
  · have h := h6 r hr
    rw [push_n, push_old h.1]
    exact ⟨by omega, h.2⟩
theorem INV.push {τ : TB} {ρ : RunT} (hI : INV τ) (hB : Born ρ) (hL : Low ρ) : INV (pushT τ ρ) := by
  intro r hr
  rw [push_n] at hr
  rcases Nat.lt_or_ge r (tN τ) with h | h
  · rw [push_old h]; exact hI r h
  · rw [show r = tN τ by omega, push_new]; exact ⟨hB, hL⟩
theorem new_ok {τ : TB} (hT : TOK τ) {k all own t : Int32} (h : canRunB k all own t = true) : RunOK (newRun τ k.toNatClampNeg all own t.toNatClampNeg) := by
  simp only [canRunB, Bool.and_eq_true] at h
  obtain ⟨k1, hk, rfl⟩ := inR_nI (hi := 3) h.1.1.1
  obtain ⟨t1, ht0, ht1, rfl⟩ := inR1_nI (hi := 16) h.2
  rw [nI_clamp (by omega), nI_clamp (by omega)]
  have hc := hT.1 k1 (by omega)
  exact run_ok (by omega) hc.1 hc.2 h.1.1.2 h.1.2 ht0 ht1 (Nat.zero_le _) (Or.inl ⟨rfl, rfl⟩)
theorem fork_ok {τ : TB} (hT : TOK τ) {r t : Nat} {all own : Int32} (hr : r < tN τ) (hb : rBr (tRun τ r) = false) (ht : t ≤ (rRow (tRun τ r)).length) (h1 : sOK all = true) (h2 : inR own 0 99 = true) : RunOK (newFork τ r t all own) := by
  have hO := hT.2.2.2.1 r hr
  have h40 := hT.2.2.1
  have hl : ((rRow (tRun τ r)).take t).length = t := by rw [List.length_take]; omega
  exact run_ok hO.1 hO.2.1 hO.2.2.1 h1 h2 hO.2.2.2.2.2.1 hO.2.2.2.2.2.2.1 (by rw [hl]; exact Nat.le_trans ht hO.2.2.2.2.2.2.2.1) (Or.inr ⟨inR_iff.mpr (by rw [nI_toInt (by omega)]; omega), t, by rw [hl]; exact Nat.le_refl _, rfl⟩)
theorem again_ok {τ : TB} {ρ : RunT} (hO : RunOK ρ) {x : Int32} {a : Nat} (ha : a ≤ (rRow ρ).length) : RunOK (mkRun (tDat τ) x (rCode ρ) (rStp ρ) (rSet ρ) (rSeed ρ) (rTk ρ) ((rRow ρ).take a) (-1) (-1) 0 0 false false (fun _ => 0)) := by
  have hl : ((rRow ρ).take a).length = a := by rw [List.length_take]; omega
  exact run_ok hO.1 hO.2.1 hO.2.2.1 hO.2.2.2.1 hO.2.2.2.2.1 hO.2.2.2.2.2.1 hO.2.2.2.2.2.2.1 (by rw [hl]; exact Nat.le_trans ha hO.2.2.2.2.2.2.2.1) (Or.inl ⟨rfl, rfl⟩)
theorem born_fk {τ : TB} (hT : TOK τ) {r t : Nat} {all own : Int32} (hr : r < tN τ) : Born (newFork τ r t all own) := born_fork (r := r) rfl (by have := hT.2.2.1; omega)
/-- the first tick that is other -/
theorem fe_spec {p : Nat → Bool} : ∀ (n i : Nat), i ≤ fstE p n i ∧ fstE p n i ≤ i + n ∧ (∀ q, i ≤ q → q < fstE p n i → p q = false) ∧ (fstE p n i < i + n → p (fstE p n i) = true)
  | 0, i => ⟨Nat.le_refl _, Nat.le_refl _, fun q h1 h2 => absurd h2 (by simp only [fstE]; omega), fun h => absurd h (by simp only [fstE]; omega)⟩
  | n + 1, i => by
    obtain ⟨h1, h2, h3, h4⟩ := fe_spec (p := p) n (i + 1)
    rw [fstE]
    cases e : p i with
    | true =>
      rw [if_pos rfl]
      exact ⟨Nat.le_refl _, by omega, fun q g1 g2 => absurd g2 (by omega), fun _ => e⟩
    | false =>
      rw [if_neg (by decide)]
      refine ⟨by omega, by omega, fun q g1 g2 => ?_, fun g => h4 (by omega)⟩
      rcases Nat.eq_or_lt_of_le g1 with g | g
      · rw [← g]; exact e
      · exact h3 q g g2
theorem fe_uniq {p : Nat → Bool} {n i j : Nat} (h1 : i ≤ j) (h2 : j ≤ i + n) (h3 : ∀ q, i ≤ q → q < j → p q = false) (h4 : j < i + n → p j = true) : fstE p n i = j := by
  obtain ⟨g1, g2, g3, g4⟩ := fe_spec (p := p) n i
  rcases Nat.lt_trichotomy (fstE p n i) j with h | h | h
  · have a := g4 (by omega)
    rw [h3 _ g1 h] at a; cases a
  · exact h
  · have a := h4 (by omega)
    rw [g3 j h1 h] at a; cases a
theorem fot_e {ρ σ : RunT} {a : Nat} (ht : (rRow ρ).length ≤ rTk ρ) (ht2 : (rRow σ).length ≤ rTk ρ) (h1 : a ≤ (rRow ρ).length) (h2 : a ≤ (rRow σ).length) (hw : ∀ j, j < a → (rRow σ).getD j 0 = (rRow ρ).getD j 0) : fotN ρ σ = fstE (difB (rRow ρ) (rRow σ)) (rTk ρ - a) a := by
  symm
  obtain ⟨g1, g2, g3, g4⟩ := fe_spec (p := fun t => decide (¬ (rRow ρ).getD t 0 = (rRow σ).getD t 0)) (min (rRow ρ).length (rRow σ).length) 0
  unfold fotN
  generalize hF : fstE (fun t => decide (¬ (rRow ρ).getD t 0 = (rRow σ).getD t 0)) (min (rRow ρ).length (rRow σ).length) 0 = F at g1 g2 g3 g4 ⊢
  generalize hm : min (rRow ρ).length (rRow σ).length = M at g1 g2 g3 g4 ⊢
  have m1 : M ≤ (rRow ρ).length := by omega
  have m2 : M ≤ (rRow σ).length := by omega
  have eq : ∀ q, q < F → (rRow ρ).getD q 0 = (rRow σ).getD q 0 := fun q hq => by
    have := g3 q (Nat.zero_le _) hq
    simpa using this
  by_cases c : F < M
  · rw [if_pos c]
    have hn : ¬ (rRow ρ).getD F 0 = (rRow σ).getD F 0 := by have := g4 (by omega); simpa using this
    have hfa : a ≤ F := by
      rcases Nat.lt_or_ge F a with h | h
      · exact absurd (hw F h).symm hn
      · exact h
    exact fe_uniq hfa (by omega) (fun q q1 q2 => dif_e (by omega) (by omega) (eq q q2)) (fun _ => dif_v (by omega) (by omega) hn)
  · rw [if_neg c]
    by_cases c2 : (rRow ρ).length = (rRow σ).length
    · rw [if_pos c2]
      refine fe_uniq (by omega) (by omega) (fun q q1 q2 => ?_) (fun h => absurd h (by omega))
      rcases Nat.lt_or_ge q M with h | h
      · exact dif_e (by omega) (by omega) (eq q (by omega))
      · exact dif_0 (by omega) (by omega)
    · rw [if_neg c2]
      refine fe_uniq (by omega) (by omega) (fun q q1 q2 => dif_e (by omega) (by omega) (eq q (by omega))) (fun _ => ?_)
      rcases Nat.lt_or_ge (rRow ρ).length (rRow σ).length with h | h
      · exact dif_r (by omega) (by omega)
      · exact dif_l (by omega) (by omega)
theorem at_org {ρ : RunT} (h : RunOK ρ) : (rOrg ρ = (-1) ∧ atN ρ = 0) ∨ (¬ rOrg ρ = (-1) ∧ ∃ a : Nat, a ≤ (rRow ρ).length ∧ rAt ρ = nI a ∧ atN ρ = a) := by
  have h16 := Nat.le_trans h.2.2.2.2.2.2.2.1 h.2.2.2.2.2.2.1
  rcases h.2.2.2.2.2.2.2.2.2 with h1 | ⟨h1, a, ha, e⟩
  · exact Or.inl ⟨h1.1, if_pos h1.2⟩
  · refine Or.inr ⟨fun q => ?_, a, ha, e, ?_⟩
    · rw [q] at h1
      exact absurd h1 (by decide)
    · have hne : ¬ rAt ρ = (-1) := by
        rw [e, fa_eq, nI_toInt (by omega), li_m1]; omega
      rw [atN, if_neg hne, e, nI_clamp (by omega)]

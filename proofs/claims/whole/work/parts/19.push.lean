/-! A RUN MORE: the pure side -/
theorem xG_len (dat : Nat → Int32) (clk all own : Int32) (qs : List Nat) : ∀ (n t : Nat) (X : XS) (rows : List Int32), rows.length = t → t ≤ (xGo dat clk all own qs n t X rows).2.length ∧ (xGo dat clk all own qs n t X rows).2.length ≤ t + n ∧ (xSt X = false → xSt (xGo dat clk all own qs n t X rows).1 = false → (xGo dat clk all own qs n t X rows).2.length = t + n) ∧ ∀ j, j < t → (xGo dat clk all own qs n t X rows).2.getD j 0 = rows.getD j 0
  | 0, t, X, rows, h => ⟨by simp [xGo, h], by simp [xGo, h], fun _ _ => by simp [xGo, h], fun _ _ => rfl⟩
  | n + 1, t, X, rows, h => by
    by_cases hs : xSt (xTick dat clk all own t qs X false) = true
    · have e : xGo dat clk all own qs (n + 1) t X rows = (xTick dat clk all own t qs X false, rows) := by simp [xGo, hs]
      rw [e]
      exact ⟨by simp [h], by simp [h], fun _ q => (by rw [hs] at q; cases q), fun _ _ => rfl⟩
    · have hs : xSt (xTick dat clk all own t qs X false) = false := by simpa using hs
      have e : xGo dat clk all own qs (n + 1) t X rows = xGo dat clk all own qs n (t + 1) (xTick dat clk all own t qs X false) (rows ++ [xV (xTick dat clk all own t qs X false)]) := by simp [xGo, hs]
      rw [e]
      obtain ⟨h1, h2, h3, h4⟩ := xG_len dat clk all own qs n (t + 1) (xTick dat clk all own t qs X false) (rows ++ [xV (xTick dat clk all own t qs X false)]) (lenApp h)
      refine ⟨by omega, by omega, fun _ q => ?_, fun j hj => ?_⟩
      · have := h3 hs q
        omega
      · rw [h4 j (by omega), List.getD_eq_getElem?_getD, List.getD_eq_getElem?_getD, List.getElem?_append_left (by omega)]
def Off (n : Nat) (α β : Nat → Nat → Int32) : Prop := (∀ k, k ∈ [1, 2, 3, 4, 36] → β k = α k) ∧ (∀ k, k ∈ [7, 8, 10, 11, 12, 13, 15, 16, 17, 18, 19, 21, 22] → ∀ q, q ≠ n → β k q = α k q) ∧ (∀ q, (∀ j, j < 8 → q ≠ 8 * n + j) → β 9 q = α 9 q) ∧ (∀ q, (∀ t, t < 16 → q ≠ 16 * n + t) → β 14 q = α 14 q) ∧ (∀ q, (∀ i, i < 8 → q ≠ 8 * n + i) → β 20 q = α 20 q)
theorem Off.rf {n : Nat} {α : Nat → Nat → Int32} : Off n α α := ⟨fun _ _ => rfl, fun _ _ _ _ => rfl, fun _ _ => rfl, fun _ _ => rfl, fun _ _ => rfl⟩
theorem Off.tr {n : Nat} {α β γ : Nat → Nat → Int32} (h : Off n α β) (g : Off n β γ) : Off n α γ := ⟨fun k hk => (g.1 k hk).trans (h.1 k hk), fun k hk q hq => (g.2.1 k hk q hq).trans (h.2.1 k hk q hq), fun q hq => (g.2.2.1 q hq).trans (h.2.2.1 q hq), fun q hq => (g.2.2.2.1 q hq).trans (h.2.2.2.1 q hq), fun q hq => (g.2.2.2.2 q hq).trans (h.2.2.2.2 q hq)⟩
theorem Off.one {n k : Nat} {α : Nat → Nat → Int32} {x : Int32} (hk : k ∈ [7, 8, 10, 11, 12, 13, 15, 16, 17, 18, 19, 21, 22]) : Off n α (aset α k n x) := by
  have h1 : k ∉ [1, 2, 3, 4, 36] ∧ k ≠ 9 ∧ k ≠ 14 ∧ k ≠ 20 := by
    simp only [List.mem_cons, List.not_mem_nil, or_false] at hk ⊢; omega
  refine ⟨fun q hq => asetN _ _ _ (fun e => h1.1 (e ▸ hq)), fun q hq i hi => ?_, fun q _ => by rw [asetN _ _ _ (Ne.symm h1.2.1)], fun q _ => by rw [asetN _ _ _ (Ne.symm h1.2.2.1)], fun q _ => by rw [asetN _ _ _ (Ne.symm h1.2.2.2)]⟩
  by_cases e : q = k
  · subst e; exact asetO _ _ _ hi
  · rw [asetN _ _ _ e]
theorem Off.of9 {n : Nat} {α β : Nat → Nat → Int32} (h : ∀ k, k ≠ 9 → β k = α k) (g : ∀ q, (∀ j, j < 8 → q ≠ 8 * n + j) → β 9 q = α 9 q) : Off n α β := ⟨fun k hk => h k (by rintro rfl; simp at hk), fun k hk q _ => by rw [h k (by rintro rfl; simp at hk)], g, fun q _ => by rw [h 14 (by decide)], fun q _ => by rw [h 20 (by decide)]⟩
theorem Off.of14 {n : Nat} {α β : Nat → Nat → Int32} (h : ∀ k, k ≠ 14 → β k = α k) (g : ∀ q, (∀ j, j < 16 → q ≠ 16 * n + j) → β 14 q = α 14 q) : Off n α β := ⟨fun k hk => h k (by rintro rfl; simp at hk), fun k hk q _ => by rw [h k (by rintro rfl; simp at hk)], fun q _ => by rw [h 9 (by decide)], g, fun q _ => by rw [h 20 (by decide)]⟩
theorem Off.of20 {n : Nat} {α β : Nat → Nat → Int32} (h : ∀ k, k ≠ 20 → β k = α k) (g : ∀ q, (∀ j, j < 8 → q ≠ 8 * n + j) → β 20 q = α 20 q) : Off n α β := ⟨fun k hk => h k (by rintro rfl; simp at hk), fun k hk q _ => by rw [h k (by rintro rfl; simp at hk)], fun q _ => by rw [h 9 (by decide)], fun q _ => by rw [h 14 (by decide)], g⟩
theorem Off.of23 {n : Nat} {α β : Nat → Nat → Int32} (h : ∀ k, k ≠ 23 → β k = α k) : Off n α β := ⟨fun k hk => h k (by rintro rfl; simp at hk), fun k hk q _ => by rw [h k (by rintro rfl; simp at hk)], fun q _ => by rw [h 9 (by decide)], fun q _ => by rw [h 14 (by decide)], fun q _ => by rw [h 20 (by decide)]⟩
theorem Off.ofTK {n f L : Nat} {α β : Nat → Nat → Int32} {φ : Nat → Int32} {br sd ck b21 b22 : Bool} (h : TK α β φ n f L br sd ck b21 b22) (hL : L ≤ 16) : Off n α β := by
  obtain ⟨h1, h2, -, -, h5, -, h7⟩ := h
  refine ⟨fun k hk => ?_, fun k hk q hq => ?_, fun q _ => by rw [h1 9 (by decide) (by decide) (by decide) (by decide) (by decide) (by decide) (by decide) (by decide)], fun q hq => h5 q (fun t g1 g2 => hq t (by omega)), h7⟩
  · simp only [List.mem_cons, List.not_mem_nil, or_false] at hk
    exact h1 k (by omega) (by omega) (by omega) (by omega) (by omega) (by omega) (by omega) (by omega)
  · have z := h2 q hq
    simp only [List.mem_cons, List.not_mem_nil, or_false] at hk
    rcases hk with rfl | rfl | rfl | rfl | rfl | rfl | rfl | rfl | rfl | rfl | rfl | rfl | rfl
    all_goals first | exact z.1 | exact z.2.1 | exact z.2.2.1 | exact z.2.2.2.1 | exact z.2.2.2.2.1 | exact z.2.2.2.2.2 | (rw [h1 _ (by decide) (by decide) (by decide) (by decide) (by decide) (by decide) (by decide) (by decide)])
def pushT (τ : TB) (ρ : RunT) : TB := (tCode τ, tDat τ, tBnd τ, tClk τ + 1, tRuns τ ++ [ρ], tClm τ)
theorem push_old {τ : TB} {ρ : RunT} {r : Nat} (h : r < tN τ) : tRun (pushT τ ρ) r = tRun τ r := by
  show (tRuns τ ++ [ρ]).getD r r0 = (tRuns τ).getD r r0
  rw [List.getD_eq_getElem?_getD, List.getD_eq_getElem?_getD, List.getElem?_append_left h]
theorem push_new {τ : TB} {ρ : RunT} : tRun (pushT τ ρ) (tN τ) = ρ := by
  show (tRuns τ ++ [ρ]).getD (tRuns τ).length r0 = ρ
  rw [List.getD_eq_getElem?_getD, List.getElem?_append_right (Nat.le_refl _)]
  simp [tN]
theorem push_n {τ : TB} {ρ : RunT} : tN (pushT τ ρ) = tN τ + 1 := by
  show (tRuns τ ++ [ρ]).length = _
  rw [List.length_append]; rfl
theorem RunR.off {n r : Nat} {α β : Nat → Nat → Int32} {ρ : RunT} (hO : Off n α β) (hr : r ≠ n) (h8 : (rStp ρ).length ≤ 8) (h16 : (rRow ρ).length ≤ 16) (h : RunR α r ρ) : RunR β r ρ := by
  obtain ⟨h1, h2, h3, h4, h5⟩ := hO
  refine ⟨?_, ?_, fun j hj => ?_, ?_, ?_, ?_, ?_, fun t ht => ?_, ?_, ?_, ?_, ?_, ?_, fun i hi hb => ?_, ?_, ?_⟩
  · rw [h2 7 (by decide) r hr]; exact h.code
  · rw [h2 8 (by decide) r hr]; exact h.len
  · rw [h3 _ (fun i hi => by omega)]; exact h.stp hj
  · rw [h2 10 (by decide) r hr]; exact h.set
  · rw [h2 11 (by decide) r hr]; exact h.seed
  · rw [h2 12 (by decide) r hr]; exact h.tk
  · rw [h2 13 (by decide) r hr]; exact h.nrow
  · rw [h4 _ (fun i hi => by omega)]; exact h.row ht
  · rw [h2 15 (by decide) r hr]; exact h.br
  · rw [h2 16 (by decide) r hr]; exact h.org
  · rw [h2 17 (by decide) r hr]; exact h.at'
  · rw [h2 18 (by decide) r hr]; exact h.rs
  · rw [h2 19 (by decide) r hr]; exact h.rw
  · rw [h5 _ (fun j hj => by omega)]; exact h.was hi hb
  · rw [h2 21 (by decide) r hr]; exact h.sd
  · rw [h2 22 (by decide) r hr]; exact h.ck
theorem MdR.push {φ ψ : Nat → Int32} {α β : Nat → Nat → Int32} {τ : TB} {ρ : RunT} (h : MdR φ α τ) (hT : TOK τ) (e5 : ψ 5 = tClk τ + 1) (e6 : ψ 6 = nI (tN τ + 1)) (e35 : ψ 35 = φ 35) (hO : Off (tN τ) α β) (hN : RunR β (tN τ) ρ) : MdR ψ β (pushT τ ρ) := by
  refine ⟨e5, by rw [push_n]; exact e6, e35.trans h.nc, fun k hk => ?_, fun k hk j hj => ?_, fun i hi => ?_, fun i hi => ?_, fun r hr => ?_, fun j hj => ?_, fun r g1 g2 => ?_⟩
  · rw [hO.1 1 (by decide)]; exact h.cl hk
  · rw [hO.1 2 (by decide)]; exact h.cs hk hj
  · rw [hO.1 3 (by decide)]; exact h.dat hi
  · rw [hO.1 4 (by decide)]; exact h.bnd hi
  · rw [push_n] at hr
    rcases Nat.lt_or_ge r (tN τ) with g | g
    · rw [push_old g]
      have z := hT.2.2.2.1 r g
      exact (h.run g).off hO (by omega) z.2.1 (Nat.le_trans z.2.2.2.2.2.2.2.1 z.2.2.2.2.2.2.1)
    · rw [show r = tN τ by omega, push_new]; exact hN
  · rw [hO.1 36 (by decide)]; exact h.clm hj
  · rw [push_n] at g1
    rw [hO.2.1 18 (by decide) r (by omega), hO.2.1 19 (by decide) r (by omega), hO.2.1 21 (by decide) r (by omega), hO.2.1 22 (by decide) r (by omega)]
    exact h.fresh (by omega) g2
theorem or1 (x y : Int32) : (x ||| y) &&& 1 = (x &&& 1) ||| (y &&& 1) := by
  apply Int32.toBitVec_inj.mp
  simp only [Int32.toBitVec_and, Int32.toBitVec_or]
  ext k
  simp only [BitVec.getElem_and, BitVec.getElem_or]
  cases x.toBitVec[k] <;> cases y.toBitVec[k] <;> cases (Int32.toBitVec 1)[k] <;> rfl
theorem shrOr (x y k : Int32) : (x ||| y) >>> k = (x >>> k) ||| (y >>> k) := by
  apply Int32.toBitVec_inj.mp
  simp only [Int32.toBitVec_shiftRight, Int32.toBitVec_or]
  show (x.toBitVec ||| y.toBitVec).sshiftRight (k.toBitVec.smod 32).toNat = x.toBitVec.sshiftRight (k.toBitVec.smod 32).toNat ||| y.toBitVec.sshiftRight (k.toBitVec.smod 32).toNat
  generalize (k.toBitVec.smod 32).toNat = n
  ext i hi
  by_cases hni : n + i < 32 <;> simp [BitVec.getElem_sshiftRight, hni, BitVec.msb_or]
theorem hasOr (x y : Int32) (i : Nat) : hasB (x ||| y) i = (hasB x i || hasB y i) := by
  unfold hasB
  rw [shrOr, or1]
  rcases and1 (x >>> ((nI i) &&& 31)) with h1 | h1 <;> rcases and1 (y >>> ((nI i) &&& 31)) with h2 | h2 <;> rw [h1, h2] <;> decide
theorem or0 (x : Int32) : 0 ||| x = x := by
  apply Int32.toBitVec_inj.mp
  simp
def canRunN (τ : TB) (k all own t : Int32) : Bool := canRunB k all own t && decide (¬ tN τ = 40)
def newRun (τ : TB) (k : Nat) (all own : Int32) (t : Nat) : RunT := mkRun (tDat τ) (tClk τ + 1) k (tCode τ k) all own t [] (-1) (-1) 0 0 false false (fun _ => 0)
def runT (τ : TB) (k all own t : Int32) : TB := if canRunN τ k all own t then pushT τ (newRun τ k.toNatClampNeg all own t.toNatClampNeg) else τ
def runA (τ : TB) (k all own t : Int32) : Int32 := if canRunN τ k all own t then nI (tN τ) else -1
def canFork (τ : TB) (r t all own : Int32) : Bool := inR r 0 (tN τ - 1) && !rBr (tRun τ r.toNatClampNeg) && inR t 0 (rRow (tRun τ r.toNatClampNeg)).length && sOK all && inR own 0 99 && decide (¬ tN τ = 40)
def newFork (τ : TB) (r t : Nat) (all own : Int32) : RunT := mkRun (tDat τ) (tClk τ + 1) (rCode (tRun τ r)) (rStp (tRun τ r)) all own (rTk (tRun τ r)) ((rRow (tRun τ r)).take t) (nI r) (nI t) (rRS (tRun τ r)) (rRW (tRun τ r)) (rSd (tRun τ r)) (rCk (tRun τ r)) (rWas (tRun τ r))
def forkT (τ : TB) (r t all own : Int32) : TB := if canFork τ r t all own then pushT τ (newFork τ r.toNatClampNeg t.toNatClampNeg all own) else τ
def forkA (τ : TB) (r t all own : Int32) : Int32 := if canFork τ r t all own then nI (tN τ) else -1
/-- done again -/
def atN (ρ : RunT) : Nat := if rAt ρ = (-1) then 0 else (rAt ρ).toNatClampNeg
def agR (τ : TB) (ρ : RunT) : XS × List Int32 := xRun (tDat τ) (tClk τ + 1) (rSet ρ) (rSeed ρ) (rStp ρ) (rTk ρ) ((rRow ρ).take (atN ρ))
def difB (a b : List Int32) (t : Nat) : Bool := decide (¬ (decide (t < a.length) = decide (t < b.length))) || (decide (t < a.length) && decide (¬ a.getD t 0 = b.getD t 0))
def fstE (p : Nat → Bool) : Nat → Nat → Nat
  | 0, i => i
  | n + 1, i => if p i then i else fstE p n (i + 1)
def againA (τ : TB) (r : Int32) : Int32 := if inR r 0 (tN τ - 1) then nI (fstE (difB (rRow (tRun τ r.toNatClampNeg)) (agR τ (tRun τ r.toNatClampNeg)).2) (rTk (tRun τ r.toNatClampNeg) - atN (tRun τ r.toNatClampNeg)) (atN (tRun τ r.toNatClampNeg))) else -1
def againT (τ : TB) (r : Int32) : TB := if inR r 0 (tN τ - 1) then (tCode τ, tDat τ, tBnd τ, tClk τ + 1, tRuns τ, tClm τ) else τ

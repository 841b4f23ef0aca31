/-! THE BOOK AS A VALUE: what both classes hold, and what each call answers -/
abbrev RunT : Type := (Nat × List Nat) × (Int32 × Int32 × Nat) × (List Int32 × Bool) × (Int32 × Int32) × (Int32 × Int32 × Bool × Bool × (Nat → Int32))
def rCode (ρ : RunT) : Nat := ρ.1.1
def rStp (ρ : RunT) : List Nat := ρ.1.2
def rSet (ρ : RunT) : Int32 := ρ.2.1.1
def rSeed (ρ : RunT) : Int32 := ρ.2.1.2.1
def rTk (ρ : RunT) : Nat := ρ.2.1.2.2
def rRow (ρ : RunT) : List Int32 := ρ.2.2.1.1
def rBr (ρ : RunT) : Bool := ρ.2.2.1.2
def rOrg (ρ : RunT) : Int32 := ρ.2.2.2.1.1
def rAt (ρ : RunT) : Int32 := ρ.2.2.2.1.2
def rRS (ρ : RunT) : Int32 := ρ.2.2.2.2.1
def rRW (ρ : RunT) : Int32 := ρ.2.2.2.2.2.1
def rSd (ρ : RunT) : Bool := ρ.2.2.2.2.2.2.1
def rCk (ρ : RunT) : Bool := ρ.2.2.2.2.2.2.2.1
def rWas (ρ : RunT) : Nat → Int32 := ρ.2.2.2.2.2.2.2.2
abbrev TB : Type := (Nat → List Nat) × (Nat → Int32) × (Nat → Nat) × Int32 × List RunT × List Nat
def tCode (τ : TB) : Nat → List Nat := τ.1
def tDat (τ : TB) : Nat → Int32 := τ.2.1
def tBnd (τ : TB) : Nat → Nat := τ.2.2.1
def tClk (τ : TB) : Int32 := τ.2.2.2.1
def tRuns (τ : TB) : List RunT := τ.2.2.2.2.1
def tClm (τ : TB) : List Nat := τ.2.2.2.2.2
def r0 : RunT := ((0, []), (0, 0, 0), ([], false), (0, 0), (0, 0, false, false, fun _ => 0))
def tRun (τ : TB) (r : Nat) : RunT := (tRuns τ).getD r r0
def tN (τ : TB) : Nat := (tRuns τ).length
/-- bits, settings, left-over -/
def sett (st : Int32) (i : Nat) : Int32 := (st >>> ((nI (4 * i)) &&& 31)) &&& 15
def hasB (x : Int32) (i : Nat) : Bool := decide (((x >>> ((nI i) &&& 31)) &&& 1) = 1)
def bitI (i : Nat) : Int32 := (1 : Int32) <<< ((nI i) &&& 31)
def jrem (x y : Int32) : Int32 := x - x / y * y
def jrot (x : Int32) (o : Nat) : Int32 := if o = 0 then x else (x <<< ((nI o) &&& 31)) ||| (x.toUInt32 >>> ((nI (32 - o)).toUInt32 &&& Int32.toUInt32 31)).toInt32
/-- what can be -/
def inR (x : Int32) (lo hi : Int) : Bool := decide (lo ≤ x.toInt ∧ x.toInt ≤ hi)
def sOK (st : Int32) : Bool := inR st 0 65535 && (List.range 4).all (fun i => decide (sett st i ≤ 5))
/-- one step: x, settings read, words read, seed read, clock read, stopped; and whether the next is left out -/
abbrev XS : Type := Int32 × Int32 × Int32 × Bool × Bool × Bool
def xV (X : XS) : Int32 := X.1
def xRS (X : XS) : Int32 := X.2.1
def xRW (X : XS) : Int32 := X.2.2.1
def xSd (X : XS) : Bool := X.2.2.2.1
def xCk (X : XS) : Bool := X.2.2.2.2.1
def xSt (X : XS) : Bool := X.2.2.2.2.2
def xStep (dat : Nat → Int32) (clk all own : Int32) (t q : Nat) (X : XS) : XS :=
  match q / 16 with
  | 0 => (xV X + nI (q % 16), xRS X, xRW X, xSd X, xCk X, xSt X)
  | 1 => (xV X * nI (q % 16), xRS X, xRW X, xSd X, xCk X, xSt X)
  | 2 => (xV X + sett all (q % 16 % 4), xRS X ||| bitI (q % 16 % 4), xRW X, xSd X, xCk X, xSt X)
  | 3 => (xV X, xRS X ||| bitI (q % 16 % 4), xRW X, xSd X, xCk X, xSt X)
  | 4 => (xV X ^^^ own * nI (q % 16 + 1), xRS X, xRW X, true, xCk X, xSt X)
  | 5 => (xV X + dat ((t + q % 16) % 8), xRS X, xRW X ||| bitI ((t + q % 16) % 8), xSd X, xCk X, xSt X)
  | 6 => (xV X + clk, xRS X, xRW X, xSd X, true, xSt X)
  | 7 => (jrot (xV X) (q % 16), xRS X, xRW X, xSd X, xCk X, xSt X)
  | 8 => (jrem (xV X) (nI (q % 16 + 2)), xRS X, xRW X, xSd X, xCk X, xSt X)
  | 9 => (xV X, xRS X, xRW X, xSd X, xCk X, decide (jrem (xV X) (nI (q % 16 + 1)) = 0))
  | _ => X
def xSkip (all : Int32) (q : Nat) : Bool := decide (q / 16 = 3) && decide (nI (q % 16 / 4) < sett all (q % 16 % 4))
def xTick (dat : Nat → Int32) (clk all own : Int32) (t : Nat) : List Nat → XS → Bool → XS
  | [], X, _ => X
  | q :: qs, X, sk => if xSt X then X else if sk then xTick dat clk all own t qs X false else xTick dat clk all own t qs (xStep dat clk all own t q X) (xSkip all q)
def xGo (dat : Nat → Int32) (clk all own : Int32) (qs : List Nat) : Nat → Nat → XS → List Int32 → XS × List Int32
  | 0, _, X, rows => (X, rows)
  | n + 1, t, X, rows => if xSt (xTick dat clk all own t qs X false) then (xTick dat clk all own t qs X false, rows) else xGo dat clk all own qs n (t + 1) (xTick dat clk all own t qs X false) (rows ++ [xV (xTick dat clk all own t qs X false)])
def lastR (rows : List Int32) : Int32 := rows.getLastD 0
def xRun (dat : Nat → Int32) (clk all own : Int32) (qs : List Nat) (tk : Nat) (rows : List Int32) : XS × List Int32 := xGo dat clk all own qs (tk - rows.length) rows.length (lastR rows, 0, 0, false, false, false) rows
def mkRun (dat : Nat → Int32) (clk : Int32) (k : Nat) (qs : List Nat) (st sd : Int32) (tk : Nat) (rows : List Int32) (og at' rs rw : Int32) (bs bc : Bool) (was : Nat → Int32) : RunT :=
  ((k, qs), (st, sd, tk), ((xRun dat clk st sd qs tk rows).2, xSt (xRun dat clk st sd qs tk rows).1), (og, at'), (rs ||| xRS (xRun dat clk st sd qs tk rows).1, rw ||| xRW (xRun dat clk st sd qs tk rows).1, bs || xSd (xRun dat clk st sd qs tk rows).1, bc || xCk (xRun dat clk st sd qs tk rows).1, fun i => if hasB (xRW (xRun dat clk st sd qs tk rows).1) i then dat i else was i))
/-- a state that can be -/
def RunOK (ρ : RunT) : Prop := rCode ρ < 4 ∧ (rStp ρ).length ≤ 8 ∧ (∀ q ∈ rStp ρ, q < 256) ∧ sOK (rSet ρ) = true ∧ inR (rSeed ρ) 0 99 = true ∧ 1 ≤ rTk ρ ∧ rTk ρ ≤ 16 ∧ (rRow ρ).length ≤ rTk ρ ∧ (rBr ρ = false → (rRow ρ).length = rTk ρ) ∧ ((rOrg ρ = (-1) ∧ rAt ρ = (-1)) ∨ (inR (rOrg ρ) 0 39 = true ∧ ∃ a : Nat, a ≤ (rRow ρ).length ∧ rAt ρ = nI a))
def TOK (τ : TB) : Prop := (∀ k, k < 4 → (tCode τ k).length ≤ 8 ∧ ∀ q ∈ tCode τ k, q < 256) ∧ (∀ i, i < 4 → 1 ≤ tBnd τ i ∧ tBnd τ i ≤ 6) ∧ tN τ ≤ 40 ∧ (∀ r, r < tN τ → RunOK (tRun τ r)) ∧ (tClm τ).length ≤ 20 ∧ (∀ r ∈ tClm τ, r < tN τ ∧ rBr (tRun τ r) = false)
/-- comparisons -/
def chgB (dat : Nat → Int32) (ρ : RunT) (i : Nat) : Bool := hasB (rRW ρ) i && decide (¬ rWas ρ i = dat i)
def staleB (τ : TB) (ρ : RunT) : Bool := !decide (rStp ρ = tCode τ (rCode ρ)) || (List.range 8).any (fun i => chgB (tDat τ) ρ i)
def likeB (ρ σ : RunT) : Bool := decide (rStp ρ = rStp σ) && decide (rSeed ρ = rSeed σ) && decide (rTk ρ = rTk σ) && (List.range 8).all (fun i => !(hasB (rRW ρ &&& rRW σ) i && decide (¬ rWas ρ i = rWas σ i)))
def mayB (ρ : RunT) (tk : Nat) : Bool := decide (rOrg ρ = (-1)) && !rBr ρ && !rCk ρ && decide (rTk ρ = tk)
def leastB (τ : TB) (p tk : Nat) : Bool := (List.range p).all (fun o => !(mayB (tRun τ o) tk && decide (rSet (tRun τ o) = rSet (tRun τ p)) && likeB (tRun τ o) (tRun τ p)))
def pairB (τ : TB) (i : Nat) (u v : Int32) (tk p q : Nat) : Bool := mayB (tRun τ p) tk && mayB (tRun τ q) tk && decide (sett (rSet (tRun τ p)) i = u) && decide (sett (rSet (tRun τ q)) i = v) && decide ((rSet (tRun τ p) ^^^ rSet (tRun τ q)) = (u ^^^ v) <<< ((nI (4 * i)) &&& 31)) && likeB (tRun τ p) (tRun τ q) && leastB τ p tk && leastB τ q tk
def savB (τ : TB) (qs : List Nat) (all own : Int32) (tk : Nat) (ρ : RunT) : Bool := decide (rOrg ρ = (-1)) && !rBr ρ && !rCk ρ && decide (tk ≤ rTk ρ) && decide (rStp ρ = qs) && (!rSd ρ || decide (rSeed ρ = own)) && (List.range 4).all (fun i => !hasB (rRS ρ) i || decide (sett (rSet ρ) i = sett all i)) && (List.range 8).all (fun i => !chgB (tDat τ) ρ i)
/-- the first of n places from i on, or NONE -/
def fstI (p : Nat → Bool) : Nat → Nat → Int32
  | 0, _ => -1
  | n + 1, i => if p i then nI i else fstI p n (i + 1)
def savedI (τ : TB) (k : Nat) (all own : Int32) (tk : Nat) : Int32 := fstI (fun r => savB τ (tCode τ k) all own tk (tRun τ r)) (tN τ) 0

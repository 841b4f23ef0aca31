/-! WHAT EACH CALL ANSWERS -/
def wA (g : GG) (h : Nat) (ad : Nat → Nat) : Nat → Prop := fun q => ∃ (k : Nat) (e : va_E), (wM g h ad (fun _ => 0) (fun _ _ => 0))[k]? = some (q, e)
def MdH (g : GG) (h : Nat) (ad : Nat → Nat) (τ : TB) (H : Heap) : Prop := ∃ (φ : Nat → Int32) (α : Nat → Nat → Int32), va_P g.1 vwCl (wM g h ad φ α) H ∧ MdR φ α τ
theorem sv {a b : Int32} (h : a = b) : some (Value.int a) = some (Value.int b) := by rw [h]
theorem MdR.phi {φ ψ : Nat → Int32} {α : Nat → Nat → Int32} {τ : TB} (h : MdR φ α τ) (e5 : ψ 5 = φ 5) (e6 : ψ 6 = φ 6) (e35 : ψ 35 = φ 35) : MdR ψ α τ := ⟨e5.trans h.1, e6.trans h.2.1, e35.trans h.2.2.1, h.2.2.2⟩
theorem isRun_nI {r : Int32} {τ : TB} (c : inR r 0 (tN τ - 1) = true) (h40 : tN τ ≤ 40) : ∃ j : Nat, j < tN τ ∧ r = nI j := by
  have h1 := inR_iff.mp c
  refine ⟨r.toInt.toNat, by omega, ?_⟩
  rw [fa_eq, nI_toInt (by omega)]
  omega
theorem inR1_nI {x : Int32} {hi : Nat} (h : inR x 1 hi = true) : ∃ j : Nat, 1 ≤ j ∧ j ≤ hi ∧ x = nI j := by
  have h1 := inR_iff.mp h
  have h2 := fb_rng x
  refine ⟨x.toInt.toNat, by omega, by omega, ?_⟩
  rw [fa_eq, nI_toInt (by omega)]
  omega
theorem pos_nI {x : Int32} (h : ¬ x < 0) : ∃ j : Nat, j < 2 ^ 31 ∧ x = nI j := nI_of h
def ofR (τ : TB) (ρ : RunT) (w : Int32) : Int32 :=
  if w = 0 then nI (rCode ρ) else if w = 1 then rSet ρ else if w = 2 then rSeed ρ else if w = 3 then nI (rTk ρ) else if w = 4 then nI (rRow ρ).length else if w = 5 then bI (rBr ρ) else if w = 6 then rOrg ρ else if w = 7 then rAt ρ else if w = 8 then rRS ρ else if w = 9 then rRW ρ else if w = 10 then bI (rSd ρ) else if w = 11 then bI (rCk ρ) else if w = 12 then bI (staleB τ ρ) else if 100 ≤ w.toInt ∧ w.toInt - 100 < ((rRow ρ).length : Int) then (rRow ρ).getD (w.toInt - 100).toNat 0 else -1
def ofT (τ : TB) (r w : Int32) : Int32 := if inR r 0 (tN τ - 1) then ofR τ (tRun τ r.toNatClampNeg) w else -1
def chgM (dat : Nat → Int32) (ρ : RunT) : Nat → Int32
  | 0 => 0
  | n + 1 => if chgB dat ρ n then chgM dat ρ n ||| bitI n else chgM dat ρ n
def looseT (τ : TB) (r : Int32) : Int32 := if inR r 0 (tN τ - 1) then chgM (tDat τ) (tRun τ r.toNatClampNeg) 8 + (if rCk (tRun τ r.toNatClampNeg) then 256 else 0) else -1
def canRunB (k all own t : Int32) : Bool := inR k 0 3 && sOK all && inR own 0 99 && inR t 1 16
def savedT (τ : TB) (k all own t : Int32) : Int32 := if canRunB k all own t then savedI τ k.toNatClampNeg all own t.toNatClampNeg else -1
def idleM (τ : TB) : Nat → Int32
  | 0 => 15
  | n + 1 => idleM τ n &&& (rRS (tRun τ n) ^^^ (-1))
def claimedT (τ : TB) (i w : Int32) : Int32 := if inR i 0 ((tClm τ).length - 1) then (if w = 0 then nI ((tClm τ).getD i.toNatClampNeg 0) else if w = 1 then (rRow (tRun τ ((tClm τ).getD i.toNatClampNeg 0))).getD (rTk (tRun τ ((tClm τ).getD i.toNatClampNeg 0)) - 1) 0 else if w = 2 then bI (staleB τ (tRun τ ((tClm τ).getD i.toNatClampNeg 0))) else -1) else -1
def lastV (ρ : RunT) (tk : Nat) : Int32 := (rRow ρ).getD (tk - 1) 0
def cnt2 (f : Nat → Nat → Bool) (cols p q : Nat) : Nat := fb_sm (fun p => fb_ct (f p) cols) p + fb_ct (f p) q
def pairsN (τ : TB) (i : Nat) (u v : Int32) (tk : Nat) : Nat := fb_sm (fun p => fb_ct (fun q => pairB τ i u v tk p q) (tN τ)) (tN τ)
def winB (τ : TB) (i : Nat) (u v : Int32) (tk p q : Nat) : Bool := pairB τ i u v tk p q && decide (lastV (tRun τ p) tk < lastV (tRun τ q) tk)
def losB (τ : TB) (i : Nat) (u v : Int32) (tk p q : Nat) : Bool := pairB τ i u v tk p q && decide (lastV (tRun τ q) tk < lastV (tRun τ p) tk)
def winsN (τ : TB) (i : Nat) (u v : Int32) (tk : Nat) : Nat := fb_sm (fun p => fb_ct (fun q => winB τ i u v tk p q) (tN τ)) (tN τ)
def losN (τ : TB) (i : Nat) (u v : Int32) (tk : Nat) : Nat := fb_sm (fun p => fb_ct (fun q => losB τ i u v tk p q) (tN τ)) (tN τ)
theorem cnt2_le (f : Nat → Nat → Bool) {n p q : Nat} (hp : p ≤ n) (hq : q ≤ n) : cnt2 f n p q ≤ n * n + n := by
  have h1 := fb_sm_bound (f := fun p => fb_ct (f p) n) (c := n) (n := p) (fun k _ => fb_ct_le _ _)
  have h2 := fb_ct_le (f p) q
  have h3 : p * n ≤ n * n := Nat.mul_le_mul_right n hp
  unfold cnt2
  omega
theorem cnt2_yes {f : Nat → Nat → Bool} {n p q : Nat} (h : f p q = true) : cnt2 f n p (q + 1) = cnt2 f n p q + 1 := by
  unfold cnt2; rw [fb_ct_succ, h]; simp; omega
theorem cnt2_no {f : Nat → Nat → Bool} {n p q : Nat} (h : f p q = false) : cnt2 f n p (q + 1) = cnt2 f n p q := by
  unfold cnt2; rw [fb_ct_succ, h]; simp
theorem cnt2_row {f : Nat → Nat → Bool} {n p : Nat} : cnt2 f n (p + 1) 0 = cnt2 f n p n := by
  unfold cnt2; rw [fb_sm_succ]; simp [fb_ct]
def pairsT (τ : TB) (i u v t w : Int32) : Int32 := if canPairB i u v t && inR w 0 2 then (if w = 0 then nI (pairsN τ i.toNatClampNeg u v t.toNatClampNeg) else if w = 1 then nI (winsN τ i.toNatClampNeg u v t.toNatClampNeg) else nI (losN τ i.toNatClampNeg u v t.toNatClampNeg)) else -1
/-- the k-th of a table's places, row by row -/
def kthRow (f : Nat → Bool) : Nat → Nat → Nat → Option Nat × Nat
  | 0, _, k => (none, k)
  | m + 1, q, k => if f q then (if k = 0 then (some q, 0) else kthRow f m (q + 1) (k - 1)) else kthRow f m (q + 1) k
def kthAll (f : Nat → Nat → Bool) (cols : Nat) : Nat → Nat → Nat → Option (Nat × Nat)
  | 0, _, _ => none
  | m + 1, p, k => match kthRow (f p) cols 0 k with
    | (some q, _) => some (p, q)
    | (none, k') => kthAll f cols m (p + 1) k'
def kthIn (f : Nat → Nat → Bool) (cols rows p : Nat) (x : Option Nat × Nat) : Option (Nat × Nat) := match x with
  | (some q, _) => some (p, q)
  | (none, k') => kthAll f cols (rows - (p + 1)) (p + 1) k'
theorem kth_in {f : Nat → Nat → Bool} {cols rows p k : Nat} (h : p < rows) : kthAll f cols (rows - p) p k = kthIn f cols rows p (kthRow (f p) (cols - 0) 0 k) := by
  rw [show rows - p = (rows - (p + 1)) + 1 by omega, Nat.sub_zero]
  simp only [kthAll, kthIn]
theorem kth_end {f : Nat → Nat → Bool} {cols rows p k q : Nat} (h : cols ≤ q) : kthIn f cols rows p (kthRow (f p) (cols - q) q k) = kthAll f cols (rows - (p + 1)) (p + 1) k := by
  rw [show cols - q = 0 by omega]
  rfl
theorem kth_no {f : Nat → Nat → Bool} {cols p k q : Nat} (h : q < cols) (hf : f p q = false) : kthRow (f p) (cols - q) q k = kthRow (f p) (cols - (q + 1)) (q + 1) k := by
  rw [show cols - q = (cols - (q + 1)) + 1 by omega]
  simp only [kthRow, hf, Bool.false_eq_true, if_false]
theorem kth_skip {f : Nat → Nat → Bool} {cols p k q : Nat} (h : q < cols) (hf : f p q = true) (hk : ¬ k = 0) : kthRow (f p) (cols - q) q k = kthRow (f p) (cols - (q + 1)) (q + 1) (k - 1) := by
  rw [show cols - q = (cols - (q + 1)) + 1 by omega]
  simp only [kthRow, hf, if_true, hk, if_false]
theorem kth_hit {f : Nat → Nat → Bool} {cols rows p q : Nat} (h : q < cols) (hf : f p q = true) : kthIn f cols rows p (kthRow (f p) (cols - q) q 0) = some (p, q) := by
  rw [show cols - q = (cols - (q + 1)) + 1 by omega]
  simp only [kthRow, hf, if_true, kthIn]
def pickI (w : Int32) (z : Option (Int32 × Int32)) : Int32 := match z with
  | some (a, b) => if w = 0 then a else b
  | none => -1
def pairT (τ : TB) (i u v t k w : Int32) : Int32 := if canPairB i u v t && decide (¬ k < 0) && inR w 0 1 then pickI w ((kthAll (fun p q => pairB τ i.toNatClampNeg u v t.toNatClampNeg p q) (tN τ) (tN τ) 0 k.toNatClampNeg).map (fun x => (nI x.1, nI x.2))) else -1
def chs (n : Nat) : Nat → Nat
  | 0 => 1
  | k + 1 => chs n k * (n - k) / (k + 1)
def ovN (n w k : Nat) : Nat := fb_sm (fun j => if w ≤ j then chs n j else 0) k
theorem chs_le : ∀ n, n < 31 → ∀ k, k < 32 → chs n k ≤ 155117520 := by decide +kernel
theorem ovN_le : ∀ n, n < 31 → ∀ w, w < 32 → ∀ k, k < 32 → ovN n w k ≤ 1073741824 := by decide +kernel
def sureJ (by' : Int64) (n w : Nat) : Bool := decide (¬ (0 : Int32) < lg_cmp (by' * lN (ovN n w (n + 1))) ((1 : Int64) <<< ((nI n).toInt64 &&& 63)))
def sureI (τ : TB) (i : Nat) (u v : Int32) (tk : Nat) (by' : Int64) : Int32 := if 30 < winsN τ i u v tk + losN τ i u v tk then -1 else bI (sureJ by' (winsN τ i u v tk + losN τ i u v tk) (winsN τ i u v tk))
def sureT (τ : TB) (i u v t m' r : Int32) : Int32 := if canPairB i u v t && inR m' 1 1000 && inR r 1 1000000 then sureI τ i.toNatClampNeg u v t.toNatClampNeg (m'.toInt64 * r.toInt64) else -1
def beatB (τ : TB) (i : Nat) (v tk : Nat) (by' : Int64) (u : Nat) : Bool := decide (u = v) || decide (sureI τ i (nI u) (nI v) tk by' = 1)
def bestBy (τ : TB) (i : Nat) (r : Int32) : Int64 := ((nI (tBnd τ i)).toInt64 * (nI (tBnd τ i - 1)).toInt64) * r.toInt64
def bestB (τ : TB) (i tk : Nat) (r : Int32) (v : Nat) : Bool := (List.range (tBnd τ i)).all (fun u => beatB τ i v tk (bestBy τ i r) u)
def bestT (τ : TB) (i t r : Int32) : Int32 := if inR i 0 3 && inR t 1 16 && inR r 1 1000000 && decide (2 ≤ tBnd τ i.toNatClampNeg) then fstI (fun v => bestB τ i.toNatClampNeg t.toNatClampNeg r v) (tBnd τ i.toNatClampNeg) 0 else -1
def holeB (τ : TB) (k tk : Nat) (n own : Nat) : Bool := decide (savedI τ k (setAt τ n) (nI own) tk = (-1))
def holesT (τ : TB) (k t w : Int32) : Int32 := if canHoleB k t w then nI (fb_sm (fun n => fb_ct (fun o => holeB τ k.toNatClampNeg t.toNatClampNeg n o) w.toNatClampNeg) (gridN τ)) else -1
def holeT (τ : TB) (k t w j x : Int32) : Int32 := if canHoleB k t w && decide (¬ j < 0) && inR x 0 1 then pickI x ((kthAll (fun n o => holeB τ k.toNatClampNeg t.toNatClampNeg n o) w.toNatClampNeg (gridN τ) 0 j.toNatClampNeg).map (fun z => (setAt τ z.1, nI z.2))) else -1
theorem grid_le {τ : TB} (hT : TOK τ) : 1 ≤ gridN τ ∧ gridN τ ≤ 1296 := by
  have b0 := hT.2.1 0 (by omega); have b1 := hT.2.1 1 (by omega); have b2 := hT.2.1 2 (by omega); have b3 := hT.2.1 3 (by omega)
  have key : ∀ a b c d : Nat, 1 ≤ a → a ≤ 6 → 1 ≤ b → b ≤ 6 → 1 ≤ c → c ≤ 6 → 1 ≤ d → d ≤ 6 → 1 ≤ a * b * c * d ∧ a * b * c * d ≤ 1296 := by
    intro a b c d ha1 ha hb1 hb hc1 hc hd1 hd
    have h1 : a * b ≤ 6 * 6 := Nat.mul_le_mul ha hb
    have h2 : a * b * c ≤ 6 * 6 * 6 := Nat.mul_le_mul h1 hc
    have h3 : a * b * c * d ≤ 6 * 6 * 6 * 6 := Nat.mul_le_mul h2 hd
    have g1 : 1 * 1 ≤ a * b := Nat.mul_le_mul ha1 hb1
    have g2 : 1 * 1 * 1 ≤ a * b * c := Nat.mul_le_mul g1 hc1
    have g3 : 1 * 1 * 1 * 1 ≤ a * b * c * d := Nat.mul_le_mul g2 hd1
    omega
  exact key _ _ _ _ b0.1 b0.2 b1.1 b1.2 b2.1 b2.2 b3.1 b3.2

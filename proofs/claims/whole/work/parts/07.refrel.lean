/-! THE REFERENCE'S MEMORY AND THE BOOK; rows on small ints and answers -/
def RunR (α : Nat → Nat → Int32) (r : Nat) (ρ : RunT) : Prop := α 7 r = nI (rCode ρ) ∧ α 8 r = nI (rStp ρ).length ∧ (∀ j, j < (rStp ρ).length → α 9 (8 * r + j) = nI ((rStp ρ).getD j 0)) ∧ α 10 r = rSet ρ ∧ α 11 r = rSeed ρ ∧ α 12 r = nI (rTk ρ) ∧ α 13 r = nI (rRow ρ).length ∧ (∀ t, t < (rRow ρ).length → α 14 (16 * r + t) = (rRow ρ).getD t 0) ∧ α 15 r = bI (rBr ρ) ∧ α 16 r = rOrg ρ ∧ α 17 r = rAt ρ ∧ α 18 r = rRS ρ ∧ α 19 r = rRW ρ ∧ (∀ i, i < 8 → hasB (rRW ρ) i = true → α 20 (8 * r + i) = rWas ρ i) ∧ α 21 r = bI (rSd ρ) ∧ α 22 r = bI (rCk ρ)
def MdR (φ : Nat → Int32) (α : Nat → Nat → Int32) (τ : TB) : Prop := φ 5 = tClk τ ∧ φ 6 = nI (tN τ) ∧ φ 35 = nI (tClm τ).length ∧ (∀ k, k < 4 → α 1 k = nI (tCode τ k).length) ∧ (∀ k, k < 4 → ∀ j, j < (tCode τ k).length → α 2 (8 * k + j) = nI ((tCode τ k).getD j 0)) ∧ (∀ i, i < 8 → α 3 i = tDat τ i) ∧ (∀ i, i < 4 → α 4 i = nI (tBnd τ i)) ∧ (∀ r, r < tN τ → RunR α r (tRun τ r)) ∧ (∀ j, j < (tClm τ).length → α 36 j = nI ((tClm τ).getD j 0)) ∧ (∀ r, tN τ ≤ r → r < 40 → α 18 r = 0 ∧ α 19 r = 0 ∧ α 21 r = 0 ∧ α 22 r = 0)
section MdRs
variable {φ : Nat → Int32} {α : Nat → Nat → Int32} {τ : TB}
theorem MdR.clk (h : MdR φ α τ) : φ 5 = tClk τ := h.1
theorem MdR.n (h : MdR φ α τ) : φ 6 = nI (tN τ) := h.2.1
theorem MdR.nc (h : MdR φ α τ) : φ 35 = nI (tClm τ).length := h.2.2.1
theorem MdR.cl (h : MdR φ α τ) {k : Nat} (hk : k < 4) : α 1 k = nI (tCode τ k).length := h.2.2.2.1 k hk
theorem MdR.cs (h : MdR φ α τ) {k : Nat} (hk : k < 4) {j : Nat} (hj : j < (tCode τ k).length) : α 2 (8 * k + j) = nI ((tCode τ k).getD j 0) := h.2.2.2.2.1 k hk j hj
theorem MdR.dat (h : MdR φ α τ) {i : Nat} (hi : i < 8) : α 3 i = tDat τ i := h.2.2.2.2.2.1 i hi
theorem MdR.bnd (h : MdR φ α τ) {i : Nat} (hi : i < 4) : α 4 i = nI (tBnd τ i) := h.2.2.2.2.2.2.1 i hi
theorem MdR.run (h : MdR φ α τ) {r : Nat} (hr : r < tN τ) : RunR α r (tRun τ r) := h.2.2.2.2.2.2.2.1 r hr
theorem MdR.clm (h : MdR φ α τ) {j : Nat} (hj : j < (tClm τ).length) : α 36 j = nI ((tClm τ).getD j 0) := h.2.2.2.2.2.2.2.2.1 j hj
theorem MdR.fresh (h : MdR φ α τ) {r : Nat} (h1 : tN τ ≤ r) (h2 : r < 40) : α 18 r = 0 ∧ α 19 r = 0 ∧ α 21 r = 0 ∧ α 22 r = 0 := h.2.2.2.2.2.2.2.2.2 r h1 h2
variable {r : Nat} {ρ : RunT}
theorem RunR.code (h : RunR α r ρ) : α 7 r = nI (rCode ρ) := h.1
theorem RunR.len (h : RunR α r ρ) : α 8 r = nI (rStp ρ).length := h.2.1
theorem RunR.stp (h : RunR α r ρ) {j : Nat} (hj : j < (rStp ρ).length) : α 9 (8 * r + j) = nI ((rStp ρ).getD j 0) := h.2.2.1 j hj
theorem RunR.set (h : RunR α r ρ) : α 10 r = rSet ρ := h.2.2.2.1
theorem RunR.seed (h : RunR α r ρ) : α 11 r = rSeed ρ := h.2.2.2.2.1
theorem RunR.tk (h : RunR α r ρ) : α 12 r = nI (rTk ρ) := h.2.2.2.2.2.1
theorem RunR.nrow (h : RunR α r ρ) : α 13 r = nI (rRow ρ).length := h.2.2.2.2.2.2.1
theorem RunR.row (h : RunR α r ρ) {t : Nat} (ht : t < (rRow ρ).length) : α 14 (16 * r + t) = (rRow ρ).getD t 0 := h.2.2.2.2.2.2.2.1 t ht
theorem RunR.br (h : RunR α r ρ) : α 15 r = bI (rBr ρ) := h.2.2.2.2.2.2.2.2.1
theorem RunR.org (h : RunR α r ρ) : α 16 r = rOrg ρ := h.2.2.2.2.2.2.2.2.2.1
theorem RunR.at' (h : RunR α r ρ) : α 17 r = rAt ρ := h.2.2.2.2.2.2.2.2.2.2.1
theorem RunR.rs (h : RunR α r ρ) : α 18 r = rRS ρ := h.2.2.2.2.2.2.2.2.2.2.2.1
theorem RunR.rw (h : RunR α r ρ) : α 19 r = rRW ρ := h.2.2.2.2.2.2.2.2.2.2.2.2.1
theorem RunR.was (h : RunR α r ρ) {i : Nat} (hi : i < 8) (hb : hasB (rRW ρ) i = true) : α 20 (8 * r + i) = rWas ρ i := h.2.2.2.2.2.2.2.2.2.2.2.2.2.1 i hi hb
theorem RunR.sd (h : RunR α r ρ) : α 21 r = bI (rSd ρ) := h.2.2.2.2.2.2.2.2.2.2.2.2.2.2.1
theorem RunR.ck (h : RunR α r ρ) : α 22 r = bI (rCk ρ) := h.2.2.2.2.2.2.2.2.2.2.2.2.2.2.2
end MdRs
theorem bI1 {P : Prop} {b : Bool} (e : b = true ↔ P) (h : P) : (1 : Int32) = bI b := by rw [e.mpr h]; rfl
theorem bI0 {P : Prop} {b : Bool} (e : b = true ↔ P) (h : ¬ P) : (0 : Int32) = bI b := by
  cases b with
  | false => rfl
  | true => exact absurd (e.mp rfl) h
theorem bit1 {b : Bool} (h : b = true) : (1 : Int32) = bI b := by rw [h]; rfl
theorem bif0 {b : Bool} (h : b = false) : (0 : Int32) = bI b := by rw [h]; rfl
theorem inR_iff {x : Int32} {lo hi : Int} : inR x lo hi = true ↔ lo ≤ x.toInt ∧ x.toInt ≤ hi := by simp [inR]
theorem in1 {x : Int32} {lo hi : Int} (h : lo ≤ x.toInt ∧ x.toInt ≤ hi) : (1 : Int32) = bI (inR x lo hi) := bI1 inR_iff h
theorem in0 {x : Int32} {lo hi : Int} (h : ¬ (lo ≤ x.toInt ∧ x.toInt ≤ hi)) : (0 : Int32) = bI (inR x lo hi) := bI0 inR_iff h
theorem inR_nI {x : Int32} {hi : Nat} (h : inR x 0 hi = true) : ∃ j : Nat, j ≤ hi ∧ x = nI j := by
  have h1 := inR_iff.mp h
  have h2 := fb_rng x
  refine ⟨x.toInt.toNat, by omega, ?_⟩
  rw [fa_eq, nI_toInt (by omega)]
  omega
theorem li_0 : (0 : Int32).toInt = 0 := by decide
theorem li_1 : (1 : Int32).toInt = 1 := by decide
theorem li_2 : (2 : Int32).toInt = 2 := by decide
theorem li_3 : (3 : Int32).toInt = 3 := by decide
theorem li_4 : (4 : Int32).toInt = 4 := by decide
theorem li_5 : (5 : Int32).toInt = 5 := by decide
theorem li_6 : (6 : Int32).toInt = 6 := by decide
theorem li_7 : (7 : Int32).toInt = 7 := by decide
theorem li_8 : (8 : Int32).toInt = 8 := by decide
theorem li_12 : (12 : Int32).toInt = 12 := by decide
theorem li_15 : (15 : Int32).toInt = 15 := by decide
theorem li_16 : (16 : Int32).toInt = 16 := by decide
theorem li_20 : (20 : Int32).toInt = 20 := by decide
theorem li_30 : (30 : Int32).toInt = 30 := by decide
theorem li_40 : (40 : Int32).toInt = 40 := by decide
theorem li_100 : (100 : Int32).toInt = 100 := by decide
theorem li_1000 : (1000 : Int32).toInt = 1000 := by decide
theorem li_65535 : (65535 : Int32).toInt = 65535 := by decide
theorem li_65536 : (65536 : Int32).toInt = 65536 := by decide
theorem li_1000000 : (1000000 : Int32).toInt = 1000000 := by decide
theorem li_m1 : (-1 : Int32).toInt = -1 := by decide
theorem tRun_mem {τ : TB} {r : Nat} (h : r < tN τ) : tRun τ r ∈ tRuns τ := by
  unfold tRun
  rw [List.getD_eq_getElem?_getD, List.getElem?_eq_getElem h]
  exact List.getElem_mem h

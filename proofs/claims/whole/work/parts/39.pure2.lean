/-! PURE: pairs, the grid, holes -/
def pcB (τ : TB) (i : Nat) (u v : Int32) (tk : Nat) (w : Int32) (p q : Nat) : Bool := stdB (tRun τ p) (cntB τ p) i u tk && (stdB (tRun τ q) (cntB τ q) i v tk && pwB (tRun τ p) (tRun τ q) i && askB (lastR (rRow (tRun τ p))) (lastR (rRow (tRun τ q))) w)
def pkB (τ : TB) (i : Nat) (u v : Int32) (tk : Nat) (p q : Nat) : Bool := stdB (tRun τ p) (cntB τ p) i u tk && (stdB (tRun τ q) (cntB τ q) i v tk && pwB (tRun τ p) (tRun τ q) i)
theorem pk_e {τ : TB} {i : Nat} {u v : Int32} {tk p q : Nat} (hi : i < 4) : pkB τ i u v tk p q = pairB τ i u v tk p q := by
  rw [Bool.eq_iff_iff]
  simp only [pkB, stdB, cntB, pwB, pairB, may_e, like_e, Bool.and_eq_true, decide_eq_true_eq]
  constructor
  · rintro ⟨⟨⟨⟨h1, h2⟩, h3⟩, h4⟩, ⟨⟨⟨k1, k2⟩, k3⟩, k4⟩, ⟨⟨⟨l1, l2⟩, l3⟩, l4⟩⟩
    rw [h3] at h2; rw [k3] at k2
    refine ⟨⟨⟨⟨⟨⟨⟨⟨h1, h3⟩, k1, k3⟩, h4⟩, k4⟩, ?_⟩, l1, l2, h3.trans k3.symm, l4⟩, h2⟩, k2⟩
    rw [← h4, ← k4]
    exact (mask_xor _ _ hi).mp l3
  · rintro ⟨⟨⟨⟨⟨⟨⟨⟨h1, h3⟩, k1, k3⟩, h4⟩, k4⟩, hx⟩, l1, l2, l3, l4⟩, h2⟩, k2⟩
    refine ⟨⟨⟨⟨h1, by rw [h3]; exact h2⟩, h3⟩, h4⟩, ⟨⟨⟨k1, by rw [k3]; exact k2⟩, k3⟩, k4⟩, ⟨⟨l1, l2⟩, ?_⟩, l4⟩
    rw [← h4, ← k4] at hx
    exact (mask_xor _ _ hi).mpr hx
theorem pc_pk {τ : TB} {i : Nat} {u v : Int32} {tk p q : Nat} {w : Int32} : pcB τ i u v tk w p q = (pkB τ i u v tk p q && askB (lastR (rRow (tRun τ p))) (lastR (rRow (tRun τ q))) w) := by
  simp only [pcB, pkB, Bool.and_assoc]
theorem last_may {τ : TB} {p tk : Nat} (hT : TOK τ) (hp : p < tN τ) (h : mayB (tRun τ p) tk = true) : lastR (rRow (tRun τ p)) = lastV (tRun τ p) tk := by
  have hO := hT.2.2.2.1 p hp
  simp only [may_e, cmpB, Bool.and_eq_true, decide_eq_true_eq, Bool.not_eq_true'] at h
  have hl := hO.2.2.2.2.2.2.2.2.1 h.1.1.2
  have h1 := hO.2.2.2.2.2.1
  unfold lastV
  rw [← h.2, ← hl, ← lastTake (by omega) (Nat.le_refl _), List.take_length]
theorem ask_1 (a b : Int32) : askB a b 1 = decide (a < b) := by rw [askB, if_pos rfl]
theorem ask_2 (a b : Int32) : askB a b 2 = decide (b < a) := by rw [askB, if_neg (by decide), if_pos rfl]
theorem pc_0 {τ : TB} {i : Nat} {u v : Int32} {tk p q : Nat} (hi : i < 4) : pcB τ i u v tk 0 p q = pairB τ i u v tk p q := by
  rw [pc_pk, pk_e hi, show askB (lastR (rRow (tRun τ p))) (lastR (rRow (tRun τ q))) 0 = true from rfl, Bool.and_true]
theorem pc_1 {τ : TB} {i : Nat} {u v : Int32} {tk p q : Nat} (hi : i < 4) (hT : TOK τ) (hp : p < tN τ) (hq : q < tN τ) : pcB τ i u v tk 1 p q = winB τ i u v tk p q := by
  rw [pc_pk, pk_e hi, winB]
  cases e : pairB τ i u v tk p q with
  | false => rw [Bool.false_and, Bool.false_and]
  | true =>
    simp only [pairB, Bool.and_eq_true] at e
    rw [last_may hT hp e.1.1.1.1.1.1.1, last_may hT hq e.1.1.1.1.1.1.2, ask_1]
theorem pc_2 {τ : TB} {i : Nat} {u v : Int32} {tk p q : Nat} (hi : i < 4) (hT : TOK τ) (hp : p < tN τ) (hq : q < tN τ) : pcB τ i u v tk 2 p q = losB τ i u v tk p q := by
  rw [pc_pk, pk_e hi, losB]
  cases e : pairB τ i u v tk p q with
  | false => rw [Bool.false_and, Bool.false_and]
  | true =>
    simp only [pairB, Bool.and_eq_true] at e
    rw [last_may hT hp e.1.1.1.1.1.1.1, last_may hT hq e.1.1.1.1.1.1.2, ask_2]
def pcN (τ : TB) (i : Nat) (u v : Int32) (tk : Nat) (w : Int32) : Nat := fb_sm (fun p => fb_ct (fun q => pcB τ i u v tk w p q) (tN τ)) (tN τ)
theorem pcN_0 {τ : TB} {i : Nat} {u v : Int32} {tk : Nat} (hi : i < 4) : pcN τ i u v tk 0 = pairsN τ i u v tk := fb_sm_cong (fun p _ => fb_ct_cong (fun q _ => pc_0 hi))
theorem pcN_1 {τ : TB} {i : Nat} {u v : Int32} {tk : Nat} (hi : i < 4) (hT : TOK τ) : pcN τ i u v tk 1 = winsN τ i u v tk := fb_sm_cong (fun p hp => fb_ct_cong (fun q hq => pc_1 hi hT hp hq))
theorem pcN_2 {τ : TB} {i : Nat} {u v : Int32} {tk : Nat} (hi : i < 4) (hT : TOK τ) : pcN τ i u v tk 2 = losN τ i u v tk := fb_sm_cong (fun p hp => fb_ct_cong (fun q hq => pc_2 hi hT hp hq))
theorem pcN_le {τ : TB} {i : Nat} {u v : Int32} {tk : Nat} {w : Int32} (hT : TOK τ) : pcN τ i u v tk w ≤ 1600 := by
  have h1 := fb_sm_bound (f := fun p => fb_ct (fun q => pcB τ i u v tk w p q) (tN τ)) (c := tN τ) (n := tN τ) (fun k _ => fb_ct_le _ _)
  have h2 : tN τ * tN τ ≤ 40 * 40 := Nat.mul_le_mul hT.2.2.1 hT.2.2.1
  unfold pcN
  omega
theorem cnt2_skip {f : Nat → Nat → Bool} {n p : Nat} (h : ∀ q, f p q = false) : cnt2 f n (p + 1) 0 = cnt2 f n p 0 := by
  rw [cnt2_row]
  unfold cnt2
  rw [fb_ct_zero.mpr (fun k _ => h k)]
  rfl
theorem cnt2_all {f : Nat → Nat → Bool} {n p : Nat} : cnt2 f n p 0 = fb_sm (fun p => fb_ct (f p) n) p := by unfold cnt2; rfl
theorem kth_rskip {f : Nat → Nat → Bool} {cols rows p k : Nat} (h : p < rows) (hf : ∀ q, f p q = false) : kthAll f cols (rows - p) p k = kthAll f cols (rows - (p + 1)) (p + 1) k := by
  rw [kth_in h]
  have : ∀ m q, kthRow (f p) m q k = (none, k) := by
    intro m
    induction m with
    | zero => intro q; rfl
    | succ m ih => intro q; simp only [kthRow, hf, Bool.false_eq_true, if_false]; exact ih _
  rw [this]; rfl
theorem kth_aend {f : Nat → Nat → Bool} {cols rows p k : Nat} (h : rows ≤ p) : kthAll f cols (rows - p) p k = none := by rw [show rows - p = 0 by omega]; rfl
/-- the grid -/
def sN (d3 d2 d1 d0 : Nat) : Nat := d3 * 4096 + d2 * 256 + d1 * 16 + d0
theorem set_dg : ∀ d3, d3 < 6 → ∀ d2, d2 < 6 → ∀ d1, d1 < 6 → ∀ d0, d0 < 6 → (((0 ||| (nI d3 <<< ((nI (4 * 3)) &&& 31))) ||| (nI d2 <<< ((nI (4 * 2)) &&& 31))) ||| (nI d1 <<< ((nI (4 * 1)) &&& 31))) ||| (nI d0 <<< ((nI (4 * 0)) &&& 31)) = nI (sN d3 d2 d1 d0) := by decide +kernel
theorem sg_3 : ∀ d3, d3 < 6 → ∀ d2, d2 < 6 → ∀ d1, d1 < 6 → ∀ d0, d0 < 6 → sett (nI (sN d3 d2 d1 d0)) 3 = nI d3 := by decide +kernel
theorem sg_2 : ∀ d2, d2 < 6 → ∀ d1, d1 < 6 → ∀ d0, d0 < 6 → sett (nI (sN 0 d2 d1 d0)) 2 = nI d2 := by decide +kernel
theorem sg_1 : ∀ d1, d1 < 6 → ∀ d0, d0 < 6 → sett (nI (sN 0 0 d1 d0)) 1 = nI d1 := by decide +kernel
theorem sg_0 : ∀ d0, d0 < 6 → sett (nI (sN 0 0 0 d0)) 0 = nI d0 := by decide +kernel
theorem sb_3 : ∀ d3, d3 < 6 → ∀ d2, d2 < 6 → ∀ d1, d1 < 6 → ∀ d0, d0 < 6 → nI (sN d3 d2 d1 d0) - (nI d3 <<< ((nI (4 * 3)) &&& 31)) = nI (sN 0 d2 d1 d0) := by decide +kernel
theorem sb_2 : ∀ d2, d2 < 6 → ∀ d1, d1 < 6 → ∀ d0, d0 < 6 → nI (sN 0 d2 d1 d0) - (nI d2 <<< ((nI (4 * 2)) &&& 31)) = nI (sN 0 0 d1 d0) := by decide +kernel
theorem sb_1 : ∀ d1, d1 < 6 → ∀ d0, d0 < 6 → nI (sN 0 0 d1 d0) - (nI d1 <<< ((nI (4 * 1)) &&& 31)) = nI (sN 0 0 0 d0) := by decide +kernel
theorem sb_0 : ∀ d0, d0 < 6 → nI (sN 0 0 0 d0) - (nI d0 <<< ((nI (4 * 0)) &&& 31)) = nI 0 := by decide +kernel
theorem sa_3 : ∀ d3, d3 < 6 → ∀ d2, d2 < 6 → ∀ d1, d1 < 6 → ∀ d0, d0 < 6 → nI (sN d3 d2 d1 d0) + ((1 : Int32) <<< ((nI (4 * 3)) &&& 31)) = nI (sN (d3 + 1) d2 d1 d0) := by decide +kernel
theorem sa_2 : ∀ d2, d2 < 6 → ∀ d1, d1 < 6 → ∀ d0, d0 < 6 → nI (sN 0 d2 d1 d0) + ((1 : Int32) <<< ((nI (4 * 2)) &&& 31)) = nI (sN 0 (d2 + 1) d1 d0) := by decide +kernel
theorem sa_1 : ∀ d1, d1 < 6 → ∀ d0, d0 < 6 → nI (sN 0 0 d1 d0) + ((1 : Int32) <<< ((nI (4 * 1)) &&& 31)) = nI (sN 0 0 (d1 + 1) d0) := by decide +kernel
theorem sa_0 : ∀ d0, d0 < 6 → nI (sN 0 0 0 d0) + ((1 : Int32) <<< ((nI (4 * 0)) &&& 31)) = nI (sN 0 0 0 (d0 + 1)) := by decide +kernel
theorem inc_lt {n b : Nat} (hb : 0 < b) (h : n % b + 1 < b) : (n + 1) % b = n % b + 1 ∧ (n + 1) / b = n / b := by
  have e : n + 1 = (n % b + 1) + b * (n / b) := by have := Nat.mod_add_div n b; omega
  constructor
  · rw [e, Nat.add_mul_mod_self_left, Nat.mod_eq_of_lt h]
  · rw [e, Nat.add_mul_div_left _ _ hb, Nat.div_eq_of_lt h, Nat.zero_add]
theorem inc_ge {n b : Nat} (hb : 0 < b) (h : ¬ n % b + 1 < b) : (n + 1) % b = 0 ∧ (n + 1) / b = n / b + 1 := by
  have h2 := Nat.mod_lt n hb
  have e : n + 1 = b * (n / b + 1) := by have := Nat.mod_add_div n b; rw [Nat.mul_add]; omega
  constructor
  · rw [e]; exact Nat.mul_mod_right _ _
  · rw [e, Nat.mul_div_cancel_left _ hb]
def nxI (τ : TB) (n : Nat) : Int32 := if n + 1 < gridN τ then setAt τ (n + 1) else -1
def stI (τ : TB) (n : Nat) : Int32 := if n < gridN τ then setAt τ n else -1
theorem grid_dv {τ : TB} (hT : TOK τ) (n : Nat) : n < gridN τ ↔ n / tBnd τ 3 / tBnd τ 2 / tBnd τ 1 < tBnd τ 0 := by
  have b1 := hT.2.1 1 (by omega); have b2 := hT.2.1 2 (by omega); have b3 := hT.2.1 3 (by omega)
  rw [Nat.div_lt_iff_lt_mul (by omega), Nat.div_lt_iff_lt_mul (by omega), Nat.div_lt_iff_lt_mul (by omega)]
  rfl
theorem set_e {τ : TB} (hT : TOK τ) (n : Nat) : setAt τ n = nI (sN (n % tBnd τ 3) (n / tBnd τ 3 % tBnd τ 2) (n / tBnd τ 3 / tBnd τ 2 % tBnd τ 1) (n / tBnd τ 3 / tBnd τ 2 / tBnd τ 1 % tBnd τ 0)) := by
  have b0 := hT.2.1 0 (by omega); have b1 := hT.2.1 1 (by omega); have b2 := hT.2.1 2 (by omega); have b3 := hT.2.1 3 (by omega)
  have m0 := Nat.mod_lt (n / tBnd τ 3 / tBnd τ 2 / tBnd τ 1) (show 0 < tBnd τ 0 by omega)
  have m1 := Nat.mod_lt (n / tBnd τ 3 / tBnd τ 2) (show 0 < tBnd τ 1 by omega)
  have m2 := Nat.mod_lt (n / tBnd τ 3) (show 0 < tBnd τ 2 by omega)
  have m3 := Nat.mod_lt n (show 0 < tBnd τ 3 by omega)
  exact set_dg _ (by omega) _ (by omega) _ (by omega) _ (by omega)
theorem set_ne {τ : TB} (hT : TOK τ) (n : Nat) : ¬ setAt τ n = (-1) := by
  rw [set_e hT]
  have b0 := hT.2.1 0 (by omega); have b1 := hT.2.1 1 (by omega); have b2 := hT.2.1 2 (by omega); have b3 := hT.2.1 3 (by omega)
  have m0 := Nat.mod_lt (n / tBnd τ 3 / tBnd τ 2 / tBnd τ 1) (show 0 < tBnd τ 0 by omega)
  have m1 := Nat.mod_lt (n / tBnd τ 3 / tBnd τ 2) (show 0 < tBnd τ 1 by omega)
  have m2 := Nat.mod_lt (n / tBnd τ 3) (show 0 < tBnd τ 2 by omega)
  have m3 := Nat.mod_lt n (show 0 < tBnd τ 3 by omega)
  rw [fa_eq, li_m1, nI_toInt (by unfold sN; omega)]
  omega
/-- the members of a set, and the k-th -/
theorem kr_cnt (f : Nat → Bool) : ∀ (m q k : Nat), (k < fb_ct (fun j => f (q + j)) m → ∃ o, q ≤ o ∧ o < q + m ∧ kthRow f m q k = (some o, 0)) ∧ (¬ k < fb_ct (fun j => f (q + j)) m → kthRow f m q k = (none, k - fb_ct (fun j => f (q + j)) m))
  | 0, q, k => ⟨fun h => absurd h (Nat.not_lt_zero _), fun _ => rfl⟩
  | m + 1, q, k => by
    have e : fb_ct (fun j => f (q + j)) (m + 1) = (if f q then 1 else 0) + fb_ct (fun j => f (q + 1 + j)) m := by
      rw [Nat.add_comm m 1, fb_ct_split]
      congr 1
      · simp [fb_ct]
      · exact fb_ct_cong (fun k _ => by rw [Nat.add_assoc])
    rw [e]
    cases hf : f q with
    | true =>
      simp only [if_true]
      by_cases hk : k = 0
      · subst hk
        refine ⟨fun _ => ⟨q, Nat.le_refl _, by omega, by simp only [kthRow, hf, if_true]⟩, fun h => absurd h (by omega)⟩
      · obtain ⟨h1, h2⟩ := kr_cnt f m (q + 1) (k - 1)
        have e2 : kthRow f (m + 1) q k = kthRow f m (q + 1) (k - 1) := by simp only [kthRow, hf, if_true, hk, if_false]
        rw [e2]
        refine ⟨fun h => ?_, fun h => ?_⟩
        · obtain ⟨o, a1, a2, a3⟩ := h1 (by omega)
          exact ⟨o, by omega, by omega, a3⟩
        · rw [h2 (by omega)]; congr 1; omega
    | false =>
      simp only [Bool.false_eq_true, if_false, Nat.zero_add]
      obtain ⟨h1, h2⟩ := kr_cnt f m (q + 1) k
      have e2 : kthRow f (m + 1) q k = kthRow f m (q + 1) k := by simp only [kthRow, hf, Bool.false_eq_true, if_false]
      rw [e2]
      refine ⟨fun h => ?_, h2⟩
      obtain ⟨o, a1, a2, a3⟩ := h1 h
      exact ⟨o, by omega, by omega, a3⟩
theorem kr_more (f : Nat → Bool) (m2 : Nat) : ∀ (m q k : Nat) {o z : Nat}, kthRow f m q k = (some o, z) → kthRow f (m + m2) q k = (some o, z)
  | 0, q, k, o, z, h => by cases h
  | m + 1, q, k, o, z, h => by
    rw [show m + 1 + m2 = (m + m2) + 1 by omega]
    cases hf : f q with
    | true =>
      by_cases hk : k = 0
      · subst hk; simp only [kthRow, hf, if_true] at h ⊢; exact h
      · simp only [kthRow, hf, if_true, hk, if_false] at h ⊢
        exact kr_more f m2 m _ _ h
    | false =>
      simp only [kthRow, hf, Bool.false_eq_true, if_false] at h ⊢
      exact kr_more f m2 m _ _ h
theorem kr_cong {f g : Nat → Bool} : ∀ (m q k : Nat), (∀ j, q ≤ j → j < q + m → f j = g j) → kthRow f m q k = kthRow g m q k
  | 0, _, _, _ => rfl
  | m + 1, q, k, h => by
    have e := h q (Nat.le_refl _) (by omega)
    simp only [kthRow]
    rw [e, kr_cong m (q + 1) (k - 1) (fun j h1 h2 => h j (by omega) (by omega)), kr_cong m (q + 1) k (fun j h1 h2 => h j (by omega) (by omega))]

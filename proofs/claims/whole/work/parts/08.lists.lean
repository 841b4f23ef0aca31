/-! rows on lists and ranges -/
theorem allR {n : Nat} {p : Nat → Bool} : (List.range n).all p = true ↔ ∀ i, i < n → p i = true := by simp [List.all_eq_true]
theorem allRf {n : Nat} {p : Nat → Bool} {i : Nat} (hi : i < n) (h : p i = false) : (List.range n).all p = false := by
  cases e : (List.range n).all p with
  | false => rfl
  | true => rw [allR.mp e i hi] at h; cases h
theorem anyR {n : Nat} {p : Nat → Bool} {i : Nat} (hi : i < n) (h : p i = true) : (List.range n).any p = true := List.any_eq_true.mpr ⟨i, List.mem_range.mpr hi, h⟩
theorem anyRf {n : Nat} {p : Nat → Bool} (h : ∀ i, i < n → p i = false) : (List.range n).any p = false := by
  cases e : (List.range n).any p with
  | false => rfl
  | true =>
    obtain ⟨i, h1, h2⟩ := List.any_eq_true.mp e
    rw [h i (List.mem_range.mp h1)] at h2
    cases h2
theorem listEq {a b : List Nat} (h1 : a.length = b.length) (h2 : ∀ j, j < a.length → a.getD j 0 = b.getD j 0) : a = b := by
  refine List.ext_getElem h1 (fun i hi hj => ?_)
  have := h2 i hi
  rwa [List.getD_eq_getElem?_getD, List.getD_eq_getElem?_getD, List.getElem?_eq_getElem hi, List.getElem?_eq_getElem hj] at this
theorem getD_mem {a : List Nat} {j : Nat} (h : j < a.length) : a.getD j 0 ∈ a := by
  rw [List.getD_eq_getElem?_getD, List.getElem?_eq_getElem h]
  exact List.getElem_mem h
theorem sOK_iff {st : Int32} : sOK st = true ↔ (0 ≤ st.toInt ∧ st.toInt ≤ 65535) ∧ ∀ j, j < 4 → sett st j ≤ 5 := by
  simp only [sOK, Bool.and_eq_true, inR_iff, allR, decide_eq_true_eq]
theorem lt_s1 {i : Nat} {p : Nat → Prop} (h : ∀ a, a < i → p a) (hi : p i) : ∀ a, a < i + 1 → p a := fun a ha => by
  rcases Nat.lt_or_ge a i with h1 | h1
  · exact h a h1
  · rw [show a = i by omega]; exact hi
theorem notHas {x : Int32} {i : Nat} (h : ¬ ((x >>> ((nI i) &&& 31)) &&& 1) = 1) : hasB x i = false := by simp only [hasB, decide_eq_false_iff_not]; exact h
theorem isHas {x : Int32} {i : Nat} (h : ((x >>> ((nI i) &&& 31)) &&& 1) = 1) : hasB x i = true := by simp only [hasB, decide_eq_true_eq]; exact h
theorem and1 (x : Int32) : x &&& 1 = 0 ∨ x &&& 1 = 1 := by
  have h : ∀ b : BitVec 32, b &&& 1#32 = 0#32 ∨ b &&& 1#32 = 1#32 := by
    intro b
    have h1 : (b &&& 1#32).toNat = b.toNat % 2 := by
      rw [BitVec.toNat_and]
      exact Nat.and_one_is_mod b.toNat
    rcases Nat.mod_two_eq_zero_or_one b.toNat with h0 | h0
    · left; apply BitVec.eq_of_toNat_eq; rw [h1, h0]; rfl
    · right; apply BitVec.eq_of_toNat_eq; rw [h1, h0]; rfl
  rcases h x.toBitVec with h0 | h0
  · left; exact Int32.toBitVec_inj.mp h0
  · right; exact Int32.toBitVec_inj.mp h0
theorem shrAnd (x y k : Int32) : (x &&& y) >>> k = (x >>> k) &&& (y >>> k) := by
  apply Int32.toBitVec_inj.mp
  simp only [Int32.toBitVec_shiftRight, Int32.toBitVec_and]
  show (x.toBitVec &&& y.toBitVec).sshiftRight (k.toBitVec.smod 32).toNat = x.toBitVec.sshiftRight (k.toBitVec.smod 32).toNat &&& y.toBitVec.sshiftRight (k.toBitVec.smod 32).toNat
  generalize (k.toBitVec.smod 32).toNat = n
  ext i hi
  by_cases hni : n + i < 32 <;> simp [BitVec.getElem_sshiftRight, hni, BitVec.msb_and]
theorem andHas {x y : Int32} {i : Nat} (h : (((x &&& y) >>> ((nI i) &&& 31)) &&& 1) = 1) : hasB x i = true ∧ hasB y i = true := by
  rw [shrAnd] at h
  have e : ((x >>> ((nI i) &&& 31)) &&& (y >>> ((nI i) &&& 31))) &&& 1 = ((x >>> ((nI i) &&& 31)) &&& 1) &&& ((y >>> ((nI i) &&& 31)) &&& 1) := by
    apply Int32.toBitVec_inj.mp
    simp only [Int32.toBitVec_and]
    ext k
    simp only [BitVec.getElem_and]
    cases (x >>> ((nI i) &&& 31)).toBitVec[k] <;> cases (y >>> ((nI i) &&& 31)).toBitVec[k] <;> cases (Int32.toBitVec 1)[k] <;> rfl
  rw [e] at h
  rcases and1 (x >>> ((nI i) &&& 31)) with h1 | h1
  · rw [h1] at h
    have : (0 : Int32) &&& ((y >>> ((nI i) &&& 31)) &&& 1) = 0 := by
      apply Int32.toBitVec_inj.mp
      simp
    rw [this] at h
    exact absurd h (by decide)
  · rcases and1 (y >>> ((nI i) &&& 31)) with h2 | h2
    · rw [h1, h2] at h
      exact absurd h (by decide)
    · exact ⟨isHas h1, isHas h2⟩

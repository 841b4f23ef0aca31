/-! A CODE AS A LONG: its steps are its digits to 256 -/
def packN (qs : List Nat) : Nat := qs.foldl (fun a q => a * 256 + q) 0
theorem pack_app (qs : List Nat) (q : Nat) : packN (qs ++ [q]) = packN qs * 256 + q := by simp [packN]
theorem pack_cons_go (qs : List Nat) : ∀ a : Nat, qs.foldl (fun a q => a * 256 + q) a = a * 256 ^ qs.length + packN qs := by
  induction qs with
  | nil => intro a; simp [packN]
  | cons q qs ih =>
    intro a
    simp only [packN, List.foldl_cons, List.length_cons]
    rw [ih, ih (0 * 256 + q), Nat.pow_succ]
    simp only [Nat.zero_mul, Nat.zero_add]
    rw [Nat.add_mul, Nat.mul_assoc, Nat.mul_comm 256, Nat.add_assoc]
theorem pack_cons (q : Nat) (qs : List Nat) : packN (q :: qs) = q * 256 ^ qs.length + packN qs := by
  show (q :: qs).foldl (fun a q => a * 256 + q) 0 = _
  rw [List.foldl_cons, pack_cons_go]; simp
theorem pack_lt {qs : List Nat} (h : ∀ q ∈ qs, q < 256) : packN qs < 256 ^ qs.length := by
  induction qs with
  | nil => simp [packN]
  | cons q qs ih =>
    rw [pack_cons, List.length_cons, Nat.pow_succ]
    have h1 := ih (fun x hx => h x (List.mem_cons_of_mem _ hx))
    have h2 := h q List.mem_cons_self
    have h3 : (q + 1) * 256 ^ qs.length ≤ 256 * 256 ^ qs.length := Nat.mul_le_mul_right _ (by omega)
    rw [Nat.add_mul, Nat.one_mul] at h3
    rw [Nat.mul_comm (256 ^ qs.length) 256]
    omega
theorem pack_get : ∀ {qs : List Nat} {j : Nat}, (∀ q ∈ qs, q < 256) → j < qs.length → packN qs / 256 ^ (qs.length - 1 - j) % 256 = qs.getD j 0
  | [], j, _, hj => absurd hj (by simp)
  | q :: qs, 0, h, _ => by
    have h1 := pack_lt (fun x hx => h x (List.mem_cons_of_mem _ hx))
    have h2 := h q List.mem_cons_self
    rw [pack_cons]
    show (q * 256 ^ qs.length + packN qs) / 256 ^ (qs.length + 1 - 1 - 0) % 256 = q
    rw [show qs.length + 1 - 1 - 0 = qs.length by omega, Nat.add_comm, Nat.add_mul_div_right _ _ (Nat.pow_pos (by decide)), Nat.div_eq_of_lt h1, Nat.zero_add, Nat.mod_eq_of_lt h2]
  | q :: qs, j + 1, h, hj => by
    have ih := pack_get (qs := qs) (j := j) (fun x hx => h x (List.mem_cons_of_mem _ hx)) (by simpa using hj)
    have hj2 : j < qs.length := by simpa using hj
    rw [pack_cons]
    show (q * 256 ^ qs.length + packN qs) / 256 ^ (qs.length + 1 - 1 - (j + 1)) % 256 = qs.getD j 0
    rw [← ih, show qs.length + 1 - 1 - (j + 1) = qs.length - 1 - j by omega]
    have e : q * 256 ^ qs.length = (q * 256 ^ j * 256) * 256 ^ (qs.length - 1 - j) := by
      rw [Nat.mul_assoc, Nat.mul_assoc, ← Nat.pow_succ', ← Nat.pow_add, show j + (qs.length - 1 - j + 1) = qs.length by omega]
    rw [e, Nat.add_comm, Nat.add_mul_div_right _ _ (Nat.pow_pos (by decide)), Nat.add_mul_mod_self_right]
theorem pack_inj {a b : List Nat} (ha : ∀ q ∈ a, q < 256) (hb : ∀ q ∈ b, q < 256) (hl : a.length = b.length) (h : packN a = packN b) : a = b :=
  listEq hl (fun j hj => by rw [← pack_get ha hj, ← pack_get hb (by omega), h, hl])
theorem pack_64 {qs : List Nat} (h : ∀ q ∈ qs, q < 256) (hl : qs.length ≤ 8) : packN qs < 2 ^ 64 := by
  have h1 := pack_lt h
  have h2 : 256 ^ qs.length ≤ 256 ^ 8 := Nat.pow_le_pow_right (by decide) hl
  have h3 : (256 : Nat) ^ 8 = 2 ^ 64 := by decide
  omega
def u64 (a b : Int32) : Nat := a.toBitVec.toNat * 4294967296 + b.toBitVec.toNat
theorem u64_lt (a b : Int32) : u64 a b < 2 ^ 64 := by
  have h1 := a.toBitVec.isLt; have h2 := b.toBitVec.isLt
  unfold u64
  omega
theorem shr_byte (x : Int32) (n k : Nat) (hk : ((nI n &&& 31).toBitVec.smod 32).toNat = k) (hd : k = 0 ∨ k = 8 ∨ k = 16 ∨ k = 24) : (x >>> (nI n &&& 31)).toBitVec.toNat % 256 = x.toBitVec.toNat / 2 ^ k % 256 := by
  have h1 := pk_shr x (nI n &&& 31) k hk
  generalize hy : x >>> (nI n &&& 31) = y at h1
  have t : ∀ z : Int32, z.toInt = if 2 * z.toBitVec.toNat < 4294967296 then (z.toBitVec.toNat : Int) else (z.toBitVec.toNat : Int) - 4294967296 := fun z => by
    rw [← Int32.toInt_toBitVec, BitVec.toInt_eq_toNat_cond]
    split <;> rfl
  have tx := t x; have ty := t y
  have bx := x.toBitVec.isLt; have by' := y.toBitVec.isLt
  rw [Int.shiftRight_eq_div_pow] at h1
  rcases hd with rfl | rfl | rfl | rfl
  all_goals (simp only [Nat.reducePow, Nat.pow_zero] at h1 ⊢; split at tx <;> split at ty <;> omega)
theorem byte_u64 (a b : Int32) : ∀ i, i < 8 → byteOf a b i = u64 a b / 2 ^ (56 - 8 * i) % 256 := by
  intro i hi
  have h1 := a.toBitVec.isLt; have h2 := b.toBitVec.isLt
  unfold byteOf u64
  rcases (show i = 0 ∨ i = 1 ∨ i = 2 ∨ i = 3 ∨ i = 4 ∨ i = 5 ∨ i = 6 ∨ i = 7 by omega) with rfl | rfl | rfl | rfl | rfl | rfl | rfl | rfl
  · rw [if_pos (by decide), shr_byte a _ 24 (by decide) (by omega)]; simp only [Nat.reducePow, Nat.reduceMul, Nat.reduceSub]; omega
  · rw [if_pos (by decide), shr_byte a _ 16 (by decide) (by omega)]; simp only [Nat.reducePow, Nat.reduceMul, Nat.reduceSub]; omega
  · rw [if_pos (by decide), shr_byte a _ 8 (by decide) (by omega)]; simp only [Nat.reducePow, Nat.reduceMul, Nat.reduceSub]; omega
  · rw [if_pos (by decide), shr_byte a _ 0 (by decide) (by omega)]; simp only [Nat.reducePow, Nat.reduceMul, Nat.reduceSub]; omega
  · rw [if_neg (by decide), shr_byte b _ 24 (by decide) (by omega)]; simp only [Nat.reducePow, Nat.reduceMul, Nat.reduceSub]; omega
  · rw [if_neg (by decide), shr_byte b _ 16 (by decide) (by omega)]; simp only [Nat.reducePow, Nat.reduceMul, Nat.reduceSub]; omega
  · rw [if_neg (by decide), shr_byte b _ 8 (by decide) (by omega)]; simp only [Nat.reducePow, Nat.reduceMul, Nat.reduceSub]; omega
  · rw [if_neg (by decide), shr_byte b _ 0 (by decide) (by omega)]; simp only [Nat.reducePow, Nat.reduceMul, Nat.reduceSub]; omega
theorem pack_steps (a b : Int32) : ∀ n, n ≤ 8 → packN (stepsOf n a b) = u64 a b / 2 ^ (64 - 8 * n)
  | 0, _ => by have := u64_lt a b; rw [Nat.div_eq_of_lt this]; rfl
  | n + 1, hn => by
    have e : stepsOf (n + 1) a b = stepsOf n a b ++ [byteOf a b n] := by simp [stepsOf, List.range_succ]
    rw [e, pack_app, pack_steps a b n (by omega), byte_u64 a b n (by omega)]
    have h3 : u64 a b / 2 ^ (64 - 8 * n) = u64 a b / 2 ^ (56 - 8 * n) / 256 := by
      rw [Nat.div_div_eq_div_mul, show 2 ^ (64 - 8 * n) = 2 ^ (56 - 8 * n) * 256 by rw [show 64 - 8 * n = (56 - 8 * n) + 8 by omega, Nat.pow_add]]
    rw [h3, show 64 - 8 * (n + 1) = 56 - 8 * n by omega]
    omega
theorem steps_ok (n : Nat) (a b : Int32) : ∀ q ∈ stepsOf n a b, q < 256 := by
  intro q hq
  obtain ⟨i, -, rfl⟩ := List.mem_map.mp hq
  exact Nat.mod_lt _ (by decide)
theorem all_u64 (a b : Int32) : (a.toInt64 <<< ((32 : Int32).toInt64 &&& 63)) ||| (b.toInt64 &&& 4294967295) = lN (u64 a b) := by
  have h1 := a.toBitVec.isLt; have h2 := b.toBitVec.isLt
  obtain ⟨x, hx, ex⟩ := wb_of a.toInt64
  have e1 : a.toInt64 <<< ((32 : Int32).toInt64 &&& 63) = lN (a.toBitVec.toNat * 4294967296) := by
    rw [ex]
    have := wb_shl x (k := 32) (by decide)
    rw [show ((32 : Int32).toInt64 &&& 63) = ((nI 32).toInt64 &&& 63) from rfl, this, wb_mod, wb_mod (a.toBitVec.toNat * 4294967296)]
    refine congrArg lN ?_
    have hx2 : x % 4294967296 = a.toBitVec.toNat := by
      have e2 : (a.toInt64).toBitVec.toNat = x := by rw [ex, wb_tn hx]
      rw [← e2, Int32.toBitVec_toInt64]
      simp [BitVec.toNat_signExtend]
      split <;> omega
    omega
  have e2 : b.toInt64 &&& 4294967295 = lN b.toBitVec.toNat := by
    obtain ⟨y, hy, ey⟩ := wb_of b.toInt64
    have hm := wb_mask (n := y) (k := 32) hy (by decide)
    rw [ey, show (4294967295 : Int64) = lN (2 ^ 32 - 1) from rfl, hm]
    refine congrArg lN ?_
    have e2 : (b.toInt64).toBitVec.toNat = y := by rw [ey, wb_tn hy]
    rw [← e2, Int32.toBitVec_toInt64]
    simp [BitVec.toNat_signExtend]
    split <;> omega
  rw [e1, e2, g_or (k := 32) (p := 4294967296) (by decide) (by omega) (by omega)]
  rfl

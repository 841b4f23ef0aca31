/-! PURE: every call keeps what can be -/
def Good (τ : TB) : Prop := TOK τ ∧ INV τ
theorem good0 : Good τ0 := by
  refine ⟨⟨fun k _ => ⟨Nat.zero_le _, fun q h => by cases h⟩, fun i _ => ⟨(by decide : 1 ≤ 2), (by decide : 2 ≤ 6)⟩, by decide, fun r h => absurd h (by simp [tN, τ0, tRuns]), by decide, fun r h => by cases h⟩, fun r h => absurd h (by simp [tN, τ0, tRuns])⟩
theorem Good.dat {τ : TB} (h : Good τ) (i v : Int32) : Good (datT τ i v) := by
  rw [datT]
  split
  · exact h
  · exact h
theorem Good.bnd {τ : TB} (h : Good τ) (i v : Int32) : Good (bndT τ i v) := by
  rw [bndT]
  split
  · rename_i c
    rw [Bool.and_eq_true] at c
    obtain ⟨v1, hv0, hv1, rfl⟩ := inR1_nI (hi := 6) c.2
    refine ⟨⟨h.1.1, fun j hj => ?_, h.1.2.2⟩, h.2⟩
    show 1 ≤ (if j = i.toNatClampNeg then (nI v1).toNatClampNeg else tBnd τ j) ∧ (if j = i.toNatClampNeg then (nI v1).toNatClampNeg else tBnd τ j) ≤ 6
    rw [nI_clamp (by omega)]
    split
    · exact ⟨hv0, hv1⟩
    · exact h.1.2.1 j hj
  · exact h
theorem steps_lt {n : Nat} {a b : Int32} : ∀ q ∈ stepsOf n a b, q < 256 := by
  intro q hq
  obtain ⟨i, -, rfl⟩ := List.mem_map.mp hq
  exact Nat.mod_lt _ (by decide)
theorem Good.cod {τ : TB} (h : Good τ) (k n a b : Int32) : Good (codT τ k n a b) := by
  rw [codT]
  split
  · rename_i c
    rw [Bool.and_eq_true] at c
    obtain ⟨n1, hn, rfl⟩ := inR_nI (hi := 8) c.2
    refine ⟨⟨fun j hj => ?_, h.1.2⟩, h.2⟩
    show (if j = k.toNatClampNeg then stepsOf (nI n1).toNatClampNeg a b else tCode τ j).length ≤ 8 ∧ ∀ q ∈ (if j = k.toNatClampNeg then stepsOf (nI n1).toNatClampNeg a b else tCode τ j), q < 256
    rw [nI_clamp (by omega)]
    split
    · exact ⟨by rw [steps_len]; omega, steps_lt⟩
    · exact h.1.1 j hj
  · exact h
theorem Good.clm {τ : TB} (h : Good τ) (r : Int32) : Good (clmT τ r) := by
  rw [clmT]
  split
  · rename_i c
    rw [canClm, Bool.and_eq_true, Bool.and_eq_true, decide_eq_true_eq] at c
    have h40 := h.1.2.2.1
    obtain ⟨j, hj, rfl⟩ := isRun_nI c.1.1 h40
    have hc := c.1.2
    rw [nI_clamp (by omega)] at hc ⊢
    have h20 := h.1.2.2.2.2.1
    refine ⟨⟨h.1.1, h.1.2.1, h.1.2.2.1, h.1.2.2.2.1, ?_, fun q hq => ?_⟩, h.2⟩
    · show (tClm τ ++ [j]).length ≤ 20
      rw [List.length_append, List.length_singleton]; omega
    · have hq : q ∈ tClm τ ++ [j] := hq
      rcases List.mem_append.mp hq with h1 | h1
      · exact h.1.2.2.2.2.2 q h1
      · rw [List.mem_singleton] at h1
        subst h1
        have hc : rBr (tRun τ q) = false := by simpa using hc
        exact ⟨hj, hc⟩
  · exact h
theorem Good.again {τ : TB} (h : Good τ) (r : Int32) : Good (againT τ r) := by
  rw [againT]
  split
  · exact h
  · exact h
theorem Good.run {τ : TB} (h : Good τ) (k all own t : Int32) : Good (runT τ k all own t) := by
  rw [runT]
  split
  · rename_i c
    rw [canRunN, Bool.and_eq_true, decide_eq_true_eq] at c
    have h40 := h.1.2.2.1
    exact ⟨h.1.push (by omega) (new_ok h.1 c.1), h.2.push born_new (low_mk (by decide))⟩
  · exact h
theorem Good.fork {τ : TB} (h : Good τ) (r t all own : Int32) : Good (forkT τ r t all own) := by
  rw [forkT]
  split
  · rename_i c
    simp only [canFork, Bool.and_eq_true, decide_eq_true_eq] at c
    obtain ⟨⟨⟨⟨⟨c1, c2⟩, c3⟩, c4⟩, c5⟩, c6⟩ := c
    have h40 := h.1.2.2.1
    obtain ⟨j, hj, rfl⟩ := isRun_nI c1 h40
    rw [nI_clamp (by omega)] at c2 c3 ⊢
    have hO := h.1.2.2.2.1 j hj
    have h16 := Nat.le_trans hO.2.2.2.2.2.2.2.1 hO.2.2.2.2.2.2.1
    obtain ⟨t1, ht, rfl⟩ := inR_nI (hi := (rRow (tRun τ j)).length) c3
    rw [nI_clamp (by omega)]
    exact ⟨h.1.push (by omega) (fork_ok h.1 hj (by simpa using c2) ht c4 c5), h.2.push (born_fk h.1 hj) (low_mk (h.2 j hj).2)⟩
  · exact h

/-! rows on again; rows that make arrays, and write them, in a world's list -/
theorem fe_no {p : Nat → Bool} {n t z : Nat} (h : z = fstE p (n - t) t) (ht : t < n) (hp : p t = false) : z = fstE p (n - (t + 1)) (t + 1) := by
  rw [h, show n - t = (n - (t + 1)) + 1 by omega]; simp only [fstE, hp, Bool.false_eq_true, if_false]
theorem fe_yes {p : Nat → Bool} {n t z : Nat} (h : z = fstE p (n - t) t) (ht : t < n) (hp : p t = true) : z = t := by
  rw [h, show n - t = (n - (t + 1)) + 1 by omega]; simp only [fstE, hp, if_true]
theorem fe_end {p : Nat → Bool} {n t z : Nat} (h : z = fstE p (n - t) t) (ht : n ≤ t) : z = t := by
  rw [h, show n - t = 0 by omega]; rfl
theorem dif_l {a b : List Int32} {t : Nat} (h1 : t < a.length) (h2 : b.length ≤ t) : difB a b t = true := by
  simp [difB, h1, Nat.not_lt.mpr h2]
theorem dif_r {a b : List Int32} {t : Nat} (h1 : a.length ≤ t) (h2 : t < b.length) : difB a b t = true := by
  simp [difB, h2, Nat.not_lt.mpr h1]
theorem dif_v {a b : List Int32} {t : Nat} (h1 : t < a.length) (h2 : t < b.length) (h3 : ¬ a.getD t 0 = b.getD t 0) : difB a b t = true := by
  unfold difB; rw [decide_eq_true h1, decide_eq_true h3]; simp
theorem dif_e {a b : List Int32} {t : Nat} (h1 : t < a.length) (h2 : t < b.length) (h3 : a.getD t 0 = b.getD t 0) : difB a b t = false := by
  unfold difB; rw [decide_eq_true h1, decide_eq_true h2, h3]; simp
theorem dif_0 {a b : List Int32} {t : Nat} (h1 : a.length ≤ t) (h2 : b.length ≤ t) : difB a b t = false := by
  simp [difB, Nat.not_lt.mpr h1, Nat.not_lt.mpr h2]
theorem at_nI {ρ : RunT} (h : RunOK ρ) (c : ¬ rAt ρ = (-1)) : ∃ a : Nat, a ≤ (rRow ρ).length ∧ rAt ρ = nI a := by
  rcases h.2.2.2.2.2.2.2.2.2 with h1 | h1
  · exact absurd h1.2 c
  · exact h1.2
theorem MdR.clk1 {φ ψ : Nat → Int32} {α β : Nat → Nat → Int32} {τ : TB} (h : MdR φ α τ) (hT : TOK τ) (e5 : ψ 5 = tClk τ + 1) (e6 : ψ 6 = φ 6) (e35 : ψ 35 = φ 35) (hg : ∀ k, k ≠ 23 → β k = α k) : MdR ψ β (tCode τ, tDat τ, tBnd τ, tClk τ + 1, tRuns τ, tClm τ) := by
  have hO : Off (tN τ) α β := Off.of23 hg
  refine ⟨e5, e6.trans h.n, e35.trans h.nc, fun k hk => ?_, fun k hk j hj => ?_, fun i hi => ?_, fun i hi => ?_, fun r hr => ?_, fun j hj => ?_, fun r g1 g2 => ?_⟩
  · rw [hg 1 (by decide)]; exact h.cl hk
  · rw [hg 2 (by decide)]; exact h.cs hk hj
  · rw [hg 3 (by decide)]; exact h.dat hi
  · rw [hg 4 (by decide)]; exact h.bnd hi
  · have z := hT.2.2.2.1 r hr
    exact (h.run (r := r) hr).off hO (Nat.ne_of_lt hr) z.2.1 (Nat.le_trans z.2.2.2.2.2.2.2.1 z.2.2.2.2.2.2.1)
  · rw [hg 36 (by decide)]; exact h.clm hj
  · rw [hg 18 (by decide), hg 19 (by decide), hg 21 (by decide), hg 22 (by decide)]; exact h.fresh g1 g2
section LY3
variable {p : Program} {l : Launch} {e : Env} {R : Room} {s : State} {m : MethodId} {args : Array Value} {below : List Frame} {meth : Method} {c : Code} {H : Heap} {locs : List Loc} {cells slots : Nat} {Q : State → Prop}
variable {cc : ByteArray} {nL pc : Nat} {ls : Array Slot} {rest : List Value} {g : GG} {own : String} {A : Nat → Prop} {H0 : Heap} {ws : va_W}
theorem n_iast (C : Cx p m c cc nL s args own g) (hP : va_P g.1 vwCl ws H) (hD : va_D A ws) (hS : va_S A H0 H locs) (q0 : Nat) {a n j : Nat} {f : Nat → Int32} {x : Int32} (ha : ws[q0]? = some (a, aI g n f)) (hj : j < n) (hn : n < 2 ^ 31) (hdg : decode cc pc = .ok (.iastore, 1))
    (kk : ∀ (H1 : Heap) (locs1 : List Loc), va_P g.1 vwCl (ws.set q0 (a, aI g n (upd f j x))) H1 → va_D A (ws.set q0 (a, aI g n (upd f j x))) → va_S A H0 H1 locs1 → W p l e R s m args below meth c H1 locs1 cells slots Q (F0 m (pc + 1) ls rest)) : W p l e R s m args below meth c H locs cells slots Q (F0 m pc ls (.int x :: .int (nI j) :: .ref a :: rest)) := by
  refine va_iast C.1.1 C.1.2.1 C.2.1 hP hD hS q0 0 ha rfl (vp_in_nI hj hn) hdg (fun H1 locs1 h1 h2 h3 => ?_)
  rw [nI_clamp (Nat.lt_trans hj hn)] at h1 h2
  exact kk H1 locs1 h1 h2 h3
theorem n_newI (C : Cx p m c cc nL s args own g) (hP : va_P g.1 vwCl ws H) (hD : va_D A ws) (hS : va_S A H0 H locs) (hA : ∀ q, H0.size ≤ q → A q) {n : Nat} (hn : n ≤ 1000) (hcells : cells + 1 ≤ R.cells) (hslots : slots + n ≤ R.slots) (hdg : decode cc pc = .ok (.newarray .int, 2))
    (kk : ∀ (q : Nat) (H1 : Heap), H0.size ≤ q → va_P g.1 vwCl (ws ++ [(q, aI g n (fun _ => 0))]) H1 → va_D A (ws ++ [(q, aI g n (fun _ => 0))]) → va_S A H0 H1 locs → W p l e R s m args below meth c H1 locs (cells + 1) (slots + n) Q (F0 m (pc + 2) ls (.ref q :: rest))) : W p l e R s m args below meth c H locs cells slots Q (F0 m pc ls (.int (nI n) :: rest)) := by
  refine va_newaK C.1.1 C.1.2.1 (atype := .int) (C.1.2.2.2.2 (.arrayClass .int) (inr_1 _ (List.mem_of_getElem? (i := 14) rfl))) rfl hdg rfl (nI_pos (by omega)) (nI_clamp (by omega)) (by show n * 4 ≤ 536870912; omega) hcells hslots rfl (fun H1 cA e1 z1 o1 hAr hNm => ?_)
  have hcA : cA = g.2.1 := by
    have h2 := (C.2.1.2 0 _ rfl).2
    exact Option.some.inj (hNm.symm.trans h2)
  subst hcA
  have hk : ∀ (k : Nat) (x : Nat × va_E), ws[k]? = some x → H1[x.1]? = H[x.1]? := fun k x hx => o1 x.1 ((hP k x hx).lt)
  refine kk H.size H1 hS.1 ((hP.kept hk).app (fun k x hx => ?_)) (hD.push hP rfl (hA _ hS.1)) ⟨Nat.le_trans hS.1 (by omega), fun x h1 h2 => (o1 x (Nat.lt_of_lt_of_le h1 hS.1)).trans (hS.2.1 x h1 h2), hS.2.2⟩
  have hz : k < 1 := (List.getElem?_eq_some_iff.mp hx).1
  rw [show k = 0 by omega] at hx
  cases hx
  exact e1
theorem n_newZ (C : Cx p m c cc nL s args own g) (hP : va_P g.1 vwCl ws H) (hD : va_D A ws) (hS : va_S A H0 H locs) (hA : ∀ q, H0.size ≤ q → A q) {n : Nat} (hn : n ≤ 1000) (hcells : cells + 1 ≤ R.cells) (hslots : slots + n ≤ R.slots) (hdg : decode cc pc = .ok (.newarray .boolean, 2))
    (kk : ∀ (q : Nat) (H1 : Heap), H0.size ≤ q → va_P g.1 vwCl (ws ++ [(q, aZ g n (fun _ => 0))]) H1 → va_D A (ws ++ [(q, aZ g n (fun _ => 0))]) → va_S A H0 H1 locs → W p l e R s m args below meth c H1 locs (cells + 1) (slots + n) Q (F0 m (pc + 2) ls (.ref q :: rest))) : W p l e R s m args below meth c H locs cells slots Q (F0 m pc ls (.int (nI n) :: rest)) := by
  refine va_newaK C.1.1 C.1.2.1 (atype := .boolean) (C.1.2.2.2.2 (.arrayClass .boolean) (inr_3 _ (List.mem_of_getElem? (i := 6) rfl))) rfl hdg rfl (nI_pos (by omega)) (nI_clamp (by omega)) (by show n * 1 ≤ 536870912; omega) hcells hslots rfl (fun H1 cA e1 z1 o1 hAr hNm => ?_)
  have hcA : cA = g.2.2.1 := by
    have h2 := (C.2.1.2 1 _ rfl).2
    exact Option.some.inj (hNm.symm.trans h2)
  subst hcA
  have hk : ∀ (k : Nat) (x : Nat × va_E), ws[k]? = some x → H1[x.1]? = H[x.1]? := fun k x hx => o1 x.1 ((hP k x hx).lt)
  refine kk H.size H1 hS.1 ((hP.kept hk).app (fun k x hx => ?_)) (hD.push hP rfl (hA _ hS.1)) ⟨Nat.le_trans hS.1 (by omega), fun x h1 h2 => (o1 x (Nat.lt_of_lt_of_le h1 hS.1)).trans (hS.2.1 x h1 h2), hS.2.2⟩
  have hz : k < 1 := (List.getElem?_eq_some_iff.mp hx).1
  rw [show k = 0 by omega] at hx
  cases hx
  exact e1
end LY3
section LY4
variable {p : Program} {l : Launch} {e : Env} {R : Room} {s : State} {m : MethodId} {args : Array Value} {below : List Frame} {meth : Method} {c : Code} {H : Heap} {locs : List Loc} {cells slots : Nat} {Q : State → Prop}
variable {cc : ByteArray} {nL pc : Nat} {ls : Array Slot} {rest : List Value} {g : GG} {own : String} {A : Nat → Prop} {H0 : Heap} {ws : va_W}
theorem n_new (C : Cx p m c cc nL s args own g) {C1 : String} {T : u_T} {N ci idx : Nat} (h1 : Cond.classLink own idx C1 ∈ wsL_law) (h2 : Cond.instantiable C1 N ∈ wsL_law) (h3 : Cond.initialized C1 ∈ wsL_law) (hin : ∀ w ∈ u_ws C1 T N, w ∈ wsL_law) (ty : Nat → FieldType) (hty : ∀ k, k < N → parseFieldDescriptor (T k).2.2.1 = some (ty k)) (hc : vwCl[ci]? = some (C1, T, N))
    (hP : va_P g.1 vwCl ws H) (hD : va_D A ws) (hS : va_S A H0 H locs) (hA : ∀ q, H0.size ≤ q → A q) {fs : List Value} (hfs : ∀ j, j < N → defaultValue (ty j) = vp_V fs j) (hcells : cells + 1 ≤ R.cells) (hslots : slots + N ≤ R.slots) (hdg : decode cc pc = .ok (.new idx, 3))
    (kk : ∀ (q : Nat) (H1 : Heap), H0.size ≤ q → va_P g.1 vwCl (ws ++ [(q, .inr (ci, fs))]) H1 → va_D A (ws ++ [(q, .inr (ci, fs))]) → va_S A H0 H1 locs → W p l e R s m args below meth c H1 locs (cells + 1) (slots + N) Q (F0 m (pc + 3) ls (.ref q :: rest))) : W p l e R s m args below meth c H locs cells slots Q (F0 m pc ls rest) := by
  have hKn := C.2.1.1 ci _ hc
  refine W.newcK C.1.1 C.1.2.1 C.1.2.2.2.1 (C.1.2.2.2.2 _ h1) (C.1.2.2.2.2 _ h2) (C.1.2.2.2.2 _ h3) rfl hdg hcells hslots hKn.2.1 rfl fun H1 kC hkC e1 z1 o1 => ?_
  have hk : ∀ (k : Nat) (x : Nat × va_E), ws[k]? = some x → H1[x.1]? = H[x.1]? := fun k x hx => o1 x.1 ((hP k x hx).lt)
  refine kk H.size H1 hS.1 ((hP.kept hk).app (fun k x hx => ?_)) (hD.push hP rfl (hA _ hS.1)) ⟨Nat.le_trans hS.1 (by omega), fun x h1 h2 => (o1 x (Nat.lt_of_lt_of_le h1 hS.1)).trans (hS.2.1 x h1 h2), hS.2.2⟩
  have hz : k < 1 := (List.getElem?_eq_some_iff.mp hx).1
  rw [show k = 0 by omega] at hx
  cases hx
  exact ⟨_, hc, (u_born ty C.1.2.2.2.2 hin hKn hkC e1 hty).to hfs⟩
theorem n_qast (C : Cx p m c cc nL s args own g) (hP : va_P g.1 vwCl ws H) (hD : va_D A ws) (hS : va_S A H0 H locs) (q0 t0 qk : Nat) {a n j v ci : Nat} {cA : ClassId} {r : vw_C} {vs : List Value} {f : Nat → Option Nat} (ha : ws[q0]? = some (a, .inl (cA, n, .inr (.inr (.inr (.inr f)))))) (ht : (tyG g)[t0]? = some (cA, .object r.1)) (hv : ws[qk]? = some (v, .inr (ci, vs))) (hc : vwCl[ci]? = some r) (hj : j < n) (hn : n < 2 ^ 31) (hdg : decode cc pc = .ok (.aastore, 1))
    (kk : ∀ (H1 : Heap) (locs1 : List Loc), va_P g.1 vwCl (ws.set q0 (a, .inl (cA, n, .inr (.inr (.inr (.inr (va_up f j (some v)))))))) H1 → va_D A (ws.set q0 (a, .inl (cA, n, .inr (.inr (.inr (.inr (va_up f j (some v)))))))) → va_S A H0 H1 locs1 → W p l e R s m args below meth c H1 locs1 cells slots Q (F0 m (pc + 1) ls rest)) : W p l e R s m args below meth c H locs cells slots Q (F0 m pc ls (.ref v :: .int (nI j) :: .ref a :: rest)) := by
  refine va_astq C.1.1 C.1.2.1 C.2.1 hP hD hS q0 t0 qk ci ha ht hv hc (vp_in_nI hj hn) hdg (fun H1 locs1 h1 h2 h3 => ?_)
  rw [nI_clamp (Nat.lt_trans hj hn)] at h1 h2
  exact kk H1 locs1 h1 h2 h3
end LY4

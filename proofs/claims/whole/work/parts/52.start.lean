/-! AT THE LAW'S START: what is known of the tables; what stays over a call -/
def cl6 (a0 a1 a2 a3 a4 a5 : ClassId) : Nat → ClassId
  | 0 => a0 | 1 => a1 | 2 => a2 | 3 => a3 | 4 => a4 | _ => a5
def is6 (a0 a1 a2 a3 a4 a5 : Nat → Nat) : Nat → Nat → Nat
  | 0 => a0 | 1 => a1 | 2 => a2 | 3 => a3 | 4 => a4 | _ => a5
theorem kk_start {s : State} {A : Array Value} (hts : ∀ w ∈ lw_tbl, w.before A s = true) : ∃ g : GG, KK g s := by
  obtain ⟨k0, i0, n0⟩ := u_known (C := RX0) (T := TX0) (N := 2) (n := 2) hts in_wsX00 (hts _ (tb_1 _ (List.mem_of_getElem? (i := 36) rfl)))
  obtain ⟨k1, i1, n1⟩ := u_known (C := RX1) (T := TX1) (N := 5) (n := 5) hts in_wsX10 (hts _ (tb_1 _ (List.mem_of_getElem? (i := 127) rfl)))
  obtain ⟨k2, i2, n2⟩ := u_known (C := RX2) (T := TX2) (N := 12) (n := 12) hts in_wsX20 (hts _ (tb_1 _ (List.mem_of_getElem? (i := 121) rfl)))
  obtain ⟨k3, i3, n3⟩ := u_known (C := RX3) (T := TX3) (N := 2) (n := 2) hts in_wsX30 (hts _ (tb_1 _ (List.mem_of_getElem? (i := 20) rfl)))
  obtain ⟨k4, i4, n4⟩ := u_known (C := RX4) (T := TX4) (N := 10) (n := 10) hts in_wsX40 (hts _ (tb_1 _ (List.mem_of_getElem? (i := 10) rfl)))
  obtain ⟨k5, i5, n5⟩ := u_known (C := RX5) (T := TX5) (N := 37) (n := 37) hts in_wsX50 (hts _ (tb_2 _ (List.mem_of_getElem? (i := 234) rfl)))
  obtain ⟨cI, kI, pI, e1, e2, e3⟩ := Cond.arrayClass_spec (hts _ (tb_1 _ (List.mem_of_getElem? (i := 33) rfl)))
  obtain ⟨cZ, kZ, pZ, z1, z2, z3⟩ := Cond.arrayClass_spec (hts _ (tb_3 _ (List.mem_of_getElem? (i := 111) rfl)))
  have hC := hts _ (tb_1 _ (List.mem_of_getElem? (i := 18) rfl))
  have hR := hts _ (tb_1 _ (List.mem_of_getElem? (i := 35) rfl))
  obtain ⟨pC, cC, kC, c1, c2, c3, c4, c5⟩ := Cond.arrayOver_spec hC
  obtain ⟨pR, cR, kR, r1, r2, r3, r4, r5⟩ := Cond.arrayOver_spec hR
  refine ⟨((cl6 k0 k1 k2 k3 k4 k5, is6 i0 i1 i2 i3 i4 i5), cI, cZ, cC, cR), ⟨fun c q hq => ?_, fun k q hk => ?_⟩, ?_, va_AO.of hC, va_AO.of hR⟩
  · match c, hq with
    | 0, hq => cases hq; exact n0
    | 1, hq => cases hq; exact n1
    | 2, hq => cases hq; exact n2
    | 3, hq => cases hq; exact n3
    | 4, hq => cases hq; exact n4
    | 5, hq => cases hq; exact n5
  · match k, hk with
    | 0, hk => cases hk; exact ⟨fun n z => ⟨(fun k h => by cases h), kI, e2, pI, e3⟩, e1⟩
    | 1, hk => cases hk; exact ⟨fun n z => ⟨(fun k h => by cases h), kZ, z2, pZ, z3⟩, z1⟩
    | 2, hk => cases hk; exact ⟨fun n z => ⟨(fun k h => by cases h), kC, c3, pC, c4⟩, kC, pC, c3, c4, c1, c5⟩
    | 3, hk => cases hk; exact ⟨fun n z => ⟨(fun k h => by cases h), kR, r3, pR, r4⟩, kR, pR, r3, r4, r1, r5⟩
  · exact List.forall_mem_cons.mpr ⟨va_Nw.of rfl (hts _ (tb_1 _ (List.mem_of_getElem? (i := 21) rfl))), List.forall_mem_cons.mpr ⟨va_Nw.of rfl (hts _ (tb_1 _ (List.mem_of_getElem? (i := 128) rfl))), List.forall_mem_cons.mpr ⟨va_Nw.of rfl (hts _ (tb_1 _ (List.mem_of_getElem? (i := 231) rfl))), List.forall_mem_cons.mpr ⟨va_Nw.of rfl (hts _ (tb_1 _ (List.mem_of_getElem? (i := 232) rfl))), List.forall_mem_cons.mpr ⟨va_Nw.of rfl (hts _ (tb_2 _ (List.mem_of_getElem? (i := 47) rfl))), List.forall_mem_cons.mpr ⟨va_Nw.of rfl (hts _ (tb_2 _ (List.mem_of_getElem? (i := 117) rfl))), fun _ h => absurd h List.not_mem_nil⟩⟩⟩⟩⟩⟩
theorem wA_of {g : GG} {h : Nat} {ad : Nat → Nat} {φ : Nat → Int32} {α : Nat → Nat → Int32} {k : Nat} {x : Nat × va_E} (hx : (wM g h ad φ α)[k]? = some x) : wA g h ad x.1 := by
  have h1 : ((wM g h ad φ α).map Prod.fst)[k]? = some x.1 := by rw [List.getElem?_map, hx]; rfl
  rw [show (wM g h ad φ α).map Prod.fst = (wM g h ad (fun _ => 0) (fun _ _ => 0)).map Prod.fst from rfl, List.getElem?_map] at h1
  cases hq : (wM g h ad (fun _ => 0) (fun _ _ => 0))[k]? with
  | none => rw [hq] at h1; cases h1
  | some q0 =>
    rw [hq] at h1
    exact ⟨k, q0.2, by rw [hq, ← Option.some.inj h1]⟩
theorem wA_at {g : GG} {h : Nat} {ad : Nat → Nat} {φ : Nat → Int32} {α : Nat → Nat → Int32} {q : Nat} (hq : wA g h ad q) : ∃ (k : Nat) (x : Nat × va_E), (wM g h ad φ α)[k]? = some x ∧ x.1 = q := by
  obtain ⟨k, e, hk⟩ := hq
  have h1 : ((wM g h ad (fun _ => 0) (fun _ _ => 0)).map Prod.fst)[k]? = some q := by rw [List.getElem?_map, hk]; rfl
  rw [show (wM g h ad (fun _ => 0) (fun _ _ => 0)).map Prod.fst = (wM g h ad φ α).map Prod.fst from rfl, List.getElem?_map] at h1
  cases hx : (wM g h ad φ α)[k]? with
  | none => rw [hx] at h1; cases h1
  | some x => rw [hx] at h1; exact ⟨k, x, hx, Option.some.inj h1⟩
theorem MdH.keep {g : GG} {h : Nat} {ad : Nat → Nat} {τ : TB} {A : Nat → Prop} {H H1 : Heap} (hM : MdH g h ad τ H) (hk : ∀ q : Nat, q < H.size → ¬ A q → H1[q]? = H[q]?) (hA : ∀ q, wA g h ad q → ¬ A q) : MdH g h ad τ H1 := by
  obtain ⟨φ, α, h1, h2⟩ := hM
  exact ⟨φ, α, fr_P h1 hk (fun k x hx => hA _ (wA_of hx)), h2⟩
theorem MdH.lt {g : GG} {h : Nat} {ad : Nat → Nat} {τ : TB} {H : Heap} (hM : MdH g h ad τ H) : ∀ q, wA g h ad q → q < H.size := by
  obtain ⟨φ, α, h1, h2⟩ := hM
  intro q hq
  obtain ⟨k, x, hx, rfl⟩ := wA_at (φ := φ) (α := α) hq
  exact (h1 k x hx).lt
theorem Bk.keep {g : GG} {b : Nat → Nat} {Z A : Nat → Prop} {τ : TB} {H H1 : Heap} (hB : Bk g b Z τ H) (hz : H.size ≤ H1.size) (hk : ∀ q : Nat, q < H.size → ¬ A q → H1[q]? = H[q]?) (hb : ∀ q, q < H.size → bA b q → ¬ A q) (hA : ∀ q, q < H.size → A q → Z q) : Bk g b Z τ H1 := by
  obtain ⟨cad, rad, ⟨nf, fc, fb, d, fr, f1, f2, ff, h1, h2⟩, h3⟩ := hB
  have hS : va_S A H H1 [] := ⟨hz, hk, fun _ h => by cases h⟩
  exact ⟨cad, rad, ⟨nf, fc, fb, d, fr, f1, f2, ff, h1, h2.kept (fun k x hx => hk x.1 ((h2 k x hx).lt) (hb _ ((h2 k x hx).lt) ⟨k, base_ad k x hx⟩))⟩, h3.keep hS hA⟩
theorem base_has {g : GG} {b : Nat → Nat} {ws : va_W} {H : Heap} (hP : va_P g.1 vwCl ws H) (h9 : ∀ i, i < 9 → ∃ x : Nat × va_E, ws[i]? = some x ∧ x.1 = b i) : ∀ q, bA b q → q < H.size := by
  rintro q ⟨i, hi, rfl⟩
  obtain ⟨x, h1, h2⟩ := h9 i hi
  rw [← h2]
  exact (hP i x h1).lt
theorem Bk.lt {g : GG} {b : Nat → Nat} {Z : Nat → Prop} {τ : TB} {H : Heap} (hB : Bk g b Z τ H) : ∀ q, bA b q → q < H.size := by
  obtain ⟨cad, rad, ⟨nf, fc, fb, d, fr, f1, f2, ff, h1, h2⟩, h3⟩ := hB
  exact base_has h2 (all9 ⟨_, rfl, rfl⟩ ⟨_, rfl, rfl⟩ ⟨_, rfl, rfl⟩ ⟨_, rfl, rfl⟩ ⟨_, rfl, rfl⟩ ⟨_, rfl, rfl⟩ ⟨_, rfl, rfl⟩ ⟨_, rfl, rfl⟩ ⟨_, rfl, rfl⟩)
theorem Bk.up {g : GG} {b : Nat → Nat} {Z : Nat → Prop} {τ : TB} {H : Heap} (hB : Bk g b Z τ H) : Bk g b (fZ Z H.size) τ H := by
  obtain ⟨cad, rad, h1, h3⟩ := hB
  exact ⟨cad, rad, h1, h3.up⟩
theorem Bk.down {g : GG} {b : Nat → Nat} {Y Z : Nat → Prop} {τ : TB} {H : Heap} (hY : ∀ q, Y q → Z q) (hB : Bk g b Z τ H) : Bk g b Y τ H := by
  obtain ⟨cad, rad, h1, h3⟩ := hB
  exact ⟨cad, rad, h1, h3.down hY⟩
def ZZ (g : GG) (b : Nat → Nat) (h : Nat) (ad : Nat → Nat) : Nat → Prop := fun q => bA b q ∨ wA g h ad q
section LYA
variable {p : Program} {s : State} {m : MethodId} {args : Array Value} {c : Code} {H : Heap} {cc : ByteArray} {nL : Nat} {g : GG} {own : String}
theorem bk_recv (C : Cx p m c cc nL s args own g) {b : Nat → Nat} {Z : Nat → Prop} {τ : TB} (hB : Bk g b Z τ H) : ∃ cell : Cell, H[b 0]? = some cell ∧ cell.vm.isStatics = false ∧ s.vm.findClass "TrialBook" = some cell.cls := by
  obtain ⟨cad, rad, ⟨nf, fc, fb, d, fr, f1, f2, ff, h1, h2⟩, h3⟩ := hB
  exact q_recv C h2 0 rfl rfl
theorem md_recv (C : Cx p m c cc nL s args own g) {h : Nat} {ad : Nat → Nat} {τ : TB} (hM : MdH g h ad τ H) : ∃ cell : Cell, H[h]? = some cell ∧ cell.vm.isStatics = false ∧ s.vm.findClass "TrialBookModel" = some cell.cls := by
  obtain ⟨φ, α, h1, h2⟩ := hM
  exact q_recv C h1 0 rfl rfl
end LYA

/-! THE REFERENCE'S WORLD: its object, fields φ, arrays α at the addresses ad -/
def rObj (ad : Nat → Nat) (φ : Nat → Int32) : List Value := [.int (φ 0), .ref (ad 1), .ref (ad 2), .ref (ad 3), .ref (ad 4), .int (φ 5), .int (φ 6), .ref (ad 7), .ref (ad 8), .ref (ad 9), .ref (ad 10), .ref (ad 11), .ref (ad 12), .ref (ad 13), .ref (ad 14), .ref (ad 15), .ref (ad 16), .ref (ad 17), .ref (ad 18), .ref (ad 19), .ref (ad 20), .ref (ad 21), .ref (ad 22), .ref (ad 23), .int (φ 24), .int (φ 25), .int (φ 26), .int (φ 27), .int (φ 28), .int (φ 29), .int (φ 30), .int (φ 31), .int (φ 32), .int (φ 33), .int (φ 34), .int (φ 35), .ref (ad 36)]
def wM (g : GG) (h : Nat) (ad : Nat → Nat) (φ : Nat → Int32) (α : Nat → Nat → Int32) : va_W := [(h, .inr (5, rObj ad φ)), (ad 1, aI g 4 (α 1)), (ad 2, aI g 32 (α 2)), (ad 3, aI g 8 (α 3)), (ad 4, aI g 4 (α 4)), (ad 7, aI g 40 (α 7)), (ad 8, aI g 40 (α 8)), (ad 9, aI g 320 (α 9)), (ad 10, aI g 40 (α 10)), (ad 11, aI g 40 (α 11)), (ad 12, aI g 40 (α 12)), (ad 13, aI g 40 (α 13)), (ad 14, aI g 640 (α 14)), (ad 15, aZ g 40 (α 15)), (ad 16, aI g 40 (α 16)), (ad 17, aI g 40 (α 17)), (ad 18, aI g 40 (α 18)), (ad 19, aI g 40 (α 19)), (ad 20, aI g 320 (α 20)), (ad 21, aZ g 40 (α 21)), (ad 22, aZ g 40 (α 22)), (ad 23, aI g 16 (α 23)), (ad 36, aI g 20 (α 36))]
def aset (α : Nat → Nat → Int32) (k j : Nat) (x : Int32) : Nat → Nat → Int32 := fun q => if q = k then upd (α k) j x else α q
theorem va_D_addr {A : Nat → Prop} {ws ws' : va_W} (e : ws.map Prod.fst = ws'.map Prod.fst) (h : va_D A ws) : va_D A ws' := by
  have key : ∀ (k : Nat) (q : Nat × va_E), ws'[k]? = some q → ∃ q0 : Nat × va_E, ws[k]? = some q0 ∧ q0.1 = q.1 := by
    intro k q hk
    have h1 : (ws'.map Prod.fst)[k]? = some q.1 := by rw [List.getElem?_map, hk]; rfl
    rw [← e, List.getElem?_map] at h1
    cases hq : ws[k]? with
    | none => rw [hq] at h1; cases h1
    | some q0 => rw [hq] at h1; exact ⟨q0, rfl, Option.some.inj h1⟩
  refine ⟨fun i j x y hi hj hxy => ?_, fun k q hk => ?_⟩
  · obtain ⟨x0, h1, h2⟩ := key i x hi
    obtain ⟨y0, h3, h4⟩ := key j y hj
    exact h.1 i j x0 y0 h1 h3 (h2.trans (hxy.trans h4.symm))
  · obtain ⟨q0, h1, h2⟩ := key k q hk
    rw [← h2]
    exact h.2 k q0 h1
def wD (A : Nat → Prop) (g : GG) (h : Nat) (ad : Nat → Nat) : Prop := va_D A (wM g h ad (fun _ => 0) (fun _ _ => 0))
theorem wD.of {A : Nat → Prop} {g : GG} {h : Nat} {ad : Nat → Nat} (φ : Nat → Int32) (α : Nat → Nat → Int32) (hD : wD A g h ad) : va_D A (wM g h ad φ α) := va_D_addr (ws := wM g h ad (fun _ => 0) (fun _ _ => 0)) rfl hD
theorem rw_0 {g : GG} {h : Nat} {ad : Nat → Nat} {φ : Nat → Int32} {α : Nat → Nat → Int32} : (wM g h ad φ α)[0]? = some (h, .inr (5, rObj ad φ)) := rfl
theorem rw_1 {g : GG} {h : Nat} {ad : Nat → Nat} {φ : Nat → Int32} {α : Nat → Nat → Int32} : (wM g h ad φ α)[1]? = some (ad 1, aI g 4 (α 1)) := rfl
theorem rw_2 {g : GG} {h : Nat} {ad : Nat → Nat} {φ : Nat → Int32} {α : Nat → Nat → Int32} : (wM g h ad φ α)[2]? = some (ad 2, aI g 32 (α 2)) := rfl
theorem rw_3 {g : GG} {h : Nat} {ad : Nat → Nat} {φ : Nat → Int32} {α : Nat → Nat → Int32} : (wM g h ad φ α)[3]? = some (ad 3, aI g 8 (α 3)) := rfl
theorem rw_4 {g : GG} {h : Nat} {ad : Nat → Nat} {φ : Nat → Int32} {α : Nat → Nat → Int32} : (wM g h ad φ α)[4]? = some (ad 4, aI g 4 (α 4)) := rfl
theorem rw_7 {g : GG} {h : Nat} {ad : Nat → Nat} {φ : Nat → Int32} {α : Nat → Nat → Int32} : (wM g h ad φ α)[5]? = some (ad 7, aI g 40 (α 7)) := rfl
theorem rw_8 {g : GG} {h : Nat} {ad : Nat → Nat} {φ : Nat → Int32} {α : Nat → Nat → Int32} : (wM g h ad φ α)[6]? = some (ad 8, aI g 40 (α 8)) := rfl
theorem rw_9 {g : GG} {h : Nat} {ad : Nat → Nat} {φ : Nat → Int32} {α : Nat → Nat → Int32} : (wM g h ad φ α)[7]? = some (ad 9, aI g 320 (α 9)) := rfl
theorem rw_10 {g : GG} {h : Nat} {ad : Nat → Nat} {φ : Nat → Int32} {α : Nat → Nat → Int32} : (wM g h ad φ α)[8]? = some (ad 10, aI g 40 (α 10)) := rfl
theorem rw_11 {g : GG} {h : Nat} {ad : Nat → Nat} {φ : Nat → Int32} {α : Nat → Nat → Int32} : (wM g h ad φ α)[9]? = some (ad 11, aI g 40 (α 11)) := rfl
theorem rw_12 {g : GG} {h : Nat} {ad : Nat → Nat} {φ : Nat → Int32} {α : Nat → Nat → Int32} : (wM g h ad φ α)[10]? = some (ad 12, aI g 40 (α 12)) := rfl
theorem rw_13 {g : GG} {h : Nat} {ad : Nat → Nat} {φ : Nat → Int32} {α : Nat → Nat → Int32} : (wM g h ad φ α)[11]? = some (ad 13, aI g 40 (α 13)) := rfl
theorem rw_14 {g : GG} {h : Nat} {ad : Nat → Nat} {φ : Nat → Int32} {α : Nat → Nat → Int32} : (wM g h ad φ α)[12]? = some (ad 14, aI g 640 (α 14)) := rfl
theorem rw_15 {g : GG} {h : Nat} {ad : Nat → Nat} {φ : Nat → Int32} {α : Nat → Nat → Int32} : (wM g h ad φ α)[13]? = some (ad 15, aZ g 40 (α 15)) := rfl
theorem rw_16 {g : GG} {h : Nat} {ad : Nat → Nat} {φ : Nat → Int32} {α : Nat → Nat → Int32} : (wM g h ad φ α)[14]? = some (ad 16, aI g 40 (α 16)) := rfl
theorem rw_17 {g : GG} {h : Nat} {ad : Nat → Nat} {φ : Nat → Int32} {α : Nat → Nat → Int32} : (wM g h ad φ α)[15]? = some (ad 17, aI g 40 (α 17)) := rfl
theorem rw_18 {g : GG} {h : Nat} {ad : Nat → Nat} {φ : Nat → Int32} {α : Nat → Nat → Int32} : (wM g h ad φ α)[16]? = some (ad 18, aI g 40 (α 18)) := rfl
theorem rw_19 {g : GG} {h : Nat} {ad : Nat → Nat} {φ : Nat → Int32} {α : Nat → Nat → Int32} : (wM g h ad φ α)[17]? = some (ad 19, aI g 40 (α 19)) := rfl
theorem rw_20 {g : GG} {h : Nat} {ad : Nat → Nat} {φ : Nat → Int32} {α : Nat → Nat → Int32} : (wM g h ad φ α)[18]? = some (ad 20, aI g 320 (α 20)) := rfl
theorem rw_21 {g : GG} {h : Nat} {ad : Nat → Nat} {φ : Nat → Int32} {α : Nat → Nat → Int32} : (wM g h ad φ α)[19]? = some (ad 21, aZ g 40 (α 21)) := rfl
theorem rw_22 {g : GG} {h : Nat} {ad : Nat → Nat} {φ : Nat → Int32} {α : Nat → Nat → Int32} : (wM g h ad φ α)[20]? = some (ad 22, aZ g 40 (α 22)) := rfl
theorem rw_23 {g : GG} {h : Nat} {ad : Nat → Nat} {φ : Nat → Int32} {α : Nat → Nat → Int32} : (wM g h ad φ α)[21]? = some (ad 23, aI g 16 (α 23)) := rfl
theorem rw_36 {g : GG} {h : Nat} {ad : Nat → Nat} {φ : Nat → Int32} {α : Nat → Nat → Int32} : (wM g h ad φ α)[22]? = some (ad 36, aI g 20 (α 36)) := rfl
theorem ro_0 {ad : Nat → Nat} {φ : Nat → Int32} : (rObj ad φ)[0]? = some (.int (φ 0)) := rfl
theorem ro_1 {ad : Nat → Nat} {φ : Nat → Int32} : (rObj ad φ)[1]? = some (.ref (ad 1)) := rfl
theorem ro_2 {ad : Nat → Nat} {φ : Nat → Int32} : (rObj ad φ)[2]? = some (.ref (ad 2)) := rfl
theorem ro_3 {ad : Nat → Nat} {φ : Nat → Int32} : (rObj ad φ)[3]? = some (.ref (ad 3)) := rfl
theorem ro_4 {ad : Nat → Nat} {φ : Nat → Int32} : (rObj ad φ)[4]? = some (.ref (ad 4)) := rfl
theorem ro_5 {ad : Nat → Nat} {φ : Nat → Int32} : (rObj ad φ)[5]? = some (.int (φ 5)) := rfl
theorem ro_6 {ad : Nat → Nat} {φ : Nat → Int32} : (rObj ad φ)[6]? = some (.int (φ 6)) := rfl
theorem ro_7 {ad : Nat → Nat} {φ : Nat → Int32} : (rObj ad φ)[7]? = some (.ref (ad 7)) := rfl
theorem ro_8 {ad : Nat → Nat} {φ : Nat → Int32} : (rObj ad φ)[8]? = some (.ref (ad 8)) := rfl
theorem ro_9 {ad : Nat → Nat} {φ : Nat → Int32} : (rObj ad φ)[9]? = some (.ref (ad 9)) := rfl
theorem ro_10 {ad : Nat → Nat} {φ : Nat → Int32} : (rObj ad φ)[10]? = some (.ref (ad 10)) := rfl
theorem ro_11 {ad : Nat → Nat} {φ : Nat → Int32} : (rObj ad φ)[11]? = some (.ref (ad 11)) := rfl
theorem ro_12 {ad : Nat → Nat} {φ : Nat → Int32} : (rObj ad φ)[12]? = some (.ref (ad 12)) := rfl
theorem ro_13 {ad : Nat → Nat} {φ : Nat → Int32} : (rObj ad φ)[13]? = some (.ref (ad 13)) := rfl
theorem ro_14 {ad : Nat → Nat} {φ : Nat → Int32} : (rObj ad φ)[14]? = some (.ref (ad 14)) := rfl
theorem ro_15 {ad : Nat → Nat} {φ : Nat → Int32} : (rObj ad φ)[15]? = some (.ref (ad 15)) := rfl
theorem ro_16 {ad : Nat → Nat} {φ : Nat → Int32} : (rObj ad φ)[16]? = some (.ref (ad 16)) := rfl
theorem ro_17 {ad : Nat → Nat} {φ : Nat → Int32} : (rObj ad φ)[17]? = some (.ref (ad 17)) := rfl
theorem ro_18 {ad : Nat → Nat} {φ : Nat → Int32} : (rObj ad φ)[18]? = some (.ref (ad 18)) := rfl
theorem ro_19 {ad : Nat → Nat} {φ : Nat → Int32} : (rObj ad φ)[19]? = some (.ref (ad 19)) := rfl
theorem ro_20 {ad : Nat → Nat} {φ : Nat → Int32} : (rObj ad φ)[20]? = some (.ref (ad 20)) := rfl
theorem ro_21 {ad : Nat → Nat} {φ : Nat → Int32} : (rObj ad φ)[21]? = some (.ref (ad 21)) := rfl
theorem ro_22 {ad : Nat → Nat} {φ : Nat → Int32} : (rObj ad φ)[22]? = some (.ref (ad 22)) := rfl
theorem ro_23 {ad : Nat → Nat} {φ : Nat → Int32} : (rObj ad φ)[23]? = some (.ref (ad 23)) := rfl
theorem ro_24 {ad : Nat → Nat} {φ : Nat → Int32} : (rObj ad φ)[24]? = some (.int (φ 24)) := rfl
theorem ro_25 {ad : Nat → Nat} {φ : Nat → Int32} : (rObj ad φ)[25]? = some (.int (φ 25)) := rfl
theorem ro_26 {ad : Nat → Nat} {φ : Nat → Int32} : (rObj ad φ)[26]? = some (.int (φ 26)) := rfl
theorem ro_27 {ad : Nat → Nat} {φ : Nat → Int32} : (rObj ad φ)[27]? = some (.int (φ 27)) := rfl
theorem ro_28 {ad : Nat → Nat} {φ : Nat → Int32} : (rObj ad φ)[28]? = some (.int (φ 28)) := rfl
theorem ro_29 {ad : Nat → Nat} {φ : Nat → Int32} : (rObj ad φ)[29]? = some (.int (φ 29)) := rfl
theorem ro_30 {ad : Nat → Nat} {φ : Nat → Int32} : (rObj ad φ)[30]? = some (.int (φ 30)) := rfl
theorem ro_31 {ad : Nat → Nat} {φ : Nat → Int32} : (rObj ad φ)[31]? = some (.int (φ 31)) := rfl
theorem ro_32 {ad : Nat → Nat} {φ : Nat → Int32} : (rObj ad φ)[32]? = some (.int (φ 32)) := rfl
theorem ro_33 {ad : Nat → Nat} {φ : Nat → Int32} : (rObj ad φ)[33]? = some (.int (φ 33)) := rfl
theorem ro_34 {ad : Nat → Nat} {φ : Nat → Int32} : (rObj ad φ)[34]? = some (.int (φ 34)) := rfl
theorem ro_35 {ad : Nat → Nat} {φ : Nat → Int32} : (rObj ad φ)[35]? = some (.int (φ 35)) := rfl
theorem ro_36 {ad : Nat → Nat} {φ : Nat → Int32} : (rObj ad φ)[36]? = some (.ref (ad 36)) := rfl
section RW
variable {p : Program} {l : Launch} {e : Env} {R : Room} {s : State} {m : MethodId} {args : Array Value} {below : List Frame} {meth : Method} {c : Code} {H : Heap} {locs : List Loc} {cells slots : Nat} {Q : State → Prop}
variable {cc : ByteArray} {nL pc : Nat} {ls : Array Slot} {rest : List Value} {g : GG} {h : Nat} {ad : Nat → Nat} {φ : Nat → Int32} {α : Nat → Nat → Int32} {A : Nat → Prop} {H0 : Heap}
theorem fits01 {x : Int32} (hx : x = 0 ∨ x = 1) : narrow .boolean (.int x) = .int x ∧ fits .boolean (.int x) = true ∧ vp_nar .boolean x = x := by rcases hx with rfl | rfl <;> decide
theorem rp_0 (C : Cx p m c cc nL s args RX5 g) (hM : va_P g.1 vwCl (wM g h ad φ α) H) (hD : wD A g h ad) (hS : va_S A H0 H locs) {x : Int32} (hdg : decode cc pc = .ok (.putfield 77, 3)) (kk : ∀ (H1 : Heap) (locs1 : List Loc), va_P g.1 vwCl (wM g h ad (upd φ 0 x) α) H1 → va_S A H0 H1 locs1 → W p l e R s m args below meth c H1 locs1 cells slots Q (F0 m (pc + 3) ls rest)) : W p l e R s m args below meth c H locs cells slots Q (F0 m pc ls (.int x :: .ref h :: rest)) :=
  q_put C fp_X5_77 hM (hD.of φ α) hS 0 rw_0 rfl rfl (by show _ < 37; decide) hdg (fun H1 locs1 h1 _ h3 => kk H1 locs1 h1 h3)
theorem rp_5 (C : Cx p m c cc nL s args RX5 g) (hM : va_P g.1 vwCl (wM g h ad φ α) H) (hD : wD A g h ad) (hS : va_S A H0 H locs) {x : Int32} (hdg : decode cc pc = .ok (.putfield 109, 3)) (kk : ∀ (H1 : Heap) (locs1 : List Loc), va_P g.1 vwCl (wM g h ad (upd φ 5 x) α) H1 → va_S A H0 H1 locs1 → W p l e R s m args below meth c H1 locs1 cells slots Q (F0 m (pc + 3) ls rest)) : W p l e R s m args below meth c H locs cells slots Q (F0 m pc ls (.int x :: .ref h :: rest)) :=
  q_put C fp_X5_109 hM (hD.of φ α) hS 0 rw_0 rfl rfl (by show _ < 37; decide) hdg (fun H1 locs1 h1 _ h3 => kk H1 locs1 h1 h3)
theorem rp_6 (C : Cx p m c cc nL s args RX5 g) (hM : va_P g.1 vwCl (wM g h ad φ α) H) (hD : wD A g h ad) (hS : va_S A H0 H locs) {x : Int32} (hdg : decode cc pc = .ok (.putfield 90, 3)) (kk : ∀ (H1 : Heap) (locs1 : List Loc), va_P g.1 vwCl (wM g h ad (upd φ 6 x) α) H1 → va_S A H0 H1 locs1 → W p l e R s m args below meth c H1 locs1 cells slots Q (F0 m (pc + 3) ls rest)) : W p l e R s m args below meth c H locs cells slots Q (F0 m pc ls (.int x :: .ref h :: rest)) :=
  q_put C fp_X5_90 hM (hD.of φ α) hS 0 rw_0 rfl rfl (by show _ < 37; decide) hdg (fun H1 locs1 h1 _ h3 => kk H1 locs1 h1 h3)
theorem rp_24 (C : Cx p m c cc nL s args RX5 g) (hM : va_P g.1 vwCl (wM g h ad φ α) H) (hD : wD A g h ad) (hS : va_S A H0 H locs) {x : Int32} (hdg : decode cc pc = .ok (.putfield 115, 3)) (kk : ∀ (H1 : Heap) (locs1 : List Loc), va_P g.1 vwCl (wM g h ad (upd φ 24 x) α) H1 → va_S A H0 H1 locs1 → W p l e R s m args below meth c H1 locs1 cells slots Q (F0 m (pc + 3) ls rest)) : W p l e R s m args below meth c H locs cells slots Q (F0 m pc ls (.int x :: .ref h :: rest)) :=
  q_put C fp_X5_115 hM (hD.of φ α) hS 0 rw_0 rfl rfl (by show _ < 37; decide) hdg (fun H1 locs1 h1 _ h3 => kk H1 locs1 h1 h3)
theorem rp_25 (C : Cx p m c cc nL s args RX5 g) (hM : va_P g.1 vwCl (wM g h ad φ α) H) (hD : wD A g h ad) (hS : va_S A H0 H locs) {x : Int32} (hx : x = 0 ∨ x = 1) (hdg : decode cc pc = .ok (.putfield 118, 3)) (kk : ∀ (H1 : Heap) (locs1 : List Loc), va_P g.1 vwCl (wM g h ad (upd φ 25 x) α) H1 → va_S A H0 H1 locs1 → W p l e R s m args below meth c H1 locs1 cells slots Q (F0 m (pc + 3) ls rest)) : W p l e R s m args below meth c H locs cells slots Q (F0 m pc ls (.int x :: .ref h :: rest)) :=
  q_put C fp_X5_118 hM (hD.of φ α) hS 0 rw_0 (fits01 hx).1 (fits01 hx).2.1 (by show _ < 37; decide) hdg (fun H1 locs1 h1 _ h3 => kk H1 locs1 h1 h3)
theorem rp_26 (C : Cx p m c cc nL s args RX5 g) (hM : va_P g.1 vwCl (wM g h ad φ α) H) (hD : wD A g h ad) (hS : va_S A H0 H locs) {x : Int32} (hdg : decode cc pc = .ok (.putfield 93, 3)) (kk : ∀ (H1 : Heap) (locs1 : List Loc), va_P g.1 vwCl (wM g h ad (upd φ 26 x) α) H1 → va_S A H0 H1 locs1 → W p l e R s m args below meth c H1 locs1 cells slots Q (F0 m (pc + 3) ls rest)) : W p l e R s m args below meth c H locs cells slots Q (F0 m pc ls (.int x :: .ref h :: rest)) :=
  q_put C fp_X5_93 hM (hD.of φ α) hS 0 rw_0 rfl rfl (by show _ < 37; decide) hdg (fun H1 locs1 h1 _ h3 => kk H1 locs1 h1 h3)
theorem rp_27 (C : Cx p m c cc nL s args RX5 g) (hM : va_P g.1 vwCl (wM g h ad φ α) H) (hD : wD A g h ad) (hS : va_S A H0 H locs) {x : Int32} (hdg : decode cc pc = .ok (.putfield 103, 3)) (kk : ∀ (H1 : Heap) (locs1 : List Loc), va_P g.1 vwCl (wM g h ad (upd φ 27 x) α) H1 → va_S A H0 H1 locs1 → W p l e R s m args below meth c H1 locs1 cells slots Q (F0 m (pc + 3) ls rest)) : W p l e R s m args below meth c H locs cells slots Q (F0 m pc ls (.int x :: .ref h :: rest)) :=
  q_put C fp_X5_103 hM (hD.of φ α) hS 0 rw_0 rfl rfl (by show _ < 37; decide) hdg (fun H1 locs1 h1 _ h3 => kk H1 locs1 h1 h3)
theorem rp_28 (C : Cx p m c cc nL s args RX5 g) (hM : va_P g.1 vwCl (wM g h ad φ α) H) (hD : wD A g h ad) (hS : va_S A H0 H locs) {x : Int32} (hx : x = 0 ∨ x = 1) (hdg : decode cc pc = .ok (.putfield 100, 3)) (kk : ∀ (H1 : Heap) (locs1 : List Loc), va_P g.1 vwCl (wM g h ad (upd φ 28 x) α) H1 → va_S A H0 H1 locs1 → W p l e R s m args below meth c H1 locs1 cells slots Q (F0 m (pc + 3) ls rest)) : W p l e R s m args below meth c H locs cells slots Q (F0 m pc ls (.int x :: .ref h :: rest)) :=
  q_put C fp_X5_100 hM (hD.of φ α) hS 0 rw_0 (fits01 hx).1 (fits01 hx).2.1 (by show _ < 37; decide) hdg (fun H1 locs1 h1 _ h3 => kk H1 locs1 h1 h3)
theorem rp_29 (C : Cx p m c cc nL s args RX5 g) (hM : va_P g.1 vwCl (wM g h ad φ α) H) (hD : wD A g h ad) (hS : va_S A H0 H locs) {x : Int32} (hx : x = 0 ∨ x = 1) (hdg : decode cc pc = .ok (.putfield 106, 3)) (kk : ∀ (H1 : Heap) (locs1 : List Loc), va_P g.1 vwCl (wM g h ad (upd φ 29 x) α) H1 → va_S A H0 H1 locs1 → W p l e R s m args below meth c H1 locs1 cells slots Q (F0 m (pc + 3) ls rest)) : W p l e R s m args below meth c H locs cells slots Q (F0 m pc ls (.int x :: .ref h :: rest)) :=
  q_put C fp_X5_106 hM (hD.of φ α) hS 0 rw_0 (fits01 hx).1 (fits01 hx).2.1 (by show _ < 37; decide) hdg (fun H1 locs1 h1 _ h3 => kk H1 locs1 h1 h3)
theorem rp_30 (C : Cx p m c cc nL s args RX5 g) (hM : va_P g.1 vwCl (wM g h ad φ α) H) (hD : wD A g h ad) (hS : va_S A H0 H locs) {x : Int32} (hx : x = 0 ∨ x = 1) (hdg : decode cc pc = .ok (.putfield 112, 3)) (kk : ∀ (H1 : Heap) (locs1 : List Loc), va_P g.1 vwCl (wM g h ad (upd φ 30 x) α) H1 → va_S A H0 H1 locs1 → W p l e R s m args below meth c H1 locs1 cells slots Q (F0 m (pc + 3) ls rest)) : W p l e R s m args below meth c H locs cells slots Q (F0 m pc ls (.int x :: .ref h :: rest)) :=
  q_put C fp_X5_112 hM (hD.of φ α) hS 0 rw_0 (fits01 hx).1 (fits01 hx).2.1 (by show _ < 37; decide) hdg (fun H1 locs1 h1 _ h3 => kk H1 locs1 h1 h3)
theorem rp_31 (C : Cx p m c cc nL s args RX5 g) (hM : va_P g.1 vwCl (wM g h ad φ α) H) (hD : wD A g h ad) (hS : va_S A H0 H locs) {x : Int32} (hx : x = 0 ∨ x = 1) (hdg : decode cc pc = .ok (.putfield 96, 3)) (kk : ∀ (H1 : Heap) (locs1 : List Loc), va_P g.1 vwCl (wM g h ad (upd φ 31 x) α) H1 → va_S A H0 H1 locs1 → W p l e R s m args below meth c H1 locs1 cells slots Q (F0 m (pc + 3) ls rest)) : W p l e R s m args below meth c H locs cells slots Q (F0 m pc ls (.int x :: .ref h :: rest)) :=
  q_put C fp_X5_96 hM (hD.of φ α) hS 0 rw_0 (fits01 hx).1 (fits01 hx).2.1 (by show _ < 37; decide) hdg (fun H1 locs1 h1 _ h3 => kk H1 locs1 h1 h3)
theorem rp_32 (C : Cx p m c cc nL s args RX5 g) (hM : va_P g.1 vwCl (wM g h ad φ α) H) (hD : wD A g h ad) (hS : va_S A H0 H locs) {x : Int32} (hdg : decode cc pc = .ok (.putfield 171, 3)) (kk : ∀ (H1 : Heap) (locs1 : List Loc), va_P g.1 vwCl (wM g h ad (upd φ 32 x) α) H1 → va_S A H0 H1 locs1 → W p l e R s m args below meth c H1 locs1 cells slots Q (F0 m (pc + 3) ls rest)) : W p l e R s m args below meth c H locs cells slots Q (F0 m pc ls (.int x :: .ref h :: rest)) :=
  q_put C fp_X5_171 hM (hD.of φ α) hS 0 rw_0 rfl rfl (by show _ < 37; decide) hdg (fun H1 locs1 h1 _ h3 => kk H1 locs1 h1 h3)
theorem rp_33 (C : Cx p m c cc nL s args RX5 g) (hM : va_P g.1 vwCl (wM g h ad φ α) H) (hD : wD A g h ad) (hS : va_S A H0 H locs) {x : Int32} (hdg : decode cc pc = .ok (.putfield 174, 3)) (kk : ∀ (H1 : Heap) (locs1 : List Loc), va_P g.1 vwCl (wM g h ad (upd φ 33 x) α) H1 → va_S A H0 H1 locs1 → W p l e R s m args below meth c H1 locs1 cells slots Q (F0 m (pc + 3) ls rest)) : W p l e R s m args below meth c H locs cells slots Q (F0 m pc ls (.int x :: .ref h :: rest)) :=
  q_put C fp_X5_174 hM (hD.of φ α) hS 0 rw_0 rfl rfl (by show _ < 37; decide) hdg (fun H1 locs1 h1 _ h3 => kk H1 locs1 h1 h3)
theorem rp_34 (C : Cx p m c cc nL s args RX5 g) (hM : va_P g.1 vwCl (wM g h ad φ α) H) (hD : wD A g h ad) (hS : va_S A H0 H locs) {x : Int32} (hdg : decode cc pc = .ok (.putfield 177, 3)) (kk : ∀ (H1 : Heap) (locs1 : List Loc), va_P g.1 vwCl (wM g h ad (upd φ 34 x) α) H1 → va_S A H0 H1 locs1 → W p l e R s m args below meth c H1 locs1 cells slots Q (F0 m (pc + 3) ls rest)) : W p l e R s m args below meth c H locs cells slots Q (F0 m pc ls (.int x :: .ref h :: rest)) :=
  q_put C fp_X5_177 hM (hD.of φ α) hS 0 rw_0 rfl rfl (by show _ < 37; decide) hdg (fun H1 locs1 h1 _ h3 => kk H1 locs1 h1 h3)
theorem rp_35 (C : Cx p m c cc nL s args RX5 g) (hM : va_P g.1 vwCl (wM g h ad φ α) H) (hD : wD A g h ad) (hS : va_S A H0 H locs) {x : Int32} (hdg : decode cc pc = .ok (.putfield 213, 3)) (kk : ∀ (H1 : Heap) (locs1 : List Loc), va_P g.1 vwCl (wM g h ad (upd φ 35 x) α) H1 → va_S A H0 H1 locs1 → W p l e R s m args below meth c H1 locs1 cells slots Q (F0 m (pc + 3) ls rest)) : W p l e R s m args below meth c H locs cells slots Q (F0 m pc ls (.int x :: .ref h :: rest)) :=
  q_put C fp_X5_213 hM (hD.of φ α) hS 0 rw_0 rfl rfl (by show _ < 37; decide) hdg (fun H1 locs1 h1 _ h3 => kk H1 locs1 h1 h3)
theorem ra_1 (C : Cx p m c cc nL s args RX5 g) (hM : va_P g.1 vwCl (wM g h ad φ α) H) (hD : wD A g h ad) (hS : va_S A H0 H locs) {j : Nat} (hj : j < 4) {x : Int32} (hdg : decode cc pc = .ok (.iastore, 1)) (kk : ∀ (H1 : Heap) (locs1 : List Loc), va_P g.1 vwCl (wM g h ad φ (aset α 1 j x)) H1 → va_S A H0 H1 locs1 → W p l e R s m args below meth c H1 locs1 cells slots Q (F0 m (pc + 1) ls rest)) : W p l e R s m args below meth c H locs cells slots Q (F0 m pc ls (.int x :: .int (nI j) :: .ref (ad 1) :: rest)) := by
  refine va_iast C.1.1 C.1.2.1 C.2.1 hM (hD.of φ α) hS 1 0 rw_1 rfl (vp_in_nI hj (by decide)) hdg (fun H1 locs1 h1 _ h3 => ?_)
  rw [nI_clamp (Nat.lt_trans hj (by decide))] at h1
  exact kk H1 locs1 h1 h3
theorem ra_2 (C : Cx p m c cc nL s args RX5 g) (hM : va_P g.1 vwCl (wM g h ad φ α) H) (hD : wD A g h ad) (hS : va_S A H0 H locs) {j : Nat} (hj : j < 32) {x : Int32} (hdg : decode cc pc = .ok (.iastore, 1)) (kk : ∀ (H1 : Heap) (locs1 : List Loc), va_P g.1 vwCl (wM g h ad φ (aset α 2 j x)) H1 → va_S A H0 H1 locs1 → W p l e R s m args below meth c H1 locs1 cells slots Q (F0 m (pc + 1) ls rest)) : W p l e R s m args below meth c H locs cells slots Q (F0 m pc ls (.int x :: .int (nI j) :: .ref (ad 2) :: rest)) := by
  refine va_iast C.1.1 C.1.2.1 C.2.1 hM (hD.of φ α) hS 2 0 rw_2 rfl (vp_in_nI hj (by decide)) hdg (fun H1 locs1 h1 _ h3 => ?_)
  rw [nI_clamp (Nat.lt_trans hj (by decide))] at h1
  exact kk H1 locs1 h1 h3
theorem ra_3 (C : Cx p m c cc nL s args RX5 g) (hM : va_P g.1 vwCl (wM g h ad φ α) H) (hD : wD A g h ad) (hS : va_S A H0 H locs) {j : Nat} (hj : j < 8) {x : Int32} (hdg : decode cc pc = .ok (.iastore, 1)) (kk : ∀ (H1 : Heap) (locs1 : List Loc), va_P g.1 vwCl (wM g h ad φ (aset α 3 j x)) H1 → va_S A H0 H1 locs1 → W p l e R s m args below meth c H1 locs1 cells slots Q (F0 m (pc + 1) ls rest)) : W p l e R s m args below meth c H locs cells slots Q (F0 m pc ls (.int x :: .int (nI j) :: .ref (ad 3) :: rest)) := by
  refine va_iast C.1.1 C.1.2.1 C.2.1 hM (hD.of φ α) hS 3 0 rw_3 rfl (vp_in_nI hj (by decide)) hdg (fun H1 locs1 h1 _ h3 => ?_)
  rw [nI_clamp (Nat.lt_trans hj (by decide))] at h1
  exact kk H1 locs1 h1 h3
theorem ra_4 (C : Cx p m c cc nL s args RX5 g) (hM : va_P g.1 vwCl (wM g h ad φ α) H) (hD : wD A g h ad) (hS : va_S A H0 H locs) {j : Nat} (hj : j < 4) {x : Int32} (hdg : decode cc pc = .ok (.iastore, 1)) (kk : ∀ (H1 : Heap) (locs1 : List Loc), va_P g.1 vwCl (wM g h ad φ (aset α 4 j x)) H1 → va_S A H0 H1 locs1 → W p l e R s m args below meth c H1 locs1 cells slots Q (F0 m (pc + 1) ls rest)) : W p l e R s m args below meth c H locs cells slots Q (F0 m pc ls (.int x :: .int (nI j) :: .ref (ad 4) :: rest)) := by
  refine va_iast C.1.1 C.1.2.1 C.2.1 hM (hD.of φ α) hS 4 0 rw_4 rfl (vp_in_nI hj (by decide)) hdg (fun H1 locs1 h1 _ h3 => ?_)
  rw [nI_clamp (Nat.lt_trans hj (by decide))] at h1
  exact kk H1 locs1 h1 h3
theorem ra_7 (C : Cx p m c cc nL s args RX5 g) (hM : va_P g.1 vwCl (wM g h ad φ α) H) (hD : wD A g h ad) (hS : va_S A H0 H locs) {j : Nat} (hj : j < 40) {x : Int32} (hdg : decode cc pc = .ok (.iastore, 1)) (kk : ∀ (H1 : Heap) (locs1 : List Loc), va_P g.1 vwCl (wM g h ad φ (aset α 7 j x)) H1 → va_S A H0 H1 locs1 → W p l e R s m args below meth c H1 locs1 cells slots Q (F0 m (pc + 1) ls rest)) : W p l e R s m args below meth c H locs cells slots Q (F0 m pc ls (.int x :: .int (nI j) :: .ref (ad 7) :: rest)) := by
  refine va_iast C.1.1 C.1.2.1 C.2.1 hM (hD.of φ α) hS 5 0 rw_7 rfl (vp_in_nI hj (by decide)) hdg (fun H1 locs1 h1 _ h3 => ?_)
  rw [nI_clamp (Nat.lt_trans hj (by decide))] at h1
  exact kk H1 locs1 h1 h3
theorem ra_8 (C : Cx p m c cc nL s args RX5 g) (hM : va_P g.1 vwCl (wM g h ad φ α) H) (hD : wD A g h ad) (hS : va_S A H0 H locs) {j : Nat} (hj : j < 40) {x : Int32} (hdg : decode cc pc = .ok (.iastore, 1)) (kk : ∀ (H1 : Heap) (locs1 : List Loc), va_P g.1 vwCl (wM g h ad φ (aset α 8 j x)) H1 → va_S A H0 H1 locs1 → W p l e R s m args below meth c H1 locs1 cells slots Q (F0 m (pc + 1) ls rest)) : W p l e R s m args below meth c H locs cells slots Q (F0 m pc ls (.int x :: .int (nI j) :: .ref (ad 8) :: rest)) := by
  refine va_iast C.1.1 C.1.2.1 C.2.1 hM (hD.of φ α) hS 6 0 rw_8 rfl (vp_in_nI hj (by decide)) hdg (fun H1 locs1 h1 _ h3 => ?_)
  rw [nI_clamp (Nat.lt_trans hj (by decide))] at h1
  exact kk H1 locs1 h1 h3
theorem ra_9 (C : Cx p m c cc nL s args RX5 g) (hM : va_P g.1 vwCl (wM g h ad φ α) H) (hD : wD A g h ad) (hS : va_S A H0 H locs) {j : Nat} (hj : j < 320) {x : Int32} (hdg : decode cc pc = .ok (.iastore, 1)) (kk : ∀ (H1 : Heap) (locs1 : List Loc), va_P g.1 vwCl (wM g h ad φ (aset α 9 j x)) H1 → va_S A H0 H1 locs1 → W p l e R s m args below meth c H1 locs1 cells slots Q (F0 m (pc + 1) ls rest)) : W p l e R s m args below meth c H locs cells slots Q (F0 m pc ls (.int x :: .int (nI j) :: .ref (ad 9) :: rest)) := by
  refine va_iast C.1.1 C.1.2.1 C.2.1 hM (hD.of φ α) hS 7 0 rw_9 rfl (vp_in_nI hj (by decide)) hdg (fun H1 locs1 h1 _ h3 => ?_)
  rw [nI_clamp (Nat.lt_trans hj (by decide))] at h1
  exact kk H1 locs1 h1 h3
theorem ra_10 (C : Cx p m c cc nL s args RX5 g) (hM : va_P g.1 vwCl (wM g h ad φ α) H) (hD : wD A g h ad) (hS : va_S A H0 H locs) {j : Nat} (hj : j < 40) {x : Int32} (hdg : decode cc pc = .ok (.iastore, 1)) (kk : ∀ (H1 : Heap) (locs1 : List Loc), va_P g.1 vwCl (wM g h ad φ (aset α 10 j x)) H1 → va_S A H0 H1 locs1 → W p l e R s m args below meth c H1 locs1 cells slots Q (F0 m (pc + 1) ls rest)) : W p l e R s m args below meth c H locs cells slots Q (F0 m pc ls (.int x :: .int (nI j) :: .ref (ad 10) :: rest)) := by
  refine va_iast C.1.1 C.1.2.1 C.2.1 hM (hD.of φ α) hS 8 0 rw_10 rfl (vp_in_nI hj (by decide)) hdg (fun H1 locs1 h1 _ h3 => ?_)
  rw [nI_clamp (Nat.lt_trans hj (by decide))] at h1
  exact kk H1 locs1 h1 h3
theorem ra_11 (C : Cx p m c cc nL s args RX5 g) (hM : va_P g.1 vwCl (wM g h ad φ α) H) (hD : wD A g h ad) (hS : va_S A H0 H locs) {j : Nat} (hj : j < 40) {x : Int32} (hdg : decode cc pc = .ok (.iastore, 1)) (kk : ∀ (H1 : Heap) (locs1 : List Loc), va_P g.1 vwCl (wM g h ad φ (aset α 11 j x)) H1 → va_S A H0 H1 locs1 → W p l e R s m args below meth c H1 locs1 cells slots Q (F0 m (pc + 1) ls rest)) : W p l e R s m args below meth c H locs cells slots Q (F0 m pc ls (.int x :: .int (nI j) :: .ref (ad 11) :: rest)) := by
  refine va_iast C.1.1 C.1.2.1 C.2.1 hM (hD.of φ α) hS 9 0 rw_11 rfl (vp_in_nI hj (by decide)) hdg (fun H1 locs1 h1 _ h3 => ?_)
  rw [nI_clamp (Nat.lt_trans hj (by decide))] at h1
  exact kk H1 locs1 h1 h3
theorem ra_12 (C : Cx p m c cc nL s args RX5 g) (hM : va_P g.1 vwCl (wM g h ad φ α) H) (hD : wD A g h ad) (hS : va_S A H0 H locs) {j : Nat} (hj : j < 40) {x : Int32} (hdg : decode cc pc = .ok (.iastore, 1)) (kk : ∀ (H1 : Heap) (locs1 : List Loc), va_P g.1 vwCl (wM g h ad φ (aset α 12 j x)) H1 → va_S A H0 H1 locs1 → W p l e R s m args below meth c H1 locs1 cells slots Q (F0 m (pc + 1) ls rest)) : W p l e R s m args below meth c H locs cells slots Q (F0 m pc ls (.int x :: .int (nI j) :: .ref (ad 12) :: rest)) := by
  refine va_iast C.1.1 C.1.2.1 C.2.1 hM (hD.of φ α) hS 10 0 rw_12 rfl (vp_in_nI hj (by decide)) hdg (fun H1 locs1 h1 _ h3 => ?_)
  rw [nI_clamp (Nat.lt_trans hj (by decide))] at h1
  exact kk H1 locs1 h1 h3
theorem ra_13 (C : Cx p m c cc nL s args RX5 g) (hM : va_P g.1 vwCl (wM g h ad φ α) H) (hD : wD A g h ad) (hS : va_S A H0 H locs) {j : Nat} (hj : j < 40) {x : Int32} (hdg : decode cc pc = .ok (.iastore, 1)) (kk : ∀ (H1 : Heap) (locs1 : List Loc), va_P g.1 vwCl (wM g h ad φ (aset α 13 j x)) H1 → va_S A H0 H1 locs1 → W p l e R s m args below meth c H1 locs1 cells slots Q (F0 m (pc + 1) ls rest)) : W p l e R s m args below meth c H locs cells slots Q (F0 m pc ls (.int x :: .int (nI j) :: .ref (ad 13) :: rest)) := by
  refine va_iast C.1.1 C.1.2.1 C.2.1 hM (hD.of φ α) hS 11 0 rw_13 rfl (vp_in_nI hj (by decide)) hdg (fun H1 locs1 h1 _ h3 => ?_)
  rw [nI_clamp (Nat.lt_trans hj (by decide))] at h1
  exact kk H1 locs1 h1 h3
theorem ra_14 (C : Cx p m c cc nL s args RX5 g) (hM : va_P g.1 vwCl (wM g h ad φ α) H) (hD : wD A g h ad) (hS : va_S A H0 H locs) {j : Nat} (hj : j < 640) {x : Int32} (hdg : decode cc pc = .ok (.iastore, 1)) (kk : ∀ (H1 : Heap) (locs1 : List Loc), va_P g.1 vwCl (wM g h ad φ (aset α 14 j x)) H1 → va_S A H0 H1 locs1 → W p l e R s m args below meth c H1 locs1 cells slots Q (F0 m (pc + 1) ls rest)) : W p l e R s m args below meth c H locs cells slots Q (F0 m pc ls (.int x :: .int (nI j) :: .ref (ad 14) :: rest)) := by
  refine va_iast C.1.1 C.1.2.1 C.2.1 hM (hD.of φ α) hS 12 0 rw_14 rfl (vp_in_nI hj (by decide)) hdg (fun H1 locs1 h1 _ h3 => ?_)
  rw [nI_clamp (Nat.lt_trans hj (by decide))] at h1
  exact kk H1 locs1 h1 h3
theorem ra_15 (C : Cx p m c cc nL s args RX5 g) (hM : va_P g.1 vwCl (wM g h ad φ α) H) (hD : wD A g h ad) (hS : va_S A H0 H locs) {j : Nat} (hj : j < 40) {x : Int32} (hx : x = 0 ∨ x = 1) (hdg : decode cc pc = .ok (.bastore, 1)) (kk : ∀ (H1 : Heap) (locs1 : List Loc), va_P g.1 vwCl (wM g h ad φ (aset α 15 j x)) H1 → va_S A H0 H1 locs1 → W p l e R s m args below meth c H1 locs1 cells slots Q (F0 m (pc + 1) ls rest)) : W p l e R s m args below meth c H locs cells slots Q (F0 m pc ls (.int x :: .int (nI j) :: .ref (ad 15) :: rest)) := by
  refine va_zast C.1.1 C.1.2.1 C.2.1 hM (hD.of φ α) hS 13 1 rw_15 rfl (vp_in_nI hj (by decide)) hdg (fun H1 locs1 h1 _ h3 => ?_)
  rw [nI_clamp (Nat.lt_trans hj (by decide)), (fits01 hx).2.2] at h1
  exact kk H1 locs1 h1 h3
theorem ra_16 (C : Cx p m c cc nL s args RX5 g) (hM : va_P g.1 vwCl (wM g h ad φ α) H) (hD : wD A g h ad) (hS : va_S A H0 H locs) {j : Nat} (hj : j < 40) {x : Int32} (hdg : decode cc pc = .ok (.iastore, 1)) (kk : ∀ (H1 : Heap) (locs1 : List Loc), va_P g.1 vwCl (wM g h ad φ (aset α 16 j x)) H1 → va_S A H0 H1 locs1 → W p l e R s m args below meth c H1 locs1 cells slots Q (F0 m (pc + 1) ls rest)) : W p l e R s m args below meth c H locs cells slots Q (F0 m pc ls (.int x :: .int (nI j) :: .ref (ad 16) :: rest)) := by
  refine va_iast C.1.1 C.1.2.1 C.2.1 hM (hD.of φ α) hS 14 0 rw_16 rfl (vp_in_nI hj (by decide)) hdg (fun H1 locs1 h1 _ h3 => ?_)
  rw [nI_clamp (Nat.lt_trans hj (by decide))] at h1
  exact kk H1 locs1 h1 h3
theorem ra_17 (C : Cx p m c cc nL s args RX5 g) (hM : va_P g.1 vwCl (wM g h ad φ α) H) (hD : wD A g h ad) (hS : va_S A H0 H locs) {j : Nat} (hj : j < 40) {x : Int32} (hdg : decode cc pc = .ok (.iastore, 1)) (kk : ∀ (H1 : Heap) (locs1 : List Loc), va_P g.1 vwCl (wM g h ad φ (aset α 17 j x)) H1 → va_S A H0 H1 locs1 → W p l e R s m args below meth c H1 locs1 cells slots Q (F0 m (pc + 1) ls rest)) : W p l e R s m args below meth c H locs cells slots Q (F0 m pc ls (.int x :: .int (nI j) :: .ref (ad 17) :: rest)) := by
  refine va_iast C.1.1 C.1.2.1 C.2.1 hM (hD.of φ α) hS 15 0 rw_17 rfl (vp_in_nI hj (by decide)) hdg (fun H1 locs1 h1 _ h3 => ?_)
  rw [nI_clamp (Nat.lt_trans hj (by decide))] at h1
  exact kk H1 locs1 h1 h3
theorem ra_18 (C : Cx p m c cc nL s args RX5 g) (hM : va_P g.1 vwCl (wM g h ad φ α) H) (hD : wD A g h ad) (hS : va_S A H0 H locs) {j : Nat} (hj : j < 40) {x : Int32} (hdg : decode cc pc = .ok (.iastore, 1)) (kk : ∀ (H1 : Heap) (locs1 : List Loc), va_P g.1 vwCl (wM g h ad φ (aset α 18 j x)) H1 → va_S A H0 H1 locs1 → W p l e R s m args below meth c H1 locs1 cells slots Q (F0 m (pc + 1) ls rest)) : W p l e R s m args below meth c H locs cells slots Q (F0 m pc ls (.int x :: .int (nI j) :: .ref (ad 18) :: rest)) := by
  refine va_iast C.1.1 C.1.2.1 C.2.1 hM (hD.of φ α) hS 16 0 rw_18 rfl (vp_in_nI hj (by decide)) hdg (fun H1 locs1 h1 _ h3 => ?_)
  rw [nI_clamp (Nat.lt_trans hj (by decide))] at h1
  exact kk H1 locs1 h1 h3
theorem ra_19 (C : Cx p m c cc nL s args RX5 g) (hM : va_P g.1 vwCl (wM g h ad φ α) H) (hD : wD A g h ad) (hS : va_S A H0 H locs) {j : Nat} (hj : j < 40) {x : Int32} (hdg : decode cc pc = .ok (.iastore, 1)) (kk : ∀ (H1 : Heap) (locs1 : List Loc), va_P g.1 vwCl (wM g h ad φ (aset α 19 j x)) H1 → va_S A H0 H1 locs1 → W p l e R s m args below meth c H1 locs1 cells slots Q (F0 m (pc + 1) ls rest)) : W p l e R s m args below meth c H locs cells slots Q (F0 m pc ls (.int x :: .int (nI j) :: .ref (ad 19) :: rest)) := by
  refine va_iast C.1.1 C.1.2.1 C.2.1 hM (hD.of φ α) hS 17 0 rw_19 rfl (vp_in_nI hj (by decide)) hdg (fun H1 locs1 h1 _ h3 => ?_)
  rw [nI_clamp (Nat.lt_trans hj (by decide))] at h1
  exact kk H1 locs1 h1 h3
theorem ra_20 (C : Cx p m c cc nL s args RX5 g) (hM : va_P g.1 vwCl (wM g h ad φ α) H) (hD : wD A g h ad) (hS : va_S A H0 H locs) {j : Nat} (hj : j < 320) {x : Int32} (hdg : decode cc pc = .ok (.iastore, 1)) (kk : ∀ (H1 : Heap) (locs1 : List Loc), va_P g.1 vwCl (wM g h ad φ (aset α 20 j x)) H1 → va_S A H0 H1 locs1 → W p l e R s m args below meth c H1 locs1 cells slots Q (F0 m (pc + 1) ls rest)) : W p l e R s m args below meth c H locs cells slots Q (F0 m pc ls (.int x :: .int (nI j) :: .ref (ad 20) :: rest)) := by
  refine va_iast C.1.1 C.1.2.1 C.2.1 hM (hD.of φ α) hS 18 0 rw_20 rfl (vp_in_nI hj (by decide)) hdg (fun H1 locs1 h1 _ h3 => ?_)
  rw [nI_clamp (Nat.lt_trans hj (by decide))] at h1
  exact kk H1 locs1 h1 h3
theorem ra_21 (C : Cx p m c cc nL s args RX5 g) (hM : va_P g.1 vwCl (wM g h ad φ α) H) (hD : wD A g h ad) (hS : va_S A H0 H locs) {j : Nat} (hj : j < 40) {x : Int32} (hx : x = 0 ∨ x = 1) (hdg : decode cc pc = .ok (.bastore, 1)) (kk : ∀ (H1 : Heap) (locs1 : List Loc), va_P g.1 vwCl (wM g h ad φ (aset α 21 j x)) H1 → va_S A H0 H1 locs1 → W p l e R s m args below meth c H1 locs1 cells slots Q (F0 m (pc + 1) ls rest)) : W p l e R s m args below meth c H locs cells slots Q (F0 m pc ls (.int x :: .int (nI j) :: .ref (ad 21) :: rest)) := by
  refine va_zast C.1.1 C.1.2.1 C.2.1 hM (hD.of φ α) hS 19 1 rw_21 rfl (vp_in_nI hj (by decide)) hdg (fun H1 locs1 h1 _ h3 => ?_)
  rw [nI_clamp (Nat.lt_trans hj (by decide)), (fits01 hx).2.2] at h1
  exact kk H1 locs1 h1 h3
theorem ra_22 (C : Cx p m c cc nL s args RX5 g) (hM : va_P g.1 vwCl (wM g h ad φ α) H) (hD : wD A g h ad) (hS : va_S A H0 H locs) {j : Nat} (hj : j < 40) {x : Int32} (hx : x = 0 ∨ x = 1) (hdg : decode cc pc = .ok (.bastore, 1)) (kk : ∀ (H1 : Heap) (locs1 : List Loc), va_P g.1 vwCl (wM g h ad φ (aset α 22 j x)) H1 → va_S A H0 H1 locs1 → W p l e R s m args below meth c H1 locs1 cells slots Q (F0 m (pc + 1) ls rest)) : W p l e R s m args below meth c H locs cells slots Q (F0 m pc ls (.int x :: .int (nI j) :: .ref (ad 22) :: rest)) := by
  refine va_zast C.1.1 C.1.2.1 C.2.1 hM (hD.of φ α) hS 20 1 rw_22 rfl (vp_in_nI hj (by decide)) hdg (fun H1 locs1 h1 _ h3 => ?_)
  rw [nI_clamp (Nat.lt_trans hj (by decide)), (fits01 hx).2.2] at h1
  exact kk H1 locs1 h1 h3
theorem ra_23 (C : Cx p m c cc nL s args RX5 g) (hM : va_P g.1 vwCl (wM g h ad φ α) H) (hD : wD A g h ad) (hS : va_S A H0 H locs) {j : Nat} (hj : j < 16) {x : Int32} (hdg : decode cc pc = .ok (.iastore, 1)) (kk : ∀ (H1 : Heap) (locs1 : List Loc), va_P g.1 vwCl (wM g h ad φ (aset α 23 j x)) H1 → va_S A H0 H1 locs1 → W p l e R s m args below meth c H1 locs1 cells slots Q (F0 m (pc + 1) ls rest)) : W p l e R s m args below meth c H locs cells slots Q (F0 m pc ls (.int x :: .int (nI j) :: .ref (ad 23) :: rest)) := by
  refine va_iast C.1.1 C.1.2.1 C.2.1 hM (hD.of φ α) hS 21 0 rw_23 rfl (vp_in_nI hj (by decide)) hdg (fun H1 locs1 h1 _ h3 => ?_)
  rw [nI_clamp (Nat.lt_trans hj (by decide))] at h1
  exact kk H1 locs1 h1 h3
theorem ra_36 (C : Cx p m c cc nL s args RX5 g) (hM : va_P g.1 vwCl (wM g h ad φ α) H) (hD : wD A g h ad) (hS : va_S A H0 H locs) {j : Nat} (hj : j < 20) {x : Int32} (hdg : decode cc pc = .ok (.iastore, 1)) (kk : ∀ (H1 : Heap) (locs1 : List Loc), va_P g.1 vwCl (wM g h ad φ (aset α 36 j x)) H1 → va_S A H0 H1 locs1 → W p l e R s m args below meth c H1 locs1 cells slots Q (F0 m (pc + 1) ls rest)) : W p l e R s m args below meth c H locs cells slots Q (F0 m pc ls (.int x :: .int (nI j) :: .ref (ad 36) :: rest)) := by
  refine va_iast C.1.1 C.1.2.1 C.2.1 hM (hD.of φ α) hS 22 0 rw_36 rfl (vp_in_nI hj (by decide)) hdg (fun H1 locs1 h1 _ h3 => ?_)
  rw [nI_clamp (Nat.lt_trans hj (by decide))] at h1
  exact kk H1 locs1 h1 h3
end RW

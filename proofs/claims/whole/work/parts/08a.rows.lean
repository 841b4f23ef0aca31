/-! a few rows more: a small number against 0; stores named -/
section LY2
variable {p : Program} {l : Launch} {e : Env} {R : Room} {s : State} {m : MethodId} {args : Array Value} {below : List Frame} {meth : Method} {c : Code} {H : Heap} {locs : List Loc} {cells slots : Nat} {Q : State → Prop}
variable {cc : ByteArray} {nL pc : Nat} {ls : Array Slot} {rest : List Value} {g : GG} {own : String}
theorem n_ifeq (C : Cx p m c cc nL s args own g) {a : Nat} {off : Int} {tgt : Nat} (ha : a < 2 ^ 31) (hdg : decode cc pc = .ok (.ifCond .eq off, 3)) (ht : (pc : Int) + off = (tgt : Int)) (kt : a = 0 → W p l e R s m args below meth c H locs cells slots Q (F0 m tgt ls rest)) (kf : ¬ a = 0 → W p l e R s m args below meth c H locs cells slots Q (F0 m (pc + 3) ls rest)) : W p l e R s m args below meth c H locs cells slots Q (F0 m pc ls (.int (nI a) :: rest)) :=
  lv_if_eq C.1.1 C.1.2.1 hdg ht (fun h => kt ((nI_eq ha (by decide)).mp h)) (fun h => kf (fun q => h ((nI_eq ha (by decide)).mpr q)))
theorem n_ifne (C : Cx p m c cc nL s args own g) {a : Nat} {off : Int} {tgt : Nat} (ha : a < 2 ^ 31) (hdg : decode cc pc = .ok (.ifCond .ne off, 3)) (ht : (pc : Int) + off = (tgt : Int)) (kt : ¬ a = 0 → W p l e R s m args below meth c H locs cells slots Q (F0 m tgt ls rest)) (kf : a = 0 → W p l e R s m args below meth c H locs cells slots Q (F0 m (pc + 3) ls rest)) : W p l e R s m args below meth c H locs cells slots Q (F0 m pc ls (.int (nI a) :: rest)) :=
  lv_if_ne C.1.1 C.1.2.1 hdg ht (fun h => kt (fun q => h ((nI_eq ha (by decide)).mpr q))) (fun h => kf ((nI_eq ha (by decide)).mp h))
end LY2
theorem asetS (α : Nat → Nat → Int32) (k j : Nat) (x : Int32) : aset α k j x k = upd (α k) j x := by simp [aset]
theorem asetN (α : Nat → Nat → Int32) {k q : Nat} (j : Nat) (x : Int32) (h : q ≠ k) : aset α k j x q = α q := by simp [aset, h]
theorem asetV (α : Nat → Nat → Int32) (k j : Nat) (x : Int32) : aset α k j x k j = x := by simp [aset, upd]
theorem asetO (α : Nat → Nat → Int32) (k : Nat) {j i : Nat} (x : Int32) (h : i ≠ j) : aset α k j x k i = α k i := by simp [aset, upd, h]

/-! LAYER: what all contracts share: one list of words (wsL_law), one knowledge of the tables (KK), contracts over the heap alone -/
def bI (b : Bool) : Int32 := if b then 1 else 0
theorem bI_t : bI true = 1 := rfl
theorem bI_f : bI false = 0 := rfl
theorem bI_nar (b : Bool) : narrow .boolean (.int (bI b)) = .int (bI b) := by cases b <;> rfl
theorem bI_or (b : Bool) : bI b = 0 ∨ bI b = 1 := by cases b <;> simp [bI]
def nwL : List Cond := [.methodLinkNest RX4 21 yX3_init "TrialBook", .methodLinkNest RX2 11 yX1_init "TrialBook", .methodLinkNest RX2 95 yX4_settingOf "TrialBook", .methodLinkNest RX2 75 yX4_remainder "TrialBook", .methodLinkNest RX1 29 yX4_isIn "TrialBook", .methodLinkNest RX2 140 yX4_isIn "TrialBook"]
theorem nwL_of {P : Cond → Prop} (h : ∀ a i x b, P (.methodLinkNest a i x b)) : ∀ w ∈ nwL, P w := by
  intro w hw
  simp only [nwL, List.mem_cons, List.not_mem_nil, or_false] at hw
  rcases hw with rfl | rfl | rfl | rfl | rfl | rfl <;> exact h _ _ _ _
abbrev GG : Type := va_G × ClassId × ClassId × ClassId × ClassId
abbrev tyG (g : GG) : List (ClassId × FieldType) := [(g.2.1, .int), (g.2.2.1, .boolean), (g.2.2.2.1, .object "TrialBook$Code"), (g.2.2.2.2, .object "TrialBook$Run")]
abbrev aI (g : GG) (n : Nat) (f : Nat → Int32) : va_E := .inl (g.2.1, n, .inl f)
abbrev aZ (g : GG) (n : Nat) (f : Nat → Int32) : va_E := .inl (g.2.2.1, n, .inl f)
abbrev aC (g : GG) (n : Nat) (f : Nat → Option Nat) : va_E := .inl (g.2.2.2.1, n, .inr (.inr (.inr (.inr f))))
abbrev aR (g : GG) (n : Nat) (f : Nat → Option Nat) : va_E := .inl (g.2.2.2.2, n, .inr (.inr (.inr (.inr f))))
def KK (g : GG) (U : State) : Prop := va_K g.1 vwCl (tyG g) U ∧ (∀ w ∈ nwL, va_Nw w U) ∧ va_AO "TrialBook$Code" U ∧ va_AO "TrialBook$Run" U
theorem KK.warm {g : GG} {s U : State} (hW : s.WarmedH U.vm) (h : KK g s) : KK g U :=
  ⟨va_K.moved hW.alike h.1, fun w hw => nwL_of (P := fun w => va_Nw w s → va_Nw w U) (fun _ _ _ _ q => va_Nw.warmM hW q) w hw (h.2.1 w hw), h.2.2.1.moved hW.alike, h.2.2.2.moved hW.alike⟩
theorem KK.call {g : GG} {U : State} {fr : JFrame} {mk : MethodId} {a : Array Value} (h : KK g U) : KK g (U.calling fr mk a) :=
  ⟨va_K.moved (u := U) (U := U.calling fr mk a) (Vm.Alike.refl U.vm) h.1, fun w hw => nwL_of (P := fun w => va_Nw w U → va_Nw w (U.calling fr mk a)) (fun _ _ _ _ q => va_Nw.same rfl rfl q) w hw (h.2.1 w hw), va_AO.moved (u := U) (U := U.calling fr mk a) (Vm.Alike.refl U.vm) h.2.2.1, va_AO.moved (u := U) (U := U.calling fr mk a) (Vm.Alike.refl U.vm) h.2.2.2⟩
/-- a contract's start: these arguments, the heap so, the tables known -/
def mP (g : GG) (av : List Value) (P : Heap → Prop) : Array Value → State → Prop := fun v U => v = av.toArray ∧ P U.heap ∧ KK g U
theorem mP_blind {g : GG} {av : List Value} {P : Heap → Prop} : FrameBlind (mP g av P) := fun _ _ _ _ q => ⟨q.1, q.2.1, q.2.2.call⟩
/-- a contract's end: its answer and its heap, and what it may change -/
def mQ (A : Nat → Prop) (X : Option Value → Heap → Prop) : Array Value → State → Outcome → State → Prop := fun _ st o t => (∃ v, o = .returned v ∧ X v t.heap) ∧ va_F A st t
theorem gSelf : GoodIn wsL_law wsL_law := goodIn_sub (fun _ h => h) (by decide +kernel)
/-- what holds in a method's body from its entry to its end -/
def Cx (p : Program) (m : MethodId) (c : Code) (cc : ByteArray) (nL : Nat) (s : State) (args : Array Value) (own : String) (g : GG) : Prop := CallFix p m c cc nL s args wsL_law own ∧ KK g s
theorem mMet {l : Launch} {y : MethodName} {cc : ByteArray} {maxL : Nat} {ret : Option FieldType} {rm : Room} {g : GG} {av : List Value} {P : Heap → Prop} {Qc : Array Value → State → Outcome → State → Prop} {mc ms : Nat} {free : Addr → Prop}
    (hy : plainName y.cls = true) (hav : (lg_sl av).length ≤ maxL)
    (body : ∀ (p : Program) (e : Env) (s : State) (m : MethodId) (below : List Frame) (meth : Method) (c : Code), Cx p m c cc maxL s av.toArray y.cls g → meth.sig.returnType = ret → meth.locks = false → meth.name = y.name → P s.heap → ∀ ls : Array Slot, lv_has ls maxL (lv_args 0 av) →
      W p l e rm s m av.toArray below meth c s.heap [] 0 0 (MQ below Qc av.toArray s mc ms free) (F0 m 0 ls [])) : Met l y (.code y cc maxL ret :: wsL_law) rm (mP g av P) Qc mc ms free := by
  refine Met.ofW (cc := cc) (maxL := maxL) (ret := ret) hy rfl ?_
  intro p e s m args below meth c s₁ B hml hv
  obtain ⟨rfl, hP, hK⟩ := hv
  have hts := atoms_spec (ws := .code y cc maxL ret :: wsL_law) B.pre
  have hown : s.vm.findClass y.cls = some m.cls := findClass_of_methodNamed B.named
  rw [lg_entry_eq]
  exact body p e s m below meth c ⟨⟨B.exec, B.bytes, hml, hown, fun w h => hts w (List.mem_cons_of_mem _ h)⟩, hK⟩ B.returns B.notSynchronized (name_of_methodNamed B.named B.method).1 hP _ (lv_entry av hav)
/-- a call of an instance method, by its link in class own -/
def VOK (own : String) (idx : Nat) (y : MethodName) (b : ByteArray) (maxL : Nat) (ret : Option FieldType) (n : Nat) : Prop :=
  GoodIn wsL_law (wsV own idx y.cls y (.code y b maxL ret :: wsL_law)) ∧ y.cls ≠ "java/lang/invoke/MethodHandle" ∧ y.cls ≠ "java/lang/invoke/VarHandle" ∧ (parseMethodDescriptor y.desc).map (fun d => d.parameters.length) = some n
theorem VOK.of {own : String} {idx : Nat} {y : MethodName} {b : ByteArray} {maxL : Nat} {ret : Option FieldType} {n : Nat} (h1 : Cond.methodLink own idx y ∈ wsL_law) (h2 : Cond.instanceMethod y ∈ wsL_law) (h3 : Cond.selects y.cls y y ∈ wsL_law) (h4 : Cond.initialized y.cls ∈ wsL_law) (h5 : Cond.code y b maxL ret ∈ wsL_law)
    (h6 : y.cls ≠ "java/lang/invoke/MethodHandle" ∧ y.cls ≠ "java/lang/invoke/VarHandle" ∧ (parseMethodDescriptor y.desc).map (fun d => d.parameters.length) = some n) : VOK own idx y b maxL ret n := by
  refine ⟨fun w hw => ?_, h6⟩
  unfold wsV at hw
  rcases List.mem_append.mp hw with h | h
  · simp only [List.mem_cons, List.not_mem_nil, or_false] at h
    rcases h with rfl | rfl | rfl | rfl
    · exact gSelf _ h1
    · exact gSelf _ h2
    · exact gSelf _ h3
    · exact gSelf _ h4
  · rcases List.mem_cons.mp h with rfl | h
    · exact gSelf _ h5
    · exact gSelf _ h
def SOK (own : String) (idx : Nat) (y : MethodName) (b : ByteArray) (maxL : Nat) (ret : Option FieldType) (n : Nat) : Prop :=
  GoodIn wsL_law (va_wsS own idx y (.code y b maxL ret :: wsL_law)) ∧ y.cls ≠ "java/lang/invoke/MethodHandle" ∧ y.cls ≠ "java/lang/invoke/VarHandle" ∧ (parseMethodDescriptor y.desc).map (fun d => d.parameters.length) = some n
theorem SOK.of {own : String} {idx : Nat} {y : MethodName} {b : ByteArray} {maxL : Nat} {ret : Option FieldType} {n : Nat} (h1 : Cond.methodLink own idx y ∈ wsL_law) (h2 : Cond.static y ∈ wsL_law) (h4 : Cond.initialized y.cls ∈ wsL_law) (h5 : Cond.code y b maxL ret ∈ wsL_law)
    (h6 : y.cls ≠ "java/lang/invoke/MethodHandle" ∧ y.cls ≠ "java/lang/invoke/VarHandle" ∧ (parseMethodDescriptor y.desc).map (fun d => d.parameters.length) = some n) : SOK own idx y b maxL ret n := by
  refine ⟨fun w hw => ?_, h6⟩
  unfold va_wsS at hw
  rcases List.mem_append.mp hw with h | h
  · simp only [List.mem_cons, List.not_mem_nil, or_false] at h
    rcases h with rfl | rfl | rfl
    · exact gSelf _ h1
    · exact gSelf _ h2
    · exact gSelf _ h4
  · rcases List.mem_cons.mp h with rfl | h
    · exact gSelf _ h5
    · exact gSelf _ h
/-- a call of a nest mate's private static method or constructor -/
def NOK (own : String) (idx : Nat) (y : MethodName) (b : ByteArray) (maxL : Nat) (ret : Option FieldType) (n : Nat) : Prop :=
  Cond.methodLinkNest own idx y "TrialBook" ∈ nwL ∧ Cond.initialized y.cls ∈ wsL_law ∧ Cond.code y b maxL ret ∈ wsL_law ∧ y.cls ≠ "java/lang/invoke/MethodHandle" ∧ y.cls ≠ "java/lang/invoke/VarHandle" ∧ (parseMethodDescriptor y.desc).map (fun d => d.parameters.length) = some n
theorem NOK.good {own : String} {idx : Nat} {y : MethodName} {b : ByteArray} {maxL : Nat} {ret : Option FieldType} {n : Nat} (h : NOK own idx y b maxL ret n) : GoodIn wsL_law (.code y b maxL ret :: wsL_law) := by
  intro w hw
  rcases List.mem_cons.mp hw with rfl | hw
  · exact gSelf _ h.2.2.1
  · exact gSelf _ hw
section LY
variable {p : Program} {l : Launch} {e : Env} {R : Room} {s : State} {m : MethodId} {args : Array Value} {below : List Frame} {meth : Method} {c : Code} {H : Heap} {locs : List Loc} {cells slots : Nat} {Q : State → Prop}
variable {cc : ByteArray} {nL pc : Nat} {ls : Array Slot} {rest st0 : List Value} {g : GG} {own : String}
theorem w_topi {x y : Int32} (h : x = y) (k : W p l e R s m args below meth c H locs cells slots Q (F0 m pc ls (.int y :: rest))) : W p l e R s m args below meth c H locs cells slots Q (F0 m pc ls (.int x :: rest)) := by rw [h]; exact k
theorem w_topl {x y : Int64} (h : x = y) (k : W p l e R s m args below meth c H locs cells slots Q (F0 m pc ls (.long y :: rest))) : W p l e R s m args below meth c H locs cells slots Q (F0 m pc ls (.long x :: rest)) := by rw [h]; exact k
theorem n_iadd (C : Cx p m c cc nL s args own g) {a b : Nat} (hdg : decode cc pc = .ok (.iadd, 1)) (k : W p l e R s m args below meth c H locs cells slots Q (F0 m (pc + 1) ls (.int (nI (a + b)) :: rest))) : W p l e R s m args below meth c H locs cells slots Q (F0 m pc ls (.int (nI b) :: .int (nI a) :: rest)) :=
  lv_iadd C.1.1 C.1.2.1 hdg (by rw [nI_add]; exact k)
theorem n_imul (C : Cx p m c cc nL s args own g) {a b : Nat} (hdg : decode cc pc = .ok (.imul, 1)) (k : W p l e R s m args below meth c H locs cells slots Q (F0 m (pc + 1) ls (.int (nI (a * b)) :: rest))) : W p l e R s m args below meth c H locs cells slots Q (F0 m pc ls (.int (nI b) :: .int (nI a) :: rest)) :=
  lv_imul C.1.1 C.1.2.1 hdg (by rw [pk_mul]; exact k)
theorem n_isub (C : Cx p m c cc nL s args own g) {a b : Nat} (h : b ≤ a) (hdg : decode cc pc = .ok (.isub, 1)) (k : W p l e R s m args below meth c H locs cells slots Q (F0 m (pc + 1) ls (.int (nI (a - b)) :: rest))) : W p l e R s m args below meth c H locs cells slots Q (F0 m pc ls (.int (nI b) :: .int (nI a) :: rest)) :=
  lv_isub C.1.1 C.1.2.1 hdg (by rw [pk_sub h]; exact k)
theorem n_irem (C : Cx p m c cc nL s args own g) {a b : Nat} (ha : a < 2 ^ 31) (h0 : 0 < b) (hb : b < 2 ^ 31) (hdg : decode cc pc = .ok (.irem, 1)) (k : W p l e R s m args below meth c H locs cells slots Q (F0 m (pc + 1) ls (.int (nI (a % b)) :: rest))) : W p l e R s m args below meth c H locs cells slots Q (F0 m pc ls (.int (nI b) :: .int (nI a) :: rest)) :=
  lv_irem C.1.1 C.1.2.1 hdg (nI_ne0 h0 hb) (by rw [pk_rem ha h0 hb]; exact k)
theorem n_idiv (C : Cx p m c cc nL s args own g) {a b : Nat} (ha : a < 2 ^ 31) (h0 : 0 < b) (hb : b < 2 ^ 31) (hdg : decode cc pc = .ok (.idiv, 1)) (k : W p l e R s m args below meth c H locs cells slots Q (F0 m (pc + 1) ls (.int (nI (a / b)) :: rest))) : W p l e R s m args below meth c H locs cells slots Q (F0 m pc ls (.int (nI b) :: .int (nI a) :: rest)) :=
  lv_idiv C.1.1 C.1.2.1 hdg (nI_ne0 h0 hb) (by rw [pk_div ha h0 hb]; exact k)
theorem n_iinc (C : Cx p m c cc nL s args own g) {i k d : Nat} {x : Nat} {n : Int} {lv lv' : List (Nat × Value)} (hdg : decode cc pc = .ok (.iinc i n, 3)) (hd : Int32.ofInt n = nI d) (h : lv_has ls nL lv) (hk : lv[k]? = some (i, .int (nI x))) (hn : i < nL) (hl : (i, Value.int (nI (x + d))) :: lv.filter (fun q => !(q.1 == i) && !(q.1 + 1 == i && q.2.category == 2)) = lv')
    (kk : ∀ ls' : Array Slot, lv_has ls' nL lv' → W p l e R s m args below meth c H locs cells slots Q (F0 m (pc + 3) ls' rest)) : W p l e R s m args below meth c H locs cells slots Q (F0 m pc ls rest) :=
  lv_iinc C.1.1 C.1.2.1 hdg h hk (by rw [hd, nI_add]) hn hl kk
theorem n_icmp_ge (C : Cx p m c cc nL s args own g) {a b : Nat} {off : Int} {tgt : Nat} (ha : a < 2 ^ 31) (hb : b < 2 ^ 31) (hdg : decode cc pc = .ok (.if_icmp .ge off, 3)) (ht : (pc : Int) + off = (tgt : Int)) (kt : b ≤ a → W p l e R s m args below meth c H locs cells slots Q (F0 m tgt ls rest)) (kf : a < b → W p l e R s m args below meth c H locs cells slots Q (F0 m (pc + 3) ls rest)) : W p l e R s m args below meth c H locs cells slots Q (F0 m pc ls (.int (nI b) :: .int (nI a) :: rest)) :=
  lv_icmp_ge C.1.1 C.1.2.1 hdg ht (fun h => kt ((nI_leI hb ha).mp h)) (fun h => kf (Nat.not_le.mp fun q => h ((nI_leI hb ha).mpr q)))
theorem n_icmp_lt (C : Cx p m c cc nL s args own g) {a b : Nat} {off : Int} {tgt : Nat} (ha : a < 2 ^ 31) (hb : b < 2 ^ 31) (hdg : decode cc pc = .ok (.if_icmp .lt off, 3)) (ht : (pc : Int) + off = (tgt : Int)) (kt : a < b → W p l e R s m args below meth c H locs cells slots Q (F0 m tgt ls rest)) (kf : b ≤ a → W p l e R s m args below meth c H locs cells slots Q (F0 m (pc + 3) ls rest)) : W p l e R s m args below meth c H locs cells slots Q (F0 m pc ls (.int (nI b) :: .int (nI a) :: rest)) :=
  lv_icmp_lt C.1.1 C.1.2.1 hdg ht (fun h => kt ((nI_ltI ha hb).mp h)) (fun h => kf (Nat.not_lt.mp fun q => h ((nI_ltI ha hb).mpr q)))
theorem n_icmp_gt (C : Cx p m c cc nL s args own g) {a b : Nat} {off : Int} {tgt : Nat} (ha : a < 2 ^ 31) (hb : b < 2 ^ 31) (hdg : decode cc pc = .ok (.if_icmp .gt off, 3)) (ht : (pc : Int) + off = (tgt : Int)) (kt : b < a → W p l e R s m args below meth c H locs cells slots Q (F0 m tgt ls rest)) (kf : a ≤ b → W p l e R s m args below meth c H locs cells slots Q (F0 m (pc + 3) ls rest)) : W p l e R s m args below meth c H locs cells slots Q (F0 m pc ls (.int (nI b) :: .int (nI a) :: rest)) :=
  lv_icmp_gt C.1.1 C.1.2.1 hdg ht (fun h => kt ((nI_ltI hb ha).mp h)) (fun h => kf (Nat.not_lt.mp fun q => h ((nI_ltI hb ha).mpr q)))
theorem n_icmp_le (C : Cx p m c cc nL s args own g) {a b : Nat} {off : Int} {tgt : Nat} (ha : a < 2 ^ 31) (hb : b < 2 ^ 31) (hdg : decode cc pc = .ok (.if_icmp .le off, 3)) (ht : (pc : Int) + off = (tgt : Int)) (kt : a ≤ b → W p l e R s m args below meth c H locs cells slots Q (F0 m tgt ls rest)) (kf : b < a → W p l e R s m args below meth c H locs cells slots Q (F0 m (pc + 3) ls rest)) : W p l e R s m args below meth c H locs cells slots Q (F0 m pc ls (.int (nI b) :: .int (nI a) :: rest)) :=
  lv_icmp_le C.1.1 C.1.2.1 hdg ht (fun h => kt ((nI_leI ha hb).mp h)) (fun h => kf (Nat.not_le.mp fun q => h ((nI_leI ha hb).mpr q)))
theorem n_icmp_eq (C : Cx p m c cc nL s args own g) {a b : Nat} {off : Int} {tgt : Nat} (ha : a < 2 ^ 31) (hb : b < 2 ^ 31) (hdg : decode cc pc = .ok (.if_icmp .eq off, 3)) (ht : (pc : Int) + off = (tgt : Int)) (kt : a = b → W p l e R s m args below meth c H locs cells slots Q (F0 m tgt ls rest)) (kf : ¬ a = b → W p l e R s m args below meth c H locs cells slots Q (F0 m (pc + 3) ls rest)) : W p l e R s m args below meth c H locs cells slots Q (F0 m pc ls (.int (nI b) :: .int (nI a) :: rest)) :=
  lv_icmp_eq C.1.1 C.1.2.1 hdg ht (fun h => kt ((nI_eq ha hb).mp h)) (fun h => kf (fun q => h ((nI_eq ha hb).mpr q)))
theorem n_icmp_ne (C : Cx p m c cc nL s args own g) {a b : Nat} {off : Int} {tgt : Nat} (ha : a < 2 ^ 31) (hb : b < 2 ^ 31) (hdg : decode cc pc = .ok (.if_icmp .ne off, 3)) (ht : (pc : Int) + off = (tgt : Int)) (kt : ¬ a = b → W p l e R s m args below meth c H locs cells slots Q (F0 m tgt ls rest)) (kf : a = b → W p l e R s m args below meth c H locs cells slots Q (F0 m (pc + 3) ls rest)) : W p l e R s m args below meth c H locs cells slots Q (F0 m pc ls (.int (nI b) :: .int (nI a) :: rest)) :=
  lv_icmp_ne C.1.1 C.1.2.1 hdg ht (fun h => kt (fun q => h ((nI_eq ha hb).mpr q))) (fun h => kf ((nI_eq ha hb).mp h))
theorem b_ifeq (C : Cx p m c cc nL s args own g) {b : Bool} {off : Int} {tgt : Nat} (hdg : decode cc pc = .ok (.ifCond .eq off, 3)) (ht : (pc : Int) + off = (tgt : Int)) (kt : b = false → W p l e R s m args below meth c H locs cells slots Q (F0 m tgt ls rest)) (kf : b = true → W p l e R s m args below meth c H locs cells slots Q (F0 m (pc + 3) ls rest)) : W p l e R s m args below meth c H locs cells slots Q (F0 m pc ls (.int (bI b) :: rest)) :=
  lv_if_eq C.1.1 C.1.2.1 hdg ht (fun h => kt (by cases b <;> simp_all [bI])) (fun h => kf (by cases b <;> simp_all [bI]))
theorem b_ifne (C : Cx p m c cc nL s args own g) {b : Bool} {off : Int} {tgt : Nat} (hdg : decode cc pc = .ok (.ifCond .ne off, 3)) (ht : (pc : Int) + off = (tgt : Int)) (kt : b = true → W p l e R s m args below meth c H locs cells slots Q (F0 m tgt ls rest)) (kf : b = false → W p l e R s m args below meth c H locs cells slots Q (F0 m (pc + 3) ls rest)) : W p l e R s m args below meth c H locs cells slots Q (F0 m pc ls (.int (bI b) :: rest)) :=
  lv_if_ne C.1.1 C.1.2.1 hdg ht (fun h => kt (by cases b <;> simp_all [bI])) (fun h => kf (by cases b <;> simp_all [bI]))
theorem n_iald (C : Cx p m c cc nL s args own g) {ws : va_W} (hP : va_P g.1 vwCl ws H) (q0 : Nat) {a n j : Nat} {f : Nat → Int32} (ha : ws[q0]? = some (a, aI g n f)) (hj : j < n) (hn : n < 2 ^ 31) (hdg : decode cc pc = .ok (.iaload, 1)) (kk : W p l e R s m args below meth c H locs cells slots Q (F0 m (pc + 1) ls (.int (f j) :: rest))) : W p l e R s m args below meth c H locs cells slots Q (F0 m pc ls (.int (nI j) :: .ref a :: rest)) :=
  va_iald C.1.1 C.1.2.1 C.2.1 hP q0 0 ha rfl (vp_in_nI hj hn) hdg (by rw [nI_clamp (Nat.lt_trans hj hn)]; exact kk)
theorem n_zald (C : Cx p m c cc nL s args own g) {ws : va_W} (hP : va_P g.1 vwCl ws H) (q0 : Nat) {a n j : Nat} {f : Nat → Int32} (ha : ws[q0]? = some (a, aZ g n f)) (hj : j < n) (hn : n < 2 ^ 31) (hdg : decode cc pc = .ok (.baload, 1)) (kk : W p l e R s m args below meth c H locs cells slots Q (F0 m (pc + 1) ls (.int (f j) :: rest))) : W p l e R s m args below meth c H locs cells slots Q (F0 m pc ls (.int (nI j) :: .ref a :: rest)) :=
  va_zald C.1.1 C.1.2.1 C.2.1 hP q0 1 ha rfl (vp_in_nI hj hn) hdg (by rw [nI_clamp (Nat.lt_trans hj hn)]; exact kk)
theorem n_cald (C : Cx p m c cc nL s args own g) {ws : va_W} (hP : va_P g.1 vwCl ws H) (q0 : Nat) {a n j : Nat} {f : Nat → Option Nat} (ha : ws[q0]? = some (a, aC g n f)) (hj : j < n) (hn : n < 2 ^ 31) (hdg : decode cc pc = .ok (.aaload, 1)) (kk : W p l e R s m args below meth c H locs cells slots Q (F0 m (pc + 1) ls (va_rf (f j) :: rest))) : W p l e R s m args below meth c H locs cells slots Q (F0 m pc ls (.int (nI j) :: .ref a :: rest)) :=
  va_aldq C.1.1 C.1.2.1 C.2.1 hP q0 2 ha rfl (vp_in_nI hj hn) hdg (by rw [nI_clamp (Nat.lt_trans hj hn)]; exact kk)
theorem n_rald (C : Cx p m c cc nL s args own g) {ws : va_W} (hP : va_P g.1 vwCl ws H) (q0 : Nat) {a n j : Nat} {f : Nat → Option Nat} (ha : ws[q0]? = some (a, aR g n f)) (hj : j < n) (hn : n < 2 ^ 31) (hdg : decode cc pc = .ok (.aaload, 1)) (kk : W p l e R s m args below meth c H locs cells slots Q (F0 m (pc + 1) ls (va_rf (f j) :: rest))) : W p l e R s m args below meth c H locs cells slots Q (F0 m pc ls (.int (nI j) :: .ref a :: rest)) :=
  va_aldq C.1.1 C.1.2.1 C.2.1 hP q0 3 ha rfl (vp_in_nI hj hn) hdg (by rw [nI_clamp (Nat.lt_trans hj hn)]; exact kk)
/-- a field of class ci, number k, by its link in class own -/
def FF (own : String) (idx ci k : Nat) : Prop := ∃ q : vw_C, vwCl[ci]? = some q ∧ k < q.2.2 ∧ (∀ w ∈ u_ws q.1 q.2.1 q.2.2, w ∈ wsL_law) ∧ Cond.fieldLink own idx (q.2.1 k).1 (q.2.1 k).2.1 (q.2.1 k).2.2.1 ∈ wsL_law
/-- .. that may be written: its type -/
def FP (own : String) (idx ci k : Nat) (fin : Bool) (ty : FieldType) : Prop := ∃ q : vw_C, vwCl[ci]? = some q ∧ k < q.2.2 ∧ (∀ w ∈ u_ws q.1 q.2.1 q.2.2, w ∈ wsL_law) ∧ Cond.fieldLink own idx (q.2.1 k).1 (q.2.1 k).2.1 (q.2.1 k).2.2.1 ∈ wsL_law ∧ (∃ ty0 : Nat → FieldType, ∀ k, k < q.2.2 → parseFieldDescriptor (q.2.1 k).2.2.1 = some (ty0 k)) ∧ (∀ a, a < q.2.2 → ∀ b, b < q.2.2 → a ≠ b → (q.2.1 a).2.1 ≠ (q.2.1 b).2.1) ∧ (q.2.1 k).2.2.2 = fin ∧ (fin = true → (q.2.1 k).1 = own) ∧ parseFieldDescriptor (q.2.1 k).2.2.1 = some ty
theorem q_get (C : Cx p m c cc nL s args own g) {idx ci k : Nat} (F : FF own idx ci k) {ws : va_W} (hP : va_P g.1 vwCl ws H) (q0 : Nat) {a : Nat} {fs : List Value} (he : ws[q0]? = some (a, .inr (ci, fs))) {v : Value} (hv : fs[k]? = some v) (hdg : decode cc pc = .ok (.getfield idx, 3))
    (kk : W p l e R s m args below meth c H locs cells slots Q (F0 m (pc + 3) ls (v :: rest))) : W p l e R s m args below meth c H locs cells slots Q (F0 m pc ls (.ref a :: rest)) := by
  obtain ⟨⟨Cn, T, N⟩, hc, hk, hin, hl⟩ := F
  exact va_get (D := g.1) (tys := tyG g) C.1.1 C.1.2.1 C.1.2.2.2.2 hin C.1.2.2.2.1 C.2.1 hP q0 he hc k hk (C.1.2.2.2.2 _ hl) (fun _ h => h) hv hdg kk
theorem q_put (C : Cx p m c cc nL s args own g) {idx ci k : Nat} {ty : FieldType} (F : FP own idx ci k false ty) {A : Nat → Prop} {H0 : Heap} {ws : va_W} (hP : va_P g.1 vwCl ws H) (hD : va_D A ws) (hS : va_S A H0 H locs) (q0 : Nat) {a : Nat} {fs : List Value} (he : ws[q0]? = some (a, .inr (ci, fs))) {v : Value} (hn : narrow ty v = v) (hfit : fits ty v = true) (hl : k < fs.length) (hdg : decode cc pc = .ok (.putfield idx, 3))
    (kk : ∀ (H1 : Heap) (locs1 : List Loc), va_P g.1 vwCl (ws.set q0 (a, .inr (ci, fs.set k v))) H1 → va_D A (ws.set q0 (a, .inr (ci, fs.set k v))) → va_S A H0 H1 locs1 → W p l e R s m args below meth c H1 locs1 cells slots Q (F0 m (pc + 3) ls rest)) : W p l e R s m args below meth c H locs cells slots Q (F0 m pc ls (v :: .ref a :: rest)) := by
  obtain ⟨⟨Cn, T, N⟩, hc, hk, hin, hlk, ⟨ty0, hty⟩, hnm, hfin, -, hd⟩ := F
  exact va_put (D := g.1) (tys := tyG g) C.1.1 C.1.2.1 C.1.2.2.2.2 hin ty0 hty hnm C.1.2.2.2.1 C.2.1 hP hD hS q0 he hc k hk (C.1.2.2.2.2 _ hlk) (fun _ h => h) hfin hd hn hfit hl hdg kk
theorem q_putF (C : Cx p m c cc nL s args own g) (hnm0 : meth.name = "<init>") {idx ci k : Nat} {ty : FieldType} (F : FP own idx ci k true ty) {A : Nat → Prop} {H0 : Heap} {ws : va_W} (hP : va_P g.1 vwCl ws H) (hD : va_D A ws) (hS : va_S A H0 H locs) (q0 : Nat) {a : Nat} {fs : List Value} (he : ws[q0]? = some (a, .inr (ci, fs))) {v : Value} (hn : narrow ty v = v) (hfit : fits ty v = true) (hl : k < fs.length) (hdg : decode cc pc = .ok (.putfield idx, 3))
    (kk : ∀ (H1 : Heap) (locs1 : List Loc), va_P g.1 vwCl (ws.set q0 (a, .inr (ci, fs.set k v))) H1 → va_D A (ws.set q0 (a, .inr (ci, fs.set k v))) → va_S A H0 H1 locs1 → W p l e R s m args below meth c H1 locs1 cells slots Q (F0 m (pc + 3) ls rest)) : W p l e R s m args below meth c H locs cells slots Q (F0 m pc ls (v :: .ref a :: rest)) := by
  obtain ⟨⟨Cn, T, N⟩, hc, hk, hin, hlk, ⟨ty0, hty⟩, hnm, hfin, hdc, hd⟩ := F
  exact va_putF (D := g.1) (tys := tyG g) C.1.1 C.1.2.1 C.1.2.2.2.2 hin ty0 hty hnm C.1.2.2.2.1 C.2.1 hP hD hS q0 he hc k hk (C.1.2.2.2.2 _ hlk) (fun _ h => h) hfin hnm0 (hdc rfl) hd hn hfit hl hdg kk
/-- the receiver of a call is there -/
theorem q_recv (C : Cx p m c cc nL s args own g) {ws : va_W} (hP : va_P g.1 vwCl ws H) (q0 : Nat) {a ci : Nat} {q : vw_C} {fs : List Value} (he : ws[q0]? = some (a, .inr (ci, fs))) (hc : vwCl[ci]? = some q) : ∃ cell : Cell, H[a]? = some cell ∧ cell.vm.isStatics = false ∧ s.vm.findClass q.1 = some cell.cls := va_recv C.2.1 hP hc he
variable {idx maxL n : Nat} {y : MethodName} {bytes : ByteArray} {ret : Option FieldType} {rm : Room} {b : Nat} {As : List Value} {P : Heap → Prop}
/-- the call itself, instance method, any contract -/
theorem c_V (C : Cx p m c cc nL s args own g) (ok : VOK own idx y bytes maxL ret n) {Qc : Array Value → State → Outcome → State → Prop} {free : Addr → Prop} (hM : Met l y (.code y bytes maxL ret :: wsL_law) rm (mP g (.ref b :: As) P) Qc rm.cells rm.slots free) (hR : rm.frames + 1 ≤ R.frames ∧ 8 + (maxL + 11) + rm.locals ≤ R.locals)
    (hrec : ∃ cell : Cell, H[b]? = some cell ∧ cell.vm.isStatics = false ∧ s.vm.findClass y.cls = some cell.cls) (hp : P H) (hls : ls.size = nL) (hn : As.length = n) (hst : st0 = As.reverse ++ .ref b :: rest) (hroom : (rest.map fun v => v.category).sum ≤ 8) (hdg : decode cc pc = .ok (.invokevirtual idx, 3)) (hf : cells + rm.cells ≤ R.cells ∧ slots + rm.slots ≤ R.slots) :
    va_Run p l e R s m args below meth c H locs cells slots rm.cells rm.slots (F0 m pc ls st0) rest (Qc (Value.ref b :: As).toArray) free :=
  va_runV (As := As) (rest := rest) C.1 hM (cwV n C.1.2.2.2.2 ok.1 rfl rfl rfl ⟨rfl, ok.2⟩ hR) ⟨mP_blind, hrec, fun U hU hW => ⟨rfl, by rw [hU]; exact hp, C.2.warm hW⟩⟩ rfl hn hls hst (lv_room hroom) hdg hf
theorem c_S (C : Cx p m c cc nL s args own g) (ok : SOK own idx y bytes maxL ret n) {Qc : Array Value → State → Outcome → State → Prop} {free : Addr → Prop} (hM : Met l y (.code y bytes maxL ret :: wsL_law) rm (mP g As P) Qc rm.cells rm.slots free) (hR : rm.frames + 1 ≤ R.frames ∧ 8 + (maxL + 11) + rm.locals ≤ R.locals)
    (hp : P H) (hls : ls.size = nL) (hn : As.length = n) (hst : st0 = As.reverse ++ rest) (hroom : (rest.map fun v => v.category).sum ≤ 8) (hdg : decode cc pc = .ok (.invokestatic idx, 3)) (hf : cells + rm.cells ≤ R.cells ∧ slots + rm.slots ≤ R.slots) :
    va_Run p l e R s m args below meth c H locs cells slots rm.cells rm.slots (F0 m pc ls st0) rest (Qc As.toArray) free :=
  va_runS (As := As) (rest := rest) C.1 hM (va_cwS n C.1.2.2.2.2 ok.1 rfl rfl rfl ok.2 hR) ⟨mP_blind, fun U hU hW => ⟨rfl, by rw [hU]; exact hp, C.2.warm hW⟩⟩ rfl hn hls hst (lv_room hroom) hdg hf
theorem c_SN (C : Cx p m c cc nL s args own g) (ok : NOK own idx y bytes maxL ret n) (hs : Cond.static y ∈ wsL_law) {Qc : Array Value → State → Outcome → State → Prop} {free : Addr → Prop} (hM : Met l y (.code y bytes maxL ret :: wsL_law) rm (mP g As P) Qc rm.cells rm.slots free) (hR : rm.frames + 1 ≤ R.frames ∧ 8 + (maxL + 11) + rm.locals ≤ R.locals)
    (hp : P H) (hls : ls.size = nL) (hn : As.length = n) (hst : st0 = As.reverse ++ rest) (hroom : (rest.map fun v => v.category).sum ≤ 8) (hdg : decode cc pc = .ok (.invokestatic idx, 3)) (hf : cells + rm.cells ≤ R.cells ∧ slots + rm.slots ≤ R.slots) :
    va_Run p l e R s m args below meth c H locs cells slots rm.cells rm.slots (F0 m pc ls st0) rest (Qc As.toArray) free :=
  va_runSN (As := As) (rest := rest) (host := "TrialBook") C.1 hM ⟨va_cnB n C.1.2.2.2.2 ok.good rfl rfl rfl (C.2.2.1 _ ok.1) (C.1.2.2.2.2 _ ok.2.1) ok.2.2.2 hR, C.1.2.2.2.2 _ hs, trivial⟩ ⟨mP_blind, fun U hU hW => ⟨rfl, by rw [hU]; exact hp, C.2.warm hW⟩⟩ rfl hn hls hst (lv_room hroom) hdg hf
theorem c_IN (C : Cx p m c cc nL s args own g) (ok : NOK own idx y bytes maxL none n) (hy1 : y.name = "<init>") (hs : Cond.instanceMethod y ∈ wsL_law) {Qc : Array Value → State → Outcome → State → Prop} {free : Addr → Prop} (hM : Met l y (.code y bytes maxL none :: wsL_law) rm (mP g (.ref b :: As) P) Qc rm.cells rm.slots free) (hR : rm.frames + 1 ≤ R.frames ∧ 8 + (maxL + 11) + rm.locals ≤ R.locals)
    (hp : P H) (hls : ls.size = nL) (hn : As.length = n) (hst : st0 = As.reverse ++ .ref b :: rest) (hroom : (rest.map fun v => v.category).sum ≤ 8) (hdg : decode cc pc = .ok (.invokespecial idx, 3)) (hf : cells + rm.cells ≤ R.cells ∧ slots + rm.slots ≤ R.slots) :
    va_Run p l e R s m args below meth c H locs cells slots rm.cells rm.slots (F0 m pc ls st0) rest (Qc (Value.ref b :: As).toArray) free :=
  va_runIN (As := As) (rest := rest) (host := "TrialBook") C.1 hM ⟨va_cnB n C.1.2.2.2.2 ok.good rfl rfl rfl (C.2.2.1 _ ok.1) (C.1.2.2.2.2 _ ok.2.1) ok.2.2.2 hR, hy1, C.1.2.2.2.2 _ hs⟩ ⟨mP_blind, fun U hU hW => ⟨rfl, by rw [hU]; exact hp, C.2.warm hW⟩⟩ rfl hn hls hst (lv_room hroom) hdg hf
/-- a constructor's call, public link -/
def IOK (own : String) (idx : Nat) (y : MethodName) (b : ByteArray) (maxL : Nat) (n : Nat) : Prop :=
  Cond.methodLink own idx y ∈ wsL_law ∧ Cond.instanceMethod y ∈ wsL_law ∧ Cond.initialized y.cls ∈ wsL_law ∧ Cond.code y b maxL none ∈ wsL_law ∧ y.name = "<init>" ∧ y.cls ≠ "java/lang/invoke/MethodHandle" ∧ y.cls ≠ "java/lang/invoke/VarHandle" ∧ (parseMethodDescriptor y.desc).map (fun d => d.parameters.length) = some n
theorem c_I (C : Cx p m c cc nL s args own g) (ok : IOK own idx y bytes maxL n) {Qc : Array Value → State → Outcome → State → Prop} {free : Addr → Prop} (hM : Met l y (.code y bytes maxL none :: wsL_law) rm (mP g (.ref b :: As) P) Qc rm.cells rm.slots free) (hR : rm.frames + 1 ≤ R.frames ∧ 8 + (maxL + 11) + rm.locals ≤ R.locals)
    (hp : P H) (hls : ls.size = nL) (hn : As.length = n) (hst : st0 = As.reverse ++ .ref b :: rest) (hroom : (rest.map fun v => v.category).sum ≤ 8) (hdg : decode cc pc = .ok (.invokespecial idx, 3)) (hf : cells + rm.cells ≤ R.cells ∧ slots + rm.slots ≤ R.slots) :
    va_Run p l e R s m args below meth c H locs cells slots rm.cells rm.slots (F0 m pc ls st0) rest (Qc (Value.ref b :: As).toArray) free :=
  va_runI (As := As) (rest := rest) C.1 hM (cwI n C.1.2.2.2.2 (fun w hw => by
    rcases List.mem_cons.mp hw with rfl | hw
    · exact gSelf _ ok.2.2.2.1
    · exact gSelf _ hw) rfl rfl rfl (C.1.2.2.2.2 _ ok.2.2.1) (C.1.2.2.2.2 _ ok.1) (C.1.2.2.2.2 _ ok.2.1) ok.2.2.2.2.1 ok.2.2.2.2.2 hR) ⟨mP_blind, fun U hU hW => ⟨rfl, by rw [hU]; exact hp, C.2.warm hW⟩⟩ rfl hn hls hst (lv_room hroom) hdg hf
/-- behind a call that changes nothing -/
theorem k_i {post : Int32 → Prop} {a : Array Value} (hr : va_Run p l e R s m args below meth c H locs cells slots 0 0 (F0 m pc ls st0) rest (vp_Si post a) (fun _ => False))
    (kk : ∀ r : Int32, post r → W p l e R s m args below meth c H locs cells slots Q (F0 m (pc + 3) ls (.int r :: rest))) : W p l e R s m args below meth c H locs cells slots Q (F0 m pc ls st0) := by
  intro T hT X
  obtain ⟨v, st₀, t, T', L, h0, X', hL, e1, -, ⟨r, hv, hp, hh⟩, st⟩ := hr T hT X
  cases hv
  obtain ⟨t2, a1, b1⟩ := kk r hp T' (by rw [e1, hh, h0]) (Stand.forget X' (fun q h => (hL q h).elim))
  exact ⟨t2, st t2 a1, b1⟩
theorem k_l {post : Int64 → Prop} {a : Array Value} (hr : va_Run p l e R s m args below meth c H locs cells slots 0 0 (F0 m pc ls st0) rest (vp_Sl post a) (fun _ => False))
    (kk : ∀ r : Int64, post r → W p l e R s m args below meth c H locs cells slots Q (F0 m (pc + 3) ls (.long r :: rest))) : W p l e R s m args below meth c H locs cells slots Q (F0 m pc ls st0) := by
  intro T hT X
  obtain ⟨v, st₀, t, T', L, h0, X', hL, e1, -, ⟨r, hv, hp, hh⟩, st⟩ := hr T hT X
  cases hv
  obtain ⟨t2, a1, b1⟩ := kk r hp T' (by rw [e1, hh, h0]) (Stand.forget X' (fun q h => (hL q h).elim))
  exact ⟨t2, st t2 a1, b1⟩
theorem k_q {post : Option Nat → Prop} {a : Array Value} (hr : va_Run p l e R s m args below meth c H locs cells slots 0 0 (F0 m pc ls st0) rest (va_Sq post a) (fun _ => False))
    (kk : ∀ r : Option Nat, post r → W p l e R s m args below meth c H locs cells slots Q (F0 m (pc + 3) ls (va_rf r :: rest))) : W p l e R s m args below meth c H locs cells slots Q (F0 m pc ls st0) := by
  intro T hT X
  obtain ⟨v, st₀, t, T', L, h0, X', hL, e1, -, ⟨r, hv, hp, hh⟩, st⟩ := hr T hT X
  cases hv
  obtain ⟨t2, a1, b1⟩ := kk r hp T' (by rw [e1, hh, h0]) (Stand.forget X' (fun q h => (hL q h).elim))
  exact ⟨t2, st t2 a1, b1⟩
/-- behind a call that changes cells of A alone -/
theorem k_w {A A0 : Nat → Prop} {H0 : Heap} {X : Option Value → Heap → Prop} {a : Array Value} {mc ms : Nat} (hr : va_Run p l e R s m args below meth c H locs cells slots mc ms (F0 m pc ls st0) rest (mQ A X a) A) (hS : va_S A0 H0 H locs) (hA : ∀ q, A q → A0 q)
    (kk : ∀ (v : Option Value) (H1 : Heap) (locs1 : List Loc), X v H1 → H.size ≤ H1.size → (∀ q : Nat, q < H.size → ¬ A q → H1[q]? = H[q]?) → va_S A0 H0 H1 locs1 → W p l e R s m args below meth c H1 locs1 (cells + mc) (slots + ms) Q (F0 m (pc + 3) ls (v.toList ++ rest))) : W p l e R s m args below meth c H locs cells slots Q (F0 m pc ls st0) := by
  intro T hT Xs
  obtain ⟨v, st₀, t, T', L, h0, X', hL, e1, -, ⟨⟨v', hv, hx⟩, hz, hk⟩, st⟩ := hr T hT Xs
  cases hv
  rw [h0] at hz hk
  obtain ⟨t2, a1, b1⟩ := kk v T'.heap (locs ++ L) (by rw [e1]; exact hx) (by rw [e1]; exact hz) (fun q h1 h2 => by rw [e1]; exact hk q h1 h2)
    ⟨Nat.le_trans hS.1 (by rw [e1]; exact hz), fun q h1 h2 => by rw [e1, hk q (Nat.lt_of_lt_of_le h1 hS.1) (fun z => h2 (hA q z))]; exact hS.2.1 q h1 h2, fun q hq => by
      rcases List.mem_append.mp hq with h | h
      · exact hS.2.2 q h
      · exact hA _ (hL q h)⟩ T' rfl X'
  exact ⟨t2, st t2 a1, b1⟩
/-- the ends of methods that change nothing -/
theorem r_i (C : Cx p m c cc nL s args own g) (hr : meth.sig.returnType = some .int) (hlk : meth.locks = false) {post : Int32 → Prop} {v : Int32} (hp : post v) (hdg : decode cc pc = .ok (.ireturn, 1)) : W p l e R s m args below meth c s.heap [] 0 0 (MQ below (vp_Si post) args s 0 0 (fun _ => False)) (F0 m pc ls [.int v]) :=
  W.iret C.1.1 C.1.2.1 hr (fun _ ht _ => ⟨v, rfl, hp, ht⟩) (fun _ h => by cases h) hdg hlk
theorem r_z (C : Cx p m c cc nL s args own g) (hr : meth.sig.returnType = some .boolean) (hlk : meth.locks = false) {post : Int32 → Prop} {v : Int32} (hv : v = 0 ∨ v = 1) (hp : post v) (hdg : decode cc pc = .ok (.ireturn, 1)) : W p l e R s m args below meth c s.heap [] 0 0 (MQ below (vp_Si post) args s 0 0 (fun _ => False)) (F0 m pc ls [.int v]) :=
  W.zret C.1.1 C.1.2.1 hr (by rcases hv with rfl | rfl <;> rfl) (fun _ ht _ => ⟨v, rfl, hp, ht⟩) (fun _ h => by cases h) hdg hlk
theorem r_l (C : Cx p m c cc nL s args own g) (hr : meth.sig.returnType = some .long) (hlk : meth.locks = false) {post : Int64 → Prop} {v : Int64} (hp : post v) (hdg : decode cc pc = .ok (.lreturn, 1)) : W p l e R s m args below meth c s.heap [] 0 0 (MQ below (vp_Sl post) args s 0 0 (fun _ => False)) (F0 m pc ls [.long v]) :=
  W.lret C.1.1 C.1.2.1 hr (fun _ ht _ => ⟨v, rfl, hp, ht⟩) (fun _ h => by cases h) hdg hlk
theorem r_q (C : Cx p m c cc nL s args own g) {cn : String} (hr : meth.sig.returnType = some (.object cn)) (hlk : meth.locks = false) {post : Option Nat → Prop} {v : Option Nat} (hp : post v) (hdg : decode cc pc = .ok (.areturn, 1)) : W p l e R s m args below meth c s.heap [] 0 0 (MQ below (va_Sq post) args s 0 0 (fun _ => False)) (F0 m pc ls [va_rf v]) :=
  W.aret C.1.1 C.1.2.1 hr (Or.inl ⟨cn, rfl⟩) (va_rf_or v) (fun _ ht _ => ⟨v, rfl, hp, ht⟩) (fun _ h => by cases h) hdg hlk
/-- the ends of methods that change cells of A -/
theorem r_wi (C : Cx p m c cc nL s args own g) (hr : meth.sig.returnType = some .int) (hlk : meth.locks = false) {A : Nat → Prop} {X : Option Value → Heap → Prop} {v : Int32} (hS : va_S A s.heap H locs) (hp : X (some (.int v)) H) (hdg : decode cc pc = .ok (.ireturn, 1)) : W p l e R s m args below meth c H locs cells slots (MQ below (mQ A X) args s cells slots A) (F0 m pc ls [.int v]) :=
  W.iret C.1.1 C.1.2.1 hr (fun _ ht _ => ⟨⟨_, rfl, by rw [ht]; exact hp⟩, hS.F ht⟩) hS.2.2 hdg hlk
theorem r_wz (C : Cx p m c cc nL s args own g) (hr : meth.sig.returnType = some .boolean) (hlk : meth.locks = false) {A : Nat → Prop} {X : Option Value → Heap → Prop} {v : Int32} (hv : v = 0 ∨ v = 1) (hS : va_S A s.heap H locs) (hp : X (some (.int v)) H) (hdg : decode cc pc = .ok (.ireturn, 1)) : W p l e R s m args below meth c H locs cells slots (MQ below (mQ A X) args s cells slots A) (F0 m pc ls [.int v]) :=
  W.zret C.1.1 C.1.2.1 hr (by rcases hv with rfl | rfl <;> rfl) (fun _ ht _ => ⟨⟨_, rfl, by rw [ht]; exact hp⟩, hS.F ht⟩) hS.2.2 hdg hlk
theorem r_wv (C : Cx p m c cc nL s args own g) (hr : meth.sig.returnType = none) (hlk : meth.locks = false) {A : Nat → Prop} {X : Option Value → Heap → Prop} (hS : va_S A s.heap H locs) (hp : X none H) (hdg : decode cc pc = .ok (.return_, 1)) : W p l e R s m args below meth c H locs cells slots (MQ below (mQ A X) args s cells slots A) (F0 m pc ls []) :=
  W.vret C.1.1 C.1.2.1 hr (fun _ ht _ => ⟨⟨_, rfl, by rw [ht]; exact hp⟩, hS.F ht⟩) hS.2.2 hdg hlk
end LY

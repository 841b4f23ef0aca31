/-! THE REFERENCE: takes, and the small writers -/
def TK (α β : Nat → Nat → Int32) (φ : Nat → Int32) (r f L : Nat) (br sd ck b21 b22 : Bool) : Prop :=
  (∀ k, k ≠ 13 → k ≠ 14 → k ≠ 15 → k ≠ 18 → k ≠ 19 → k ≠ 20 → k ≠ 21 → k ≠ 22 → β k = α k)
  ∧ (∀ q, q ≠ r → β 13 q = α 13 q ∧ β 15 q = α 15 q ∧ β 18 q = α 18 q ∧ β 19 q = α 19 q ∧ β 21 q = α 21 q ∧ β 22 q = α 22 q)
  ∧ (β 13 r = nI L ∧ β 15 r = bI br ∧ β 18 r = α 18 r ||| φ 26 ∧ β 19 r = α 19 r ||| φ 27 ∧ β 21 r = bI (b21 || sd) ∧ β 22 r = bI (b22 || ck))
  ∧ (∀ t, f ≤ t → t < L → β 14 (16 * r + t) = α 23 t) ∧ (∀ q, (∀ t, f ≤ t → t < L → q ≠ 16 * r + t) → β 14 q = α 14 q)
  ∧ (∀ i, i < 8 → β 20 (8 * r + i) = if hasB (φ 27) i then α 3 i else α 20 (8 * r + i)) ∧ (∀ q, (∀ i, i < 8 → q ≠ 8 * r + i) → β 20 q = α 20 q)
set_option maxHeartbeats 4000000 in
set_option maxRecDepth 100000 in
theorem c5_takes (l : Launch) (g : GG) (h : Nat) (ad : Nat → Nat) (φ : Nat → Int32) (α : Nat → Nat → Int32) (hD : wD (wA g h ad) g h ad) (r f L : Nat) (br sd ck b21 b22 : Bool) (hr0 : r < 40) (hL : L ≤ 16) (hfL : f ≤ L) (e24 : φ 24 = nI L) (e25 : φ 25 = bI br) (e28 : φ 28 = bI sd) (e29 : φ 29 = bI ck) (a21 : α 21 r = bI b21) (a22 : α 22 r = bI b22) : Met l yX5_takes (.code yX5_takes cX5_takes 4 none :: wsL_law) ({ frames := 0, cells := 0, slots := 0, locals := 0 } : Room) (mP g [.ref (h), .int (nI (r)), .int (nI (f))] (fun H => va_P g.1 vwCl (wM g h ad φ α) H)) (mQ (wA g h ad) (fun z H => z = none ∧ ∃ β : Nat → Nat → Int32, va_P g.1 vwCl (wM g h ad φ β) H ∧ TK α β φ r f L br sd ck b21 b22)) 0 0 (wA g h ad) := by
  refine mMet (by decide) (Nat.le_of_ble_eq_true rfl) ?_
  intro p e s m below meth c C hr hlk hnm hM ls hl
  have hx := C.1.1
  have hb := C.1.2.1
  have hl : lv_has ls 4 [(0, .ref (h)), (1, .int (nI (r))), (2, .int (nI (f)))] := hl
  have hS : va_S (wA g h ad) s.heap s.heap [] := va_S.rf
  refine lv_iload_n hx hb dX5_takes_0 rfl (lv_at hl 2 rfl) ?_
  refine lv_istore_n (lv' := [(3, .int (nI (f))), (0, .ref (h)), (1, .int (nI (r))), (2, .int (nI (f)))]) hx hb dX5_takes_1 rfl hl (by decide) rfl (fun ls hl => ?_)
  have la : ∀ (n_la : Nat) (t : Nat) (β : Nat → Nat → Int32) (H : Heap) (locs : List Loc) (ls : Array Slot), (f ≤ t) → (t ≤ L) → (L + 1 ≤ t + n_la) → (va_P g.1 vwCl (wM g h ad φ β) H) → (va_S (wA g h ad) s.heap H locs) → (∀ k, k ≠ 14 → β k = α k) → (∀ j, f ≤ j → j < t → β 14 (16 * r + j) = α 23 j) → (∀ q, (∀ j, f ≤ j → j < t → q ≠ 16 * r + j) → β 14 q = α 14 q) → lv_has ls 4 [(0, .ref (h)), (1, .int (nI (r))), (2, .int (nI (f))), (3, .int (nI (t)))] → W p l e ({ frames := 0, cells := 0, slots := 0, locals := 0 } : Room) s m ([.ref (h), .int (nI (r)), .int (nI (f))] : List Value).toArray below meth c H locs 0 0 (MQ below (mQ (wA g h ad) (fun z H => z = none ∧ ∃ β : Nat → Nat → Int32, va_P g.1 vwCl (wM g h ad φ β) H ∧ TK α β φ r f L br sd ck b21 b22)) (([.ref (h), .int (nI (r)), .int (nI (f))] : List Value).toArray) s 0 0 (wA g h ad)) (F0 m 2 ls []) := by
    intro n_la
    induction n_la with
    | zero =>
      intro t β H locs ls ht0 ht1 hnla hM hS hbe hin hou
      exact absurd hnla (by omega)
    | succ n_la ih_la =>
      intro t β H locs ls ht0 ht1 hnla hM hS hbe hin hou hl
      refine lv_iload_n hx hb dX5_takes_2 rfl (lv_at hl 3 rfl) ?_
      refine lv_aload_n hx hb dX5_takes_3 rfl (lv_at hl 0 rfl) ?_
      refine q_get C f_X5_115 hM 0 rw_0 ro_24 dX5_takes_4 ?_
      refine w_topi (y := (nI (L))) (e24) ?_
      refine n_icmp_ge (tgt := 33) C (by omega) (by omega) dX5_takes_7 (by decide) (fun c7 => ?_) (fun c7 => ?_)
      · skip
        refine lv_aload_n hx hb dX5_takes_33 rfl (lv_at hl 0 rfl) ?_
        refine q_get C f_X5_40 hM 0 rw_0 ro_13 dX5_takes_34 ?_
        refine lv_iload_n hx hb dX5_takes_37 rfl (lv_at hl 1 rfl) ?_
        refine lv_aload_n hx hb dX5_takes_38 rfl (lv_at hl 0 rfl) ?_
        refine q_get C f_X5_115 hM 0 rw_0 ro_24 dX5_takes_39 ?_
        refine w_topi (y := (nI (L))) (e24) ?_
        refine ra_13 C hM hD hS (by omega) dX5_takes_42 (fun H locs hM hS => ?_)
        refine lv_aload_n hx hb dX5_takes_43 rfl (lv_at hl 0 rfl) ?_
        refine q_get C f_X5_46 hM 0 rw_0 ro_15 dX5_takes_44 ?_
        refine lv_iload_n hx hb dX5_takes_47 rfl (lv_at hl 1 rfl) ?_
        refine lv_aload_n hx hb dX5_takes_48 rfl (lv_at hl 0 rfl) ?_
        refine q_get C f_X5_118 hM 0 rw_0 ro_25 dX5_takes_49 ?_
        refine w_topi (y := (bI (br))) (e25) ?_
        refine ra_15 C hM hD hS (by omega) (by first | exact Or.inl rfl | exact Or.inr rfl | exact bI_or _ | assumption) dX5_takes_52 (fun H locs hM hS => ?_)
        refine lv_aload_n hx hb dX5_takes_53 rfl (lv_at hl 0 rfl) ?_
        refine q_get C f_X5_56 hM 0 rw_0 ro_18 dX5_takes_54 ?_
        refine lv_iload_n hx hb dX5_takes_57 rfl (lv_at hl 1 rfl) ?_
        refine lv_aload_n hx hb dX5_takes_58 rfl (lv_at hl 0 rfl) ?_
        refine q_get C f_X5_56 hM 0 rw_0 ro_18 dX5_takes_59 ?_
        refine lv_iload_n hx hb dX5_takes_62 rfl (lv_at hl 1 rfl) ?_
        refine n_iald C hM 16 rw_18 (by omega) (by decide) dX5_takes_63 ?_
        refine w_topi (y := (α 18 r)) (congrFun (hbe 18 (by decide)) r) ?_
        refine lv_aload_n hx hb dX5_takes_64 rfl (lv_at hl 0 rfl) ?_
        refine q_get C f_X5_93 hM 0 rw_0 ro_26 dX5_takes_65 ?_
        refine lv_ior hx hb dX5_takes_68 ?_
        refine ra_18 C hM hD hS (by omega) dX5_takes_69 (fun H locs hM hS => ?_)
        have j1 : ∀ (w : Bool) (ls : Array Slot), (w = (b21 || sd)) → lv_has ls 4 [(0, .ref (h)), (1, .int (nI (r))), (2, .int (nI (f))), (3, .int (nI (t)))] → W p l e ({ frames := 0, cells := 0, slots := 0, locals := 0 } : Room) s m ([.ref (h), .int (nI (r)), .int (nI (f))] : List Value).toArray below meth c H locs 0 0 (MQ below (mQ (wA g h ad) (fun z H => z = none ∧ ∃ β : Nat → Nat → Int32, va_P g.1 vwCl (wM g h ad φ β) H ∧ TK α β φ r f L br sd ck b21 b22)) (([.ref (h), .int (nI (r)), .int (nI (f))] : List Value).toArray) s 0 0 (wA g h ad)) (F0 m 96 ls [.int (bI (w)), .int (nI (r)), .ref (ad 21)]) := by
          intro w ls hw hl
          refine ra_21 C hM hD hS (by omega) (by first | exact Or.inl rfl | exact Or.inr rfl | exact bI_or _ | assumption) dX5_takes_96 (fun H locs hM hS => ?_)
          have j2 : ∀ (v : Bool) (ls : Array Slot), (v = (b22 || ck)) → lv_has ls 4 [(0, .ref (h)), (1, .int (nI (r))), (2, .int (nI (f))), (3, .int (nI (t)))] → W p l e ({ frames := 0, cells := 0, slots := 0, locals := 0 } : Room) s m ([.ref (h), .int (nI (r)), .int (nI (f))] : List Value).toArray below meth c H locs 0 0 (MQ below (mQ (wA g h ad) (fun z H => z = none ∧ ∃ β : Nat → Nat → Int32, va_P g.1 vwCl (wM g h ad φ β) H ∧ TK α β φ r f L br sd ck b21 b22)) (([.ref (h), .int (nI (r)), .int (nI (f))] : List Value).toArray) s 0 0 (wA g h ad)) (F0 m 123 ls [.int (bI (v)), .int (nI (r)), .ref (ad 22)]) := by
            intro v ls hv hl
            refine ra_22 C hM hD hS (by omega) (by first | exact Or.inl rfl | exact Or.inr rfl | exact bI_or _ | assumption) dX5_takes_123 (fun H locs hM hS => ?_)
            obtain ⟨β0, hβ0⟩ : ∃ b : Nat → Nat → Int32, b = (aset (aset (aset (aset (aset β 13 r (nI (L))) 15 r (bI (br))) 18 r ((α 18 r) ||| (φ 26))) 21 r (bI (w))) 22 r (bI (v))) := ⟨_, rfl⟩
            rw [← hβ0] at hM
            have b0n : ∀ k, k ≠ 13 → k ≠ 15 → k ≠ 18 → k ≠ 21 → k ≠ 22 → β0 k = β k := fun k h1 h2 h3 h4 h5 => by rw [hβ0]; simp [aset, h1, h2, h3, h4, h5]
            have b0r : β0 13 r = nI L ∧ β0 15 r = bI br ∧ β0 18 r = α 18 r ||| φ 26 ∧ β0 21 r = bI w ∧ β0 22 r = bI v := by rw [hβ0]; simp [aset, upd]
            have b0o : ∀ q, q ≠ r → β0 13 q = β 13 q ∧ β0 15 q = β 15 q ∧ β0 18 q = β 18 q ∧ β0 21 q = β 21 q ∧ β0 22 q = β 22 q := fun q hq => by rw [hβ0]; simp [aset, upd, hq]
            refine lv_iconst (v := nI 0) hx hb dX5_takes_124 (by decide) ?_
            refine lv_istore_n (lv' := [(3, .int (nI (0))), (0, .ref (h)), (1, .int (nI (r))), (2, .int (nI (f)))]) hx hb dX5_takes_125 rfl hl (by decide) rfl (fun ls hl => ?_)
            have lb : ∀ (n_lb : Nat) (i : Nat) (β2 : Nat → Nat → Int32) (H : Heap) (locs : List Loc) (ls : Array Slot), (i ≤ 8) → (8 + 1 ≤ i + n_lb) → (va_P g.1 vwCl (wM g h ad φ β2) H) → (va_S (wA g h ad) s.heap H locs) → (∀ k, k ≠ 20 → β2 k = β0 k) → (∀ j, j < i → β2 20 (8 * r + j) = if hasB (φ 27) j then α 3 j else α 20 (8 * r + j)) → (∀ q, (∀ j, j < i → q ≠ 8 * r + j) → β2 20 q = α 20 q) → lv_has ls 4 [(0, .ref (h)), (1, .int (nI (r))), (2, .int (nI (f))), (3, .int (nI (i)))] → W p l e ({ frames := 0, cells := 0, slots := 0, locals := 0 } : Room) s m ([.ref (h), .int (nI (r)), .int (nI (f))] : List Value).toArray below meth c H locs 0 0 (MQ below (mQ (wA g h ad) (fun z H => z = none ∧ ∃ β : Nat → Nat → Int32, va_P g.1 vwCl (wM g h ad φ β) H ∧ TK α β φ r f L br sd ck b21 b22)) (([.ref (h), .int (nI (r)), .int (nI (f))] : List Value).toArray) s 0 0 (wA g h ad)) (F0 m 126 ls []) := by
              intro n_lb
              induction n_lb with
              | zero =>
                intro i β2 H locs ls hi hnlb hM hS h2e hin2 hou2
                exact absurd hnlb (by omega)
              | succ n_lb ih_lb =>
                intro i β2 H locs ls hi hnlb hM hS h2e hin2 hou2 hl
                refine lv_iload_n hx hb dX5_takes_126 rfl (lv_at hl 3 rfl) ?_
                refine lv_bipush (v := nI 8) hx hb dX5_takes_127 (by decide) ?_
                refine n_icmp_ge (tgt := 169) C (by omega) (by omega) dX5_takes_129 (by decide) (fun c129 => ?_) (fun c129 => ?_)
                · skip
                  refine lv_aload_n hx hb dX5_takes_169 rfl (lv_at hl 0 rfl) ?_
                  refine q_get C f_X5_59 hM 0 rw_0 ro_19 dX5_takes_170 ?_
                  refine lv_iload_n hx hb dX5_takes_173 rfl (lv_at hl 1 rfl) ?_
                  refine lv_aload_n hx hb dX5_takes_174 rfl (lv_at hl 0 rfl) ?_
                  refine q_get C f_X5_59 hM 0 rw_0 ro_19 dX5_takes_175 ?_
                  refine lv_iload_n hx hb dX5_takes_178 rfl (lv_at hl 1 rfl) ?_
                  refine n_iald C hM 17 rw_19 (by omega) (by decide) dX5_takes_179 ?_
                  refine w_topi (y := (α 19 r)) ((congrFun ((h2e 19 (by decide)).trans ((b0n 19 (by decide) (by decide) (by decide) (by decide) (by decide)).trans (hbe 19 (by decide)))) r)) ?_
                  refine lv_aload_n hx hb dX5_takes_180 rfl (lv_at hl 0 rfl) ?_
                  refine q_get C f_X5_103 hM 0 rw_0 ro_27 dX5_takes_181 ?_
                  refine lv_ior hx hb dX5_takes_184 ?_
                  refine ra_19 C hM hD hS (by omega) dX5_takes_185 (fun H locs hM hS => ?_)
                  exact r_wv C hr hlk hS (⟨rfl, _, hM, ⟨fun k h1 h2 h3 h4 h5 h6 h7 h8 => by rw [asetN _ _ _ h5, h2e k h6, b0n k h1 h3 h4 h7 h8, hbe k h2], fun q hq => by
                                    have z := b0o q hq
                                    rw [asetN _ _ _ (by decide : 13 ≠ 19), asetN _ _ _ (by decide : 15 ≠ 19), asetN _ _ _ (by decide : 18 ≠ 19), asetO _ _ _ hq, asetN _ _ _ (by decide : 21 ≠ 19), asetN _ _ _ (by decide : 22 ≠ 19), h2e 13 (by decide), h2e 15 (by decide), h2e 18 (by decide), h2e 19 (by decide), h2e 21 (by decide), h2e 22 (by decide), z.1, z.2.1, z.2.2.1, z.2.2.2.1, z.2.2.2.2, b0n 19 (by decide) (by decide) (by decide) (by decide) (by decide) , hbe 13 (by decide), hbe 15 (by decide), hbe 18 (by decide), hbe 19 (by decide), hbe 21 (by decide), hbe 22 (by decide)]
                                    exact ⟨rfl, rfl, rfl, rfl, rfl, rfl⟩, by
                                    rw [asetV, asetN _ _ _ (by decide : 13 ≠ 19), asetN _ _ _ (by decide : 15 ≠ 19), asetN _ _ _ (by decide : 18 ≠ 19), asetN _ _ _ (by decide : 21 ≠ 19), asetN _ _ _ (by decide : 22 ≠ 19), h2e 13 (by decide), h2e 15 (by decide), h2e 18 (by decide), h2e 21 (by decide), h2e 22 (by decide), b0r.1, b0r.2.1, b0r.2.2.1, b0r.2.2.2.1, b0r.2.2.2.2, hw, hv]
                                    exact ⟨rfl, rfl, rfl, rfl, rfl, rfl⟩, fun j h1 h2 => by rw [asetN _ _ _ (by decide : 14 ≠ 19), h2e 14 (by decide), b0n 14 (by decide) (by decide) (by decide) (by decide) (by decide) ]; exact hin j h1 (by omega), fun q hq => by rw [asetN _ _ _ (by decide : 14 ≠ 19), h2e 14 (by decide), b0n 14 (by decide) (by decide) (by decide) (by decide) (by decide) ]; exact hou q (fun j h1 h2 => hq j h1 (by omega)), fun j hj => by rw [asetN _ _ _ (by decide : 20 ≠ 19)]; exact hin2 j (by omega), fun q hq => by rw [asetN _ _ _ (by decide : 20 ≠ 19)]; exact hou2 q (fun j hj => hq j (by omega))⟩⟩) dX5_takes_186
                · skip
                  refine lv_aload_n hx hb dX5_takes_132 rfl (lv_at hl 0 rfl) ?_
                  refine q_get C f_X5_103 hM 0 rw_0 ro_27 dX5_takes_133 ?_
                  refine lv_iload_n hx hb dX5_takes_136 rfl (lv_at hl 3 rfl) ?_
                  refine lv_ishr hx hb dX5_takes_137 ?_
                  refine lv_iconst (v := 1) hx hb dX5_takes_138 (by decide) ?_
                  refine lv_iand hx hb dX5_takes_139 ?_
                  refine lv_if_ne (tgt := 146) hx hb dX5_takes_140 (by decide) (fun c140 => ?_) (fun c140 => ?_)
                  · skip
                    refine lv_aload_n hx hb dX5_takes_146 rfl (lv_at hl 0 rfl) ?_
                    refine q_get C f_X5_62 hM 0 rw_0 ro_20 dX5_takes_147 ?_
                    refine lv_bipush (v := nI 8) hx hb dX5_takes_150 (by decide) ?_
                    refine lv_iload_n hx hb dX5_takes_152 rfl (lv_at hl 1 rfl) ?_
                    refine n_imul C dX5_takes_153 ?_
                    refine lv_iload_n hx hb dX5_takes_154 rfl (lv_at hl 3 rfl) ?_
                    refine n_iadd C dX5_takes_155 ?_
                    refine lv_aload_n hx hb dX5_takes_156 rfl (lv_at hl 0 rfl) ?_
                    refine q_get C f_X5_16 hM 0 rw_0 ro_3 dX5_takes_157 ?_
                    refine lv_iload_n hx hb dX5_takes_160 rfl (lv_at hl 3 rfl) ?_
                    refine n_iald C hM 3 rw_3 (by omega) (by decide) dX5_takes_161 ?_
                    refine w_topi (y := (α 3 i)) ((congrFun ((h2e 3 (by decide)).trans ((b0n 3 (by decide) (by decide) (by decide) (by decide) (by decide)).trans (hbe 3 (by decide)))) i)) ?_
                    refine ra_20 C hM hD hS (by omega) dX5_takes_162 (fun H locs hM hS => ?_)
                    refine n_iinc (d := 1) (lv' := [(3, .int (nI (i + 1))), (0, .ref (h)), (1, .int (nI (r))), (2, .int (nI (f)))]) C dX5_takes_163 (by decide) hl (k := 3) rfl (by decide) rfl (fun ls hl => ?_)
                    refine lv_goto (tgt := 126) hx hb dX5_takes_166 (by decide) ?_
                    exact ih_lb (i + 1) ((aset β2 20 ((8 * r) + i) (α 3 i))) (H) (locs) ls (by omega) (by omega) (hM) (hS) (fun k hk1 => (asetN _ _ _ hk1).trans (h2e k hk1)) (fun j h1 => by
                               rcases Nat.lt_or_ge j i with h3 | h3
                               · rw [asetO _ _ _ (by omega)]; exact hin2 j h3
                               · rw [show j = i by omega, asetV, bit0t c140, if_pos rfl]) (fun q hq => (asetO _ _ _ (hq i (by omega))).trans (hou2 q (fun j h1 => hq j (by omega)))) (lv_sub hl [1, 2, 3, 0] rfl)
                  · skip
                    refine lv_goto (tgt := 163) hx hb dX5_takes_143 (by decide) ?_
                    refine n_iinc (d := 1) (lv' := [(3, .int (nI (i + 1))), (0, .ref (h)), (1, .int (nI (r))), (2, .int (nI (f)))]) C dX5_takes_163 (by decide) hl (k := 3) rfl (by decide) rfl (fun ls hl => ?_)
                    refine lv_goto (tgt := 126) hx hb dX5_takes_166 (by decide) ?_
                    exact ih_lb (i + 1) (β2) (H) (locs) ls (by omega) (by omega) (hM) (hS) (h2e) (fun j h1 => by
                               rcases Nat.lt_or_ge j i with h3 | h3
                               · exact hin2 j h3
                               · rw [show j = i by omega, bit0f c140, hou2 _ (fun j h1 => by omega)]; rfl) (fun q hq => hou2 q (fun j h1 => hq j (by omega))) (lv_sub hl [1, 2, 3, 0] rfl)
            exact lb (9) (0) (β0) (H) (locs) ls (by omega) (by omega) (hM) (hS) (fun _ _ => rfl) (fun j h1 => absurd h1 (by omega)) (fun q _ => by rw [b0n 20 (by decide) (by decide) (by decide) (by decide) (by decide), hbe 20 (by decide)]) (lv_sub hl [1, 2, 3, 0] rfl)
          refine lv_aload_n hx hb dX5_takes_97 rfl (lv_at hl 0 rfl) ?_
          refine q_get C f_X5_68 hM 0 rw_0 ro_22 dX5_takes_98 ?_
          refine lv_iload_n hx hb dX5_takes_101 rfl (lv_at hl 1 rfl) ?_
          refine lv_aload_n hx hb dX5_takes_102 rfl (lv_at hl 0 rfl) ?_
          refine q_get C f_X5_68 hM 0 rw_0 ro_22 dX5_takes_103 ?_
          refine lv_iload_n hx hb dX5_takes_106 rfl (lv_at hl 1 rfl) ?_
          refine n_zald C hM 20 rw_22 (by omega) (by decide) dX5_takes_107 ?_
          refine w_topi (y := (bI (b22))) ((congrFun (hbe 22 (by decide)) r).trans a22) ?_
          refine b_ifne (tgt := 118) C dX5_takes_108 (by decide) (fun c108 => ?_) (fun c108 => ?_)
          · skip
            refine lv_iconst (v := bI true) hx hb dX5_takes_118 (by decide) ?_
            refine lv_goto (tgt := 123) hx hb dX5_takes_119 (by decide) ?_
            exact j2 (true) ls (by rw [c108]; rfl) (lv_sub hl [0, 1, 2, 3] rfl)
          · skip
            refine lv_aload_n hx hb dX5_takes_111 rfl (lv_at hl 0 rfl) ?_
            refine q_get C f_X5_106 hM 0 rw_0 ro_29 dX5_takes_112 ?_
            refine w_topi (y := (bI (ck))) (e29) ?_
            refine b_ifeq (tgt := 122) C dX5_takes_115 (by decide) (fun c115 => ?_) (fun c115 => ?_)
            · skip
              refine lv_iconst (v := bI false) hx hb dX5_takes_122 (by decide) ?_
              exact j2 (false) ls (by rw [c108, c115]; rfl) (lv_sub hl [0, 1, 2, 3] rfl)
            · skip
              refine lv_iconst (v := bI true) hx hb dX5_takes_118 (by decide) ?_
              refine lv_goto (tgt := 123) hx hb dX5_takes_119 (by decide) ?_
              exact j2 (true) ls (by rw [c108, c115]; rfl) (lv_sub hl [0, 1, 2, 3] rfl)
        refine lv_aload_n hx hb dX5_takes_70 rfl (lv_at hl 0 rfl) ?_
        refine q_get C f_X5_65 hM 0 rw_0 ro_21 dX5_takes_71 ?_
        refine lv_iload_n hx hb dX5_takes_74 rfl (lv_at hl 1 rfl) ?_
        refine lv_aload_n hx hb dX5_takes_75 rfl (lv_at hl 0 rfl) ?_
        refine q_get C f_X5_65 hM 0 rw_0 ro_21 dX5_takes_76 ?_
        refine lv_iload_n hx hb dX5_takes_79 rfl (lv_at hl 1 rfl) ?_
        refine n_zald C hM 19 rw_21 (by omega) (by decide) dX5_takes_80 ?_
        refine w_topi (y := (bI (b21))) ((congrFun (hbe 21 (by decide)) r).trans a21) ?_
        refine b_ifne (tgt := 91) C dX5_takes_81 (by decide) (fun c81 => ?_) (fun c81 => ?_)
        · skip
          refine lv_iconst (v := bI true) hx hb dX5_takes_91 (by decide) ?_
          refine lv_goto (tgt := 96) hx hb dX5_takes_92 (by decide) ?_
          exact j1 (true) ls (by rw [c81]; rfl) (lv_sub hl [0, 1, 2, 3] rfl)
        · skip
          refine lv_aload_n hx hb dX5_takes_84 rfl (lv_at hl 0 rfl) ?_
          refine q_get C f_X5_100 hM 0 rw_0 ro_28 dX5_takes_85 ?_
          refine w_topi (y := (bI (sd))) (e28) ?_
          refine b_ifeq (tgt := 95) C dX5_takes_88 (by decide) (fun c88 => ?_) (fun c88 => ?_)
          · skip
            refine lv_iconst (v := bI false) hx hb dX5_takes_95 (by decide) ?_
            exact j1 (false) ls (by rw [c81, c88]; rfl) (lv_sub hl [0, 1, 2, 3] rfl)
          · skip
            refine lv_iconst (v := bI true) hx hb dX5_takes_91 (by decide) ?_
            refine lv_goto (tgt := 96) hx hb dX5_takes_92 (by decide) ?_
            exact j1 (true) ls (by rw [c81, c88]; rfl) (lv_sub hl [0, 1, 2, 3] rfl)
      · skip
        refine lv_aload_n hx hb dX5_takes_10 rfl (lv_at hl 0 rfl) ?_
        refine q_get C f_X5_43 hM 0 rw_0 ro_14 dX5_takes_11 ?_
        refine lv_bipush (v := nI 16) hx hb dX5_takes_14 (by decide) ?_
        refine lv_iload_n hx hb dX5_takes_16 rfl (lv_at hl 1 rfl) ?_
        refine n_imul C dX5_takes_17 ?_
        refine lv_iload_n hx hb dX5_takes_18 rfl (lv_at hl 3 rfl) ?_
        refine n_iadd C dX5_takes_19 ?_
        refine lv_aload_n hx hb dX5_takes_20 rfl (lv_at hl 0 rfl) ?_
        refine q_get C f_X5_71 hM 0 rw_0 ro_23 dX5_takes_21 ?_
        refine lv_iload_n hx hb dX5_takes_24 rfl (lv_at hl 3 rfl) ?_
        refine n_iald C hM 21 rw_23 (by omega) (by decide) dX5_takes_25 ?_
        refine w_topi (y := (α 23 t)) (congrFun (hbe 23 (by decide)) t) ?_
        refine ra_14 C hM hD hS (by omega) dX5_takes_26 (fun H locs hM hS => ?_)
        refine n_iinc (d := 1) (lv' := [(3, .int (nI (t + 1))), (0, .ref (h)), (1, .int (nI (r))), (2, .int (nI (f)))]) C dX5_takes_27 (by decide) hl (k := 3) rfl (by decide) rfl (fun ls hl => ?_)
        refine lv_goto (tgt := 2) hx hb dX5_takes_30 (by decide) ?_
        exact ih_la (t + 1) ((aset β 14 ((16 * r) + t) (α 23 t))) (H) (locs) ls (by omega) (by omega) (by omega) (hM) (hS) (fun k hk1 => (asetN _ _ _ hk1).trans (hbe k hk1)) (fun j h1 h2 => by
                                rcases Nat.lt_or_ge j t with h3 | h3
                                · rw [asetO _ _ _ (by omega)]; exact hin j h1 h3
                                · rw [show j = t by omega, asetV]) (fun q hq => (asetO _ _ _ (hq t (by omega) (by omega))).trans (hou q (fun j h1 h2 => hq j h1 (by omega)))) (lv_sub hl [1, 2, 3, 0] rfl)
  exact la (L + 1) (f) (α) (s.heap) ([]) ls (by omega) (by omega) (by omega) (hM) (hS) (fun _ _ => rfl) (fun j h1 h2 => absurd h2 (by omega)) (fun _ _ => rfl) (lv_sub hl [1, 2, 3, 0] rfl)
def datT (τ : TB) (i v : Int32) : TB := if inR i 0 7 then (tCode τ, upd (tDat τ) i.toNatClampNeg v, tBnd τ, tClk τ, tRuns τ, tClm τ) else τ
def bndT (τ : TB) (i v : Int32) : TB := if inR i 0 3 && inR v 1 6 then (tCode τ, tDat τ, fun j => if j = i.toNatClampNeg then v.toNatClampNeg else tBnd τ j, tClk τ, tRuns τ, tClm τ) else τ
def byteOf (a b : Int32) (i : Nat) : Nat := (if i < 4 then a >>> ((nI (24 - 8 * i)) &&& 31) else b >>> ((nI (56 - 8 * i)) &&& 31)).toBitVec.toNat % 256
def stepsOf (n : Nat) (a b : Int32) : List Nat := (List.range n).map (byteOf a b)
def codT (τ : TB) (k n a b : Int32) : TB := if inR k 0 3 && inR n 0 8 then (fun j => if j = k.toNatClampNeg then stepsOf n.toNatClampNeg a b else tCode τ j, tDat τ, tBnd τ, tClk τ, tRuns τ, tClm τ) else τ
def canClm (τ : TB) (r : Int32) : Bool := inR r 0 (tN τ - 1) && !rBr (tRun τ r.toNatClampNeg) && decide (¬ (tClm τ).length = 20)
def clmT (τ : TB) (r : Int32) : TB := if canClm τ r then (tCode τ, tDat τ, tBnd τ, tClk τ, tRuns τ, tClm τ ++ [r.toNatClampNeg]) else τ
def clmA (τ : TB) (r : Int32) : Int32 := if canClm τ r then nI (tClm τ).length else -1
theorem MdR.setDat {φ : Nat → Int32} {α : Nat → Nat → Int32} {τ : TB} (h : MdR φ α τ) (i : Nat) (v : Int32) : MdR φ (aset α 3 i v) (tCode τ, upd (tDat τ) i v, tBnd τ, tClk τ, tRuns τ, tClm τ) := by
  refine ⟨h.1, h.2.1, h.2.2.1, h.2.2.2.1, h.2.2.2.2.1, fun j hj => ?_, h.2.2.2.2.2.2⟩
  show upd (α 3) i v j = upd (tDat τ) i v j
  simp only [upd]
  split
  · rfl
  · exact h.dat hj
theorem MdR.setBnd {φ : Nat → Int32} {α : Nat → Nat → Int32} {τ : TB} (h : MdR φ α τ) (i v : Nat) : MdR φ (aset α 4 i (nI v)) (tCode τ, tDat τ, fun j => if j = i then v else tBnd τ j, tClk τ, tRuns τ, tClm τ) := by
  refine ⟨h.1, h.2.1, h.2.2.1, h.2.2.2.1, h.2.2.2.2.1, h.2.2.2.2.2.1, fun j hj => ?_, h.2.2.2.2.2.2.2⟩
  show upd (α 4) i (nI v) j = nI (if j = i then v else tBnd τ j)
  simp only [upd]
  split
  · rfl
  · exact h.bnd hj
theorem MdR.setClm {φ : Nat → Int32} {α : Nat → Nat → Int32} {τ : TB} (h : MdR φ α τ) (j : Nat) : MdR (upd φ 35 (nI ((tClm τ).length + 1))) (aset α 36 (tClm τ).length (nI j)) (tCode τ, tDat τ, tBnd τ, tClk τ, tRuns τ, tClm τ ++ [j]) := by
  refine ⟨h.1, h.2.1, ?_, h.2.2.2.1, h.2.2.2.2.1, h.2.2.2.2.2.1, h.2.2.2.2.2.2.1, h.2.2.2.2.2.2.2.1, fun i hi => ?_, h.2.2.2.2.2.2.2.2.2⟩
  · show nI ((tClm τ).length + 1) = nI (tClm τ ++ [j]).length
    rw [List.length_append]; rfl
  · replace hi : i < (tClm τ ++ [j]).length := hi
    rw [List.length_append, List.length_singleton] at hi
    show upd (α 36) (tClm τ).length (nI j) i = nI ((tClm τ ++ [j]).getD i 0)
    rcases Nat.lt_or_ge i (tClm τ).length with h1 | h1
    · rw [pk_un (by omega), h.clm h1, List.getD_eq_getElem?_getD, List.getD_eq_getElem?_getD, List.getElem?_append_left h1]
    · rw [show i = (tClm τ).length by omega, pk_us, List.getD_eq_getElem?_getD, List.getElem?_append_right (Nat.le_refl _)]
      simp
theorem stepsOf_len (n : Nat) (a b : Int32) : (stepsOf n a b).length = n := by simp [stepsOf]
theorem stepsOf_get {n j : Nat} {a b : Int32} (h : j < n) : (stepsOf n a b).getD j 0 = byteOf a b j := by simp [stepsOf, List.getD_eq_getElem?_getD, h]
theorem MdR.setCod {φ : Nat → Int32} {α β : Nat → Nat → Int32} {τ : TB} (h : MdR φ α τ) {k n : Nat} {a b : Int32} (h1 : ∀ q, q ≠ 1 → q ≠ 2 → β q = α q) (h2 : β 1 = upd (α 1) k (nI n)) (h3 : ∀ j, j < n → β 2 (8 * k + j) = nI (byteOf a b j)) (h4 : ∀ q, (∀ j, j < 8 → q ≠ 8 * k + j) → β 2 q = α 2 q) (h8 : ∀ k, k < 4 → (tCode τ k).length ≤ 8) : MdR φ β (fun j => if j = k then stepsOf n a b else tCode τ j, tDat τ, tBnd τ, tClk τ, tRuns τ, tClm τ) := by
  have e : ∀ q, q ≠ 1 → q ≠ 2 → ∀ x, β q x = α q x := fun q g1 g2 x => congrFun (h1 q g1 g2) x
  refine ⟨h.1, h.2.1, h.2.2.1, fun j hj => ?_, fun j hj i hi => ?_, fun j hj => ?_, fun j hj => ?_, fun r hr => ?_, fun j hj => ?_, fun r g1 g2 => ?_⟩
  · show β 1 j = nI (if j = k then stepsOf n a b else tCode τ j).length
    rw [h2]; simp only [upd]
    split
    · rw [stepsOf_len]
    · exact h.cl hj
  · replace hi : i < (if j = k then stepsOf n a b else tCode τ j).length := hi
    show β 2 (8 * j + i) = nI ((if j = k then stepsOf n a b else tCode τ j).getD i 0)
    by_cases g : j = k
    · subst g
      rw [if_pos rfl] at hi ⊢
      rw [stepsOf_len] at hi
      rw [h3 i hi, stepsOf_get hi]
    · rw [if_neg g] at hi ⊢
      have := h8 j hj
      rw [h4 _ (fun x hx => by omega)]
      exact h.cs hj hi
  · rw [e 3 (by decide) (by decide)]; exact h.dat hj
  · rw [e 4 (by decide) (by decide)]; exact h.bnd hj
  · have R := h.run (r := r) hr
    unfold RunR at R ⊢
    rw [e 7 (by decide) (by decide), e 8 (by decide) (by decide), e 10 (by decide) (by decide), e 11 (by decide) (by decide), e 12 (by decide) (by decide), e 13 (by decide) (by decide), e 15 (by decide) (by decide), e 16 (by decide) (by decide), e 17 (by decide) (by decide), e 18 (by decide) (by decide), e 19 (by decide) (by decide), e 21 (by decide) (by decide), e 22 (by decide) (by decide), h1 9 (by decide) (by decide), h1 14 (by decide) (by decide), h1 20 (by decide) (by decide)]
    exact R
  · rw [e 36 (by decide) (by decide)]; exact h.clm hj
  · rw [e 18 (by decide) (by decide), e 19 (by decide) (by decide), e 21 (by decide) (by decide), e 22 (by decide) (by decide)]; exact h.fresh g1 g2
set_option maxHeartbeats 4000000 in
set_option maxRecDepth 100000 in
theorem c5_data (l : Launch) (g : GG) (h : Nat) (ad : Nat → Nat) (τ : TB) (hT : TOK τ) (hD : wD (wA g h ad) g h ad) (i v : Int32) : Met l yX5_data (.code yX5_data cX5_data 3 (some .boolean) :: wsL_law) ({ frames := 0, cells := 0, slots := 0, locals := 0 } : Room) (mP g [.ref (h), .int (i), .int (v)] (MdH g h ad τ)) (mQ (wA g h ad) (fun z H => z = some (.int (bI (inR i 0 7))) ∧ MdH g h ad (datT τ i v) H)) 0 0 (wA g h ad) := by
  refine mMet (by decide) (Nat.le_of_ble_eq_true rfl) ?_
  intro p e s m below meth c C hr hlk hnm hM ls hl
  have hx := C.1.1
  have hb := C.1.2.1
  have hl : lv_has ls 3 [(0, .ref (h)), (1, .int (i)), (2, .int (v))] := hl
  obtain ⟨φ, α, hM, hR⟩ := hM
  have hS : va_S (wA g h ad) s.heap s.heap [] := va_S.rf
  have h40 := hT.2.2.1
  refine lv_aload_n hx hb dX5_data_0 rfl (lv_at hl 0 rfl) ?_
  refine lv_iconst (v := 0) hx hb dX5_data_1 (by decide) ?_
  refine rp_0 C hM hD hS dX5_data_2 (fun H locs hM hS => ?_)
  have hR : MdR (upd φ 0 0) α τ := hR
  generalize upd φ 0 0 = φ1 at hM hR
  have hrec := q_recv C hM 0 rw_0 rfl
  refine lv_iload_n hx hb dX5_data_5 rfl (lv_at hl 1 rfl) ?_
  refine lv_if_lt (tgt := 15) hx hb dX5_data_6 (by decide) (fun c6 => ?_) (fun c6 => ?_)
  · skip
    refine lv_iconst (v := 0) hx hb dX5_data_15 (by decide) ?_
    exact r_wz C hr hlk (by first | exact Or.inl rfl | exact Or.inr rfl | exact bI_or _) hS (⟨sv (in0 (by simp only [fa_lt, fa_le, li_0, li_7] at c6; omega)), φ1, α, hM, by rw [datT, show inR i 0 7 = false from Bool.eq_false_iff.mpr (fun hz => by have hz := inR_iff.mp hz; simp only [fa_lt, fa_le, li_0, li_7] at c6; omega)]; exact hR⟩) dX5_data_16
  · skip
    refine lv_iload_n hx hb dX5_data_9 rfl (lv_at hl 1 rfl) ?_
    refine lv_bipush (v := 7) hx hb dX5_data_10 (by decide) ?_
    refine lv_icmp_le (tgt := 17) hx hb dX5_data_12 (by decide) (fun c12 => ?_) (fun c12 => ?_)
    · skip
      obtain ⟨i1, hi1, rfl⟩ := inR_nI (hi := 7) (x := i) (inR_iff.mpr (by simp only [fa_lt, fa_le, li_0, li_7] at c6 c12; omega))
      have hin : inR (nI i1) 0 7 = true := inR_iff.mpr (by rw [nI_toInt (by omega)]; omega)
      refine lv_aload_n hx hb dX5_data_17 rfl (lv_at hl 0 rfl) ?_
      refine q_get C f_X5_16 hM 0 rw_0 ro_3 dX5_data_18 ?_
      refine lv_iload_n hx hb dX5_data_21 rfl (lv_at hl 1 rfl) ?_
      refine lv_iload_n hx hb dX5_data_22 rfl (lv_at hl 2 rfl) ?_
      refine ra_3 C hM hD hS (by omega) dX5_data_23 (fun H locs hM hS => ?_)
      refine lv_iconst (v := 1) hx hb dX5_data_24 (by decide) ?_
      exact r_wz C hr hlk (by first | exact Or.inl rfl | exact Or.inr rfl | exact bI_or _) hS (⟨sv (by rw [hin]; rfl), φ1, (aset α 3 i1 (v)), hM, by rw [datT, hin, if_pos rfl, nI_clamp (by omega)]; exact hR.setDat i1 v⟩) dX5_data_25
    · skip
      refine lv_iconst (v := 0) hx hb dX5_data_15 (by decide) ?_
      exact r_wz C hr hlk (by first | exact Or.inl rfl | exact Or.inr rfl | exact bI_or _) hS (⟨sv (in0 (by simp only [fa_lt, fa_le, li_0, li_7] at c6 c12; omega)), φ1, α, hM, by rw [datT, show inR i 0 7 = false from Bool.eq_false_iff.mpr (fun hz => by have hz := inR_iff.mp hz; simp only [fa_lt, fa_le, li_0, li_7] at c6 c12; omega)]; exact hR⟩) dX5_data_16
set_option maxHeartbeats 4000000 in
set_option maxRecDepth 100000 in
theorem c5_bound (l : Launch) (g : GG) (h : Nat) (ad : Nat → Nat) (τ : TB) (hT : TOK τ) (hD : wD (wA g h ad) g h ad) (i v : Int32) : Met l yX5_bound (.code yX5_bound cX5_bound 3 (some .boolean) :: wsL_law) ({ frames := 0, cells := 0, slots := 0, locals := 0 } : Room) (mP g [.ref (h), .int (i), .int (v)] (MdH g h ad τ)) (mQ (wA g h ad) (fun z H => z = some (.int (bI (inR i 0 3 && inR v 1 6))) ∧ MdH g h ad (bndT τ i v) H)) 0 0 (wA g h ad) := by
  refine mMet (by decide) (Nat.le_of_ble_eq_true rfl) ?_
  intro p e s m below meth c C hr hlk hnm hM ls hl
  have hx := C.1.1
  have hb := C.1.2.1
  have hl : lv_has ls 3 [(0, .ref (h)), (1, .int (i)), (2, .int (v))] := hl
  obtain ⟨φ, α, hM, hR⟩ := hM
  have hS : va_S (wA g h ad) s.heap s.heap [] := va_S.rf
  have h40 := hT.2.2.1
  refine lv_aload_n hx hb dX5_bound_0 rfl (lv_at hl 0 rfl) ?_
  refine lv_iconst (v := 0) hx hb dX5_bound_1 (by decide) ?_
  refine rp_0 C hM hD hS dX5_bound_2 (fun H locs hM hS => ?_)
  have hR : MdR (upd φ 0 0) α τ := hR
  generalize upd φ 0 0 = φ1 at hM hR
  have hrec := q_recv C hM 0 rw_0 rfl
  refine lv_iload_n hx hb dX5_bound_5 rfl (lv_at hl 1 rfl) ?_
  refine lv_if_lt (tgt := 25) hx hb dX5_bound_6 (by decide) (fun c6 => ?_) (fun c6 => ?_)
  · skip
    refine lv_iconst (v := 0) hx hb dX5_bound_25 (by decide) ?_
    exact r_wz C hr hlk (by first | exact Or.inl rfl | exact Or.inr rfl | exact bI_or _) hS (⟨sv (by rw [show (inR i 0 3 && inR v 1 6) = false from Bool.eq_false_iff.mpr (fun hz => by simp only [Bool.and_eq_true, inR_iff] at hz; simp only [fa_lt, fa_le, li_0, li_1, li_3, li_6] at c6; omega)]; rfl), φ1, α, hM, by rw [bndT, show (inR i 0 3 && inR v 1 6) = false from Bool.eq_false_iff.mpr (fun hz => by simp only [Bool.and_eq_true, inR_iff] at hz; simp only [fa_lt, fa_le, li_0, li_1, li_3, li_6] at c6; omega)]; exact hR⟩) dX5_bound_26
  · skip
    refine lv_iload_n hx hb dX5_bound_9 rfl (lv_at hl 1 rfl) ?_
    refine lv_iconst (v := 3) hx hb dX5_bound_10 (by decide) ?_
    refine lv_icmp_gt (tgt := 25) hx hb dX5_bound_11 (by decide) (fun c11 => ?_) (fun c11 => ?_)
    · skip
      refine lv_iconst (v := 0) hx hb dX5_bound_25 (by decide) ?_
      exact r_wz C hr hlk (by first | exact Or.inl rfl | exact Or.inr rfl | exact bI_or _) hS (⟨sv (by rw [show (inR i 0 3 && inR v 1 6) = false from Bool.eq_false_iff.mpr (fun hz => by simp only [Bool.and_eq_true, inR_iff] at hz; simp only [fa_lt, fa_le, li_0, li_1, li_3, li_6] at c6 c11; omega)]; rfl), φ1, α, hM, by rw [bndT, show (inR i 0 3 && inR v 1 6) = false from Bool.eq_false_iff.mpr (fun hz => by simp only [Bool.and_eq_true, inR_iff] at hz; simp only [fa_lt, fa_le, li_0, li_1, li_3, li_6] at c6 c11; omega)]; exact hR⟩) dX5_bound_26
    · skip
      refine lv_iload_n hx hb dX5_bound_14 rfl (lv_at hl 2 rfl) ?_
      refine lv_iconst (v := 1) hx hb dX5_bound_15 (by decide) ?_
      refine lv_icmp_lt (tgt := 25) hx hb dX5_bound_16 (by decide) (fun c16 => ?_) (fun c16 => ?_)
      · skip
        refine lv_iconst (v := 0) hx hb dX5_bound_25 (by decide) ?_
        exact r_wz C hr hlk (by first | exact Or.inl rfl | exact Or.inr rfl | exact bI_or _) hS (⟨sv (by rw [show (inR i 0 3 && inR v 1 6) = false from Bool.eq_false_iff.mpr (fun hz => by simp only [Bool.and_eq_true, inR_iff] at hz; simp only [fa_lt, fa_le, li_0, li_1, li_3, li_6] at c6 c11 c16; omega)]; rfl), φ1, α, hM, by rw [bndT, show (inR i 0 3 && inR v 1 6) = false from Bool.eq_false_iff.mpr (fun hz => by simp only [Bool.and_eq_true, inR_iff] at hz; simp only [fa_lt, fa_le, li_0, li_1, li_3, li_6] at c6 c11 c16; omega)]; exact hR⟩) dX5_bound_26
      · skip
        refine lv_iload_n hx hb dX5_bound_19 rfl (lv_at hl 2 rfl) ?_
        refine lv_bipush (v := 6) hx hb dX5_bound_20 (by decide) ?_
        refine lv_icmp_le (tgt := 27) hx hb dX5_bound_22 (by decide) (fun c22 => ?_) (fun c22 => ?_)
        · skip
          obtain ⟨i1, hi1, rfl⟩ := inR_nI (hi := 3) (x := i) (inR_iff.mpr (by simp only [fa_lt, fa_le, li_0, li_1, li_3, li_6] at c6 c11 c16 c22; omega))
          obtain ⟨v1, hv0, hv1, rfl⟩ := inR1_nI (hi := 6) (x := v) (inR_iff.mpr (by simp only [fa_lt, fa_le, li_1, li_6] at c16 c22; omega))
          have hin : (inR (nI i1) 0 3 && inR (nI v1) 1 6) = true := by rw [inR_iff.mpr (show (0 : Int) ≤ (nI i1).toInt ∧ (nI i1).toInt ≤ 3 by rw [nI_toInt (by omega)]; omega), inR_iff.mpr (show (1 : Int) ≤ (nI v1).toInt ∧ (nI v1).toInt ≤ 6 by rw [nI_toInt (by omega)]; omega)]; rfl
          refine lv_aload_n hx hb dX5_bound_27 rfl (lv_at hl 0 rfl) ?_
          refine q_get C f_X5_19 hM 0 rw_0 ro_4 dX5_bound_28 ?_
          refine lv_iload_n hx hb dX5_bound_31 rfl (lv_at hl 1 rfl) ?_
          refine lv_iload_n hx hb dX5_bound_32 rfl (lv_at hl 2 rfl) ?_
          refine ra_4 C hM hD hS (by omega) dX5_bound_33 (fun H locs hM hS => ?_)
          refine lv_iconst (v := 1) hx hb dX5_bound_34 (by decide) ?_
          exact r_wz C hr hlk (by first | exact Or.inl rfl | exact Or.inr rfl | exact bI_or _) hS (⟨sv (by rw [hin]; rfl), φ1, (aset α 4 i1 (nI (v1))), hM, by rw [bndT, hin, if_pos rfl, nI_clamp (by omega), nI_clamp (by omega)]; exact hR.setBnd i1 v1⟩) dX5_bound_35
        · skip
          refine lv_iconst (v := 0) hx hb dX5_bound_25 (by decide) ?_
          exact r_wz C hr hlk (by first | exact Or.inl rfl | exact Or.inr rfl | exact bI_or _) hS (⟨sv (by rw [show (inR i 0 3 && inR v 1 6) = false from Bool.eq_false_iff.mpr (fun hz => by simp only [Bool.and_eq_true, inR_iff] at hz; simp only [fa_lt, fa_le, li_0, li_1, li_3, li_6] at c6 c11 c16 c22; omega)]; rfl), φ1, α, hM, by rw [bndT, show (inR i 0 3 && inR v 1 6) = false from Bool.eq_false_iff.mpr (fun hz => by simp only [Bool.and_eq_true, inR_iff] at hz; simp only [fa_lt, fa_le, li_0, li_1, li_3, li_6] at c6 c11 c16 c22; omega)]; exact hR⟩) dX5_bound_26
set_option maxHeartbeats 4000000 in
set_option maxRecDepth 100000 in
theorem c5_claim (l : Launch) (g : GG) (h : Nat) (ad : Nat → Nat) (τ : TB) (hT : TOK τ) (hD : wD (wA g h ad) g h ad) (r : Int32) : Met l yX5_claim (.code yX5_claim cX5_claim 2 (some .int) :: wsL_law) ({ frames := 1, cells := 0, slots := 0, locals := 21 } : Room) (mP g [.ref (h), .int (r)] (MdH g h ad τ)) (mQ (wA g h ad) (fun z H => z = some (.int (clmA τ r)) ∧ MdH g h ad (clmT τ r) H)) 0 0 (wA g h ad) := by
  refine mMet (by decide) (Nat.le_of_ble_eq_true rfl) ?_
  intro p e s m below meth c C hr hlk hnm hM ls hl
  have hx := C.1.1
  have hb := C.1.2.1
  have hl : lv_has ls 2 [(0, .ref (h)), (1, .int (r))] := hl
  obtain ⟨φ, α, hM, hR⟩ := hM
  have hS : va_S (wA g h ad) s.heap s.heap [] := va_S.rf
  have h40 := hT.2.2.1
  refine lv_aload_n hx hb dX5_claim_0 rfl (lv_at hl 0 rfl) ?_
  refine lv_iconst (v := 0) hx hb dX5_claim_1 (by decide) ?_
  refine rp_0 C hM hD hS dX5_claim_2 (fun H locs hM hS => ?_)
  have hR : MdR (upd φ 0 0) α τ := hR
  generalize upd φ 0 0 = φ1 at hM hR
  have hrec := q_recv C hM 0 rw_0 rfl
  refine lv_aload_n hx hb dX5_claim_5 rfl (lv_at hl 0 rfl) ?_
  refine lv_iload_n hx hb dX5_claim_6 rfl (lv_at hl 1 rfl) ?_
  refine k_i (c_V (As := [.int (r)]) (rest := []) C v_X5_142 (c5_isRun l g h ad φ1 α τ hR hT (r)) ⟨Nat.le_of_ble_eq_true rfl, Nat.le_of_ble_eq_true rfl⟩ (hrec) (hM) hl.1 rfl rfl (Nat.le_of_ble_eq_true rfl) dX5_claim_7 ⟨Nat.le_of_ble_eq_true rfl, Nat.le_of_ble_eq_true rfl⟩) (fun r7 q7 => ?_)
  subst q7
  refine b_ifeq (tgt := 31) C dX5_claim_10 (by decide) (fun c10 => ?_) (fun c10 => ?_)
  · skip
    refine lv_iconst (v := (-1)) hx hb dX5_claim_31 (by decide) ?_
    exact r_wi C hr hlk hS (⟨sv (by rw [clmA, show canClm τ r = false by simp [canClm, c10]]; rfl), φ1, α, hM, by rw [clmT, show canClm τ r = false by simp [canClm, c10]]; exact hR⟩) dX5_claim_32
  · skip
    obtain ⟨j, hj, rfl⟩ := isRun_nI c10 h40
    have ecl : (nI j).toNatClampNeg = j := nI_clamp (by omega)
    have R_j := hR.run hj
    have hc20 := hT.2.2.2.2.1
    refine lv_aload_n hx hb dX5_claim_13 rfl (lv_at hl 0 rfl) ?_
    refine q_get C f_X5_46 hM 0 rw_0 ro_15 dX5_claim_14 ?_
    refine lv_iload_n hx hb dX5_claim_17 rfl (lv_at hl 1 rfl) ?_
    refine n_zald C hM 13 rw_15 (by omega) (by decide) dX5_claim_18 ?_
    refine w_topi (y := (bI (rBr (tRun τ j)))) (R_j.br) ?_
    refine b_ifne (tgt := 31) C dX5_claim_19 (by decide) (fun c19 => ?_) (fun c19 => ?_)
    · skip
      refine lv_iconst (v := (-1)) hx hb dX5_claim_31 (by decide) ?_
      exact r_wi C hr hlk hS (⟨sv (by rw [clmA, show canClm τ (nI j) = false by simp [canClm, ecl, c10, c19]]; rfl), φ1, α, hM, by rw [clmT, show canClm τ (nI j) = false by simp [canClm, ecl, c10, c19]]; exact hR⟩) dX5_claim_32
    · skip
      refine lv_aload_n hx hb dX5_claim_22 rfl (lv_at hl 0 rfl) ?_
      refine q_get C f_X5_213 hM 0 rw_0 ro_35 dX5_claim_23 ?_
      refine w_topi (y := (nI ((tClm τ).length))) (hR.nc) ?_
      refine lv_bipush (v := nI 20) hx hb dX5_claim_26 (by decide) ?_
      refine n_icmp_ne (tgt := 33) C (by omega) (by omega) dX5_claim_28 (by decide) (fun c28 => ?_) (fun c28 => ?_)
      · skip
        refine lv_aload_n hx hb dX5_claim_33 rfl (lv_at hl 0 rfl) ?_
        refine q_get C f_X5_74 hM 0 rw_0 ro_36 dX5_claim_34 ?_
        refine lv_aload_n hx hb dX5_claim_37 rfl (lv_at hl 0 rfl) ?_
        refine q_get C f_X5_213 hM 0 rw_0 ro_35 dX5_claim_38 ?_
        refine w_topi (y := (nI ((tClm τ).length))) (hR.nc) ?_
        refine lv_iload_n hx hb dX5_claim_41 rfl (lv_at hl 1 rfl) ?_
        refine ra_36 C hM hD hS (by omega) dX5_claim_42 (fun H locs hM hS => ?_)
        refine lv_aload_n hx hb dX5_claim_43 rfl (lv_at hl 0 rfl) ?_
        refine lv_aload_n hx hb dX5_claim_44 rfl (lv_at hl 0 rfl) ?_
        refine q_get C f_X5_213 hM 0 rw_0 ro_35 dX5_claim_45 ?_
        refine w_topi (y := (nI ((tClm τ).length))) (hR.nc) ?_
        refine lv_iconst (v := nI 1) hx hb dX5_claim_48 (by decide) ?_
        refine n_iadd C dX5_claim_49 ?_
        refine rp_35 C hM hD hS dX5_claim_50 (fun H locs hM hS => ?_)
        refine lv_aload_n hx hb dX5_claim_53 rfl (lv_at hl 0 rfl) ?_
        refine q_get (v := .int (nI (((tClm τ).length) + 1))) C f_X5_213 hM 0 rw_0 rfl dX5_claim_54 ?_
        refine lv_iconst (v := nI 1) hx hb dX5_claim_57 (by decide) ?_
        refine n_isub C (by omega) dX5_claim_58 ?_
        exact r_wi C hr hlk hS (⟨sv (by rw [clmA, show canClm τ (nI j) = true by simp [canClm, ecl, c10, c19, c28], if_pos rfl]; rfl), (upd φ1 35 (nI (((tClm τ).length) + 1))), (aset α 36 ((tClm τ).length) (nI (j))), hM, by rw [clmT, show canClm τ (nI j) = true by simp [canClm, ecl, c10, c19, c28]]; rw [if_pos rfl, ecl]; exact hR.setClm j⟩) dX5_claim_59
      · skip
        refine lv_iconst (v := (-1)) hx hb dX5_claim_31 (by decide) ?_
        exact r_wi C hr hlk hS (⟨sv (by rw [clmA, show canClm τ (nI j) = false by simp [canClm, ecl, c10, c19, c28]]; rfl), φ1, α, hM, by rw [clmT, show canClm τ (nI j) = false by simp [canClm, ecl, c10, c19, c28]]; exact hR⟩) dX5_claim_32
set_option maxHeartbeats 4000000 in
set_option maxRecDepth 100000 in
theorem c5_code (l : Launch) (g : GG) (h : Nat) (ad : Nat → Nat) (τ : TB) (hT : TOK τ) (hD : wD (wA g h ad) g h ad) (k n a b : Int32) : Met l yX5_code (.code yX5_code cX5_code 6 (some .boolean) :: wsL_law) ({ frames := 1, cells := 0, slots := 0, locals := 21 } : Room) (mP g [.ref (h), .int (k), .int (n), .int (a), .int (b)] (MdH g h ad τ)) (mQ (wA g h ad) (fun z H => z = some (.int (bI (inR k 0 3 && inR n 0 8))) ∧ MdH g h ad (codT τ k n a b) H)) 0 0 (wA g h ad) := by
  refine mMet (by decide) (Nat.le_of_ble_eq_true rfl) ?_
  intro p e s m below meth c C hr hlk hnm hM ls hl
  have hx := C.1.1
  have hb := C.1.2.1
  have hl : lv_has ls 6 [(0, .ref (h)), (1, .int (k)), (2, .int (n)), (3, .int (a)), (4, .int (b))] := hl
  obtain ⟨φ, α, hM, hR⟩ := hM
  have hS : va_S (wA g h ad) s.heap s.heap [] := va_S.rf
  have h40 := hT.2.2.1
  refine lv_aload_n hx hb dX5_code_0 rfl (lv_at hl 0 rfl) ?_
  refine lv_iconst (v := 0) hx hb dX5_code_1 (by decide) ?_
  refine rp_0 C hM hD hS dX5_code_2 (fun H locs hM hS => ?_)
  have hR : MdR (upd φ 0 0) α τ := hR
  generalize upd φ 0 0 = φ1 at hM hR
  have hrec := q_recv C hM 0 rw_0 rfl
  refine lv_aload_n hx hb dX5_code_5 rfl (lv_at hl 0 rfl) ?_
  refine lv_iload_n hx hb dX5_code_6 rfl (lv_at hl 1 rfl) ?_
  refine k_i (c_V (As := [.int (k)]) (rest := []) C v_X5_81 (c5_isCode l g h (k)) ⟨Nat.le_of_ble_eq_true rfl, Nat.le_of_ble_eq_true rfl⟩ (hrec) (trivial) hl.1 rfl rfl (Nat.le_of_ble_eq_true rfl) dX5_code_7 ⟨Nat.le_of_ble_eq_true rfl, Nat.le_of_ble_eq_true rfl⟩) (fun r7 q7 => ?_)
  subst q7
  refine b_ifeq (tgt := 23) C dX5_code_10 (by decide) (fun c10 => ?_) (fun c10 => ?_)
  · skip
    refine lv_iconst (v := 0) hx hb dX5_code_23 (by decide) ?_
    exact r_wz C hr hlk (by first | exact Or.inl rfl | exact Or.inr rfl | exact bI_or _) hS (⟨sv (by rw [show (inR k 0 3 && inR n 0 8) = false from Bool.eq_false_iff.mpr (fun hz => by simp only [Bool.and_eq_true, inR_iff] at hz; rw [inR_iff.mpr hz.1] at c10; cases c10)]; rfl), φ1, α, hM, by rw [codT, show (inR k 0 3 && inR n 0 8) = false from Bool.eq_false_iff.mpr (fun hz => by simp only [Bool.and_eq_true, inR_iff] at hz; rw [inR_iff.mpr hz.1] at c10; cases c10)]; exact hR⟩) dX5_code_24
  · skip
    refine lv_iload_n hx hb dX5_code_13 rfl (lv_at hl 2 rfl) ?_
    refine lv_if_lt (tgt := 23) hx hb dX5_code_14 (by decide) (fun c14 => ?_) (fun c14 => ?_)
    · skip
      refine lv_iconst (v := 0) hx hb dX5_code_23 (by decide) ?_
      exact r_wz C hr hlk (by first | exact Or.inl rfl | exact Or.inr rfl | exact bI_or _) hS (⟨sv (by rw [show (inR k 0 3 && inR n 0 8) = false from Bool.eq_false_iff.mpr (fun hz => by simp only [Bool.and_eq_true, inR_iff] at hz; simp only [fa_lt, fa_le, li_0, li_8] at c14; omega)]; rfl), φ1, α, hM, by rw [codT, show (inR k 0 3 && inR n 0 8) = false from Bool.eq_false_iff.mpr (fun hz => by simp only [Bool.and_eq_true, inR_iff] at hz; simp only [fa_lt, fa_le, li_0, li_8] at c14; omega)]; exact hR⟩) dX5_code_24
    · skip
      refine lv_iload_n hx hb dX5_code_17 rfl (lv_at hl 2 rfl) ?_
      refine lv_bipush (v := 8) hx hb dX5_code_18 (by decide) ?_
      refine lv_icmp_le (tgt := 25) hx hb dX5_code_20 (by decide) (fun c20 => ?_) (fun c20 => ?_)
      · skip
        obtain ⟨k1, hk1, rfl⟩ := inR_nI (hi := 3) c10
        obtain ⟨n1, hn1, rfl⟩ := inR_nI (hi := 8) (x := n) (inR_iff.mpr (by simp only [fa_lt, fa_le, li_0, li_8] at c14 c20; omega))
        have hin : (inR (nI k1) 0 3 && inR (nI n1) 0 8) = true := by rw [c10, inR_iff.mpr (show (0 : Int) ≤ (nI n1).toInt ∧ (nI n1).toInt ≤ 8 by rw [nI_toInt (by omega)]; omega)]; rfl
        refine lv_aload_n hx hb dX5_code_25 rfl (lv_at hl 0 rfl) ?_
        refine q_get C f_X5_7 hM 0 rw_0 ro_1 dX5_code_26 ?_
        refine lv_iload_n hx hb dX5_code_29 rfl (lv_at hl 1 rfl) ?_
        refine lv_iload_n hx hb dX5_code_30 rfl (lv_at hl 2 rfl) ?_
        refine ra_1 C hM hD hS (by omega) dX5_code_31 (fun H locs hM hS => ?_)
        refine lv_iconst (v := nI 0) hx hb dX5_code_32 (by decide) ?_
        refine lv_istore (lv' := [(5, .int (nI (0))), (0, .ref (h)), (1, .int (nI (k1))), (2, .int (nI (n1))), (3, .int (a)), (4, .int (b))]) hx hb dX5_code_33 hl (by decide) rfl (fun ls hl => ?_)
        have la : ∀ (n_la : Nat) (i : Nat) (β : Nat → Nat → Int32) (H : Heap) (locs : List Loc) (ls : Array Slot), (i ≤ 8) → (8 + 1 ≤ i + n_la) → (va_P g.1 vwCl (wM g h ad φ1 β) H) → (va_S (wA g h ad) s.heap H locs) → (∀ q, q ≠ 1 → q ≠ 2 → β q = α q) → (β 1 = upd (α 1) k1 (nI n1)) → (∀ q, q < n1 → q < i → β 2 (8 * k1 + q) = nI (byteOf a b q)) → (∀ q, (∀ j, j < i → q ≠ 8 * k1 + j) → β 2 q = α 2 q) → lv_has ls 6 [(0, .ref (h)), (1, .int (nI (k1))), (2, .int (nI (n1))), (3, .int (a)), (4, .int (b)), (5, .int (nI (i)))] → W p l e ({ frames := 1, cells := 0, slots := 0, locals := 21 } : Room) s m ([.ref (h), .int (nI (k1)), .int (nI (n1)), .int (a), .int (b)] : List Value).toArray below meth c H locs 0 0 (MQ below (mQ (wA g h ad) (fun z H => z = some (.int (bI (inR (nI k1) 0 3 && inR (nI n1) 0 8))) ∧ MdH g h ad (codT τ (nI k1) (nI n1) a b) H)) (([.ref (h), .int (nI (k1)), .int (nI (n1)), .int (a), .int (b)] : List Value).toArray) s 0 0 (wA g h ad)) (F0 m 35 ls []) := by
          intro n_la
          induction n_la with
          | zero =>
            intro i β H locs ls hi hnla hM hS hb1 hb2 hin3 hou
            exact absurd hnla (by omega)
          | succ n_la ih_la =>
            intro i β H locs ls hi hnla hM hS hb1 hb2 hin3 hou hl
            refine lv_iload hx hb dX5_code_35 (lv_at hl 5 rfl) ?_
            refine lv_bipush (v := nI 8) hx hb dX5_code_37 (by decide) ?_
            refine n_icmp_ge (tgt := 104) C (by omega) (by omega) dX5_code_39 (by decide) (fun c39 => ?_) (fun c39 => ?_)
            · skip
              refine lv_iconst (v := 1) hx hb dX5_code_104 (by decide) ?_
              exact r_wz C hr hlk (by first | exact Or.inl rfl | exact Or.inr rfl | exact bI_or _) hS (⟨sv (by rw [hin]; rfl), φ1, β, hM, by rw [codT, hin, if_pos rfl, nI_clamp (by omega), nI_clamp (by omega)]; exact hR.setCod hb1 hb2 (fun j hj => hin3 j hj (by omega)) (fun q hq => hou q (fun j hj => hq j (by omega))) (fun k hk => (hT.1 k hk).1)⟩) dX5_code_105
            · skip
              refine lv_aload_n hx hb dX5_code_42 rfl (lv_at hl 0 rfl) ?_
              refine q_get C f_X5_13 hM 0 rw_0 ro_2 dX5_code_43 ?_
              refine lv_bipush (v := nI 8) hx hb dX5_code_46 (by decide) ?_
              refine lv_iload_n hx hb dX5_code_48 rfl (lv_at hl 1 rfl) ?_
              refine n_imul C dX5_code_49 ?_
              refine lv_iload hx hb dX5_code_50 (lv_at hl 5 rfl) ?_
              refine n_iadd C dX5_code_52 ?_
              refine lv_iload hx hb dX5_code_53 (lv_at hl 5 rfl) ?_
              refine lv_iload_n hx hb dX5_code_55 rfl (lv_at hl 2 rfl) ?_
              refine n_icmp_ge (tgt := 96) C (by omega) (by omega) dX5_code_56 (by decide) (fun c56 => ?_) (fun c56 => ?_)
              · skip
                refine lv_iconst (v := 0) hx hb dX5_code_96 (by decide) ?_
                refine ra_2 C hM hD hS (by omega) dX5_code_97 (fun H locs hM hS => ?_)
                refine n_iinc (d := 1) (lv' := [(5, .int (nI (i + 1))), (0, .ref (h)), (1, .int (nI (k1))), (2, .int (nI (n1))), (3, .int (a)), (4, .int (b))]) C dX5_code_98 (by decide) hl (k := 5) rfl (by decide) rfl (fun ls hl => ?_)
                refine lv_goto (tgt := 35) hx hb dX5_code_101 (by decide) ?_
                exact ih_la (i + 1) ((aset β 2 ((8 * k1) + i) (0))) (H) (locs) ls (by omega) (by omega) (hM) (hS) (fun q g1 g2 => (asetN _ _ _ g2).trans (hb1 q g1 g2)) (hb2) (fun q h1 h2 => by
                               rcases Nat.lt_or_ge q i with h3 | h3
                               · rw [asetO _ _ _ (by omega)]; exact hin3 q h1 h3
                               · rw [show q = i by omega, asetV]; exfalso; omega) (fun q hq => (asetO _ _ _ (hq i (by omega))).trans (hou q (fun j hj => hq j (by omega)))) (lv_sub hl [1, 2, 3, 4, 5, 0] rfl)
              · skip
                refine lv_iload hx hb dX5_code_59 (lv_at hl 5 rfl) ?_
                refine lv_iconst (v := nI 4) hx hb dX5_code_61 (by decide) ?_
                refine n_icmp_ge (tgt := 78) C (by omega) (by omega) dX5_code_62 (by decide) (fun c62 => ?_) (fun c62 => ?_)
                · skip
                  refine lv_iload hx hb dX5_code_78 (lv_at hl 4 rfl) ?_
                  refine lv_bipush (v := nI 56) hx hb dX5_code_80 (by decide) ?_
                  refine lv_bipush (v := nI 8) hx hb dX5_code_82 (by decide) ?_
                  refine lv_iload hx hb dX5_code_84 (lv_at hl 5 rfl) ?_
                  refine n_imul C dX5_code_86 ?_
                  refine n_isub C (by omega) dX5_code_87 ?_
                  refine lv_ishr hx hb dX5_code_88 ?_
                  refine lv_sipush (v := 255) hx hb dX5_code_89 (by decide) ?_
                  refine lv_iand hx hb dX5_code_92 ?_
                  refine lv_goto (tgt := 97) hx hb dX5_code_93 (by decide) ?_
                  refine ra_2 C hM hD hS (by omega) dX5_code_97 (fun H locs hM hS => ?_)
                  refine n_iinc (d := 1) (lv' := [(5, .int (nI (i + 1))), (0, .ref (h)), (1, .int (nI (k1))), (2, .int (nI (n1))), (3, .int (a)), (4, .int (b))]) C dX5_code_98 (by decide) hl (k := 5) rfl (by decide) rfl (fun ls hl => ?_)
                  refine lv_goto (tgt := 35) hx hb dX5_code_101 (by decide) ?_
                  exact ih_la (i + 1) ((aset β 2 ((8 * k1) + i) (((b) >>> ((nI (56 - (8 * i))) &&& 31)) &&& (255)))) (H) (locs) ls (by omega) (by omega) (hM) (hS) (fun q g1 g2 => (asetN _ _ _ g2).trans (hb1 q g1 g2)) (hb2) (fun q h1 h2 => by
                               rcases Nat.lt_or_ge q i with h3 | h3
                               · rw [asetO _ _ _ (by omega)]; exact hin3 q h1 h3
                               · rw [show q = i by omega, asetV]; rw [pk_and _ 8 (by decide), byteOf, if_neg (by omega)]) (fun q hq => (asetO _ _ _ (hq i (by omega))).trans (hou q (fun j hj => hq j (by omega)))) (lv_sub hl [1, 2, 3, 4, 5, 0] rfl)
                · skip
                  refine lv_iload_n hx hb dX5_code_65 rfl (lv_at hl 3 rfl) ?_
                  refine lv_bipush (v := nI 24) hx hb dX5_code_66 (by decide) ?_
                  refine lv_bipush (v := nI 8) hx hb dX5_code_68 (by decide) ?_
                  refine lv_iload hx hb dX5_code_70 (lv_at hl 5 rfl) ?_
                  refine n_imul C dX5_code_72 ?_
                  refine n_isub C (by omega) dX5_code_73 ?_
                  refine lv_ishr hx hb dX5_code_74 ?_
                  refine lv_goto (tgt := 89) hx hb dX5_code_75 (by decide) ?_
                  refine lv_sipush (v := 255) hx hb dX5_code_89 (by decide) ?_
                  refine lv_iand hx hb dX5_code_92 ?_
                  refine lv_goto (tgt := 97) hx hb dX5_code_93 (by decide) ?_
                  refine ra_2 C hM hD hS (by omega) dX5_code_97 (fun H locs hM hS => ?_)
                  refine n_iinc (d := 1) (lv' := [(5, .int (nI (i + 1))), (0, .ref (h)), (1, .int (nI (k1))), (2, .int (nI (n1))), (3, .int (a)), (4, .int (b))]) C dX5_code_98 (by decide) hl (k := 5) rfl (by decide) rfl (fun ls hl => ?_)
                  refine lv_goto (tgt := 35) hx hb dX5_code_101 (by decide) ?_
                  exact ih_la (i + 1) ((aset β 2 ((8 * k1) + i) (((a) >>> ((nI (24 - (8 * i))) &&& 31)) &&& (255)))) (H) (locs) ls (by omega) (by omega) (hM) (hS) (fun q g1 g2 => (asetN _ _ _ g2).trans (hb1 q g1 g2)) (hb2) (fun q h1 h2 => by
                               rcases Nat.lt_or_ge q i with h3 | h3
                               · rw [asetO _ _ _ (by omega)]; exact hin3 q h1 h3
                               · rw [show q = i by omega, asetV]; rw [pk_and _ 8 (by decide), byteOf, if_pos c62]) (fun q hq => (asetO _ _ _ (hq i (by omega))).trans (hou q (fun j hj => hq j (by omega)))) (lv_sub hl [1, 2, 3, 4, 5, 0] rfl)
        exact la (9) (0) ((aset α 1 k1 (nI (n1)))) (H) (locs) ls (by omega) (by omega) (hM) (hS) (fun q g1 g2 => asetN _ _ _ g1) (asetS _ _ _ _) (fun q h1 h2 => absurd h2 (by omega)) (fun _ _ => rfl) (lv_sub hl [1, 2, 3, 4, 5, 0] rfl)
      · skip
        refine lv_iconst (v := 0) hx hb dX5_code_23 (by decide) ?_
        exact r_wz C hr hlk (by first | exact Or.inl rfl | exact Or.inr rfl | exact bI_or _) hS (⟨sv (by rw [show (inR k 0 3 && inR n 0 8) = false from Bool.eq_false_iff.mpr (fun hz => by simp only [Bool.and_eq_true, inR_iff] at hz; simp only [fa_lt, fa_le, li_0, li_8] at c14 c20; omega)]; rfl), φ1, α, hM, by rw [codT, show (inR k 0 3 && inR n 0 8) = false from Bool.eq_false_iff.mpr (fun hz => by simp only [Bool.and_eq_true, inR_iff] at hz; simp only [fa_lt, fa_le, li_0, li_8] at c14 c20; omega)]; exact hR⟩) dX5_code_24

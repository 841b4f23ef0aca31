/-! THE REFERENCE: a step, a run of ticks, what it takes over -/
theorem xs_0 {dat : Nat → Int32} {clk all own : Int32} {t q : Nat} {X : XS} (h : q / 16 = 0) : xStep dat clk all own t q X = (xV X + nI (q % 16), xRS X, xRW X, xSd X, xCk X, xSt X) := by simp only [xStep, h]
theorem xs_1 {dat : Nat → Int32} {clk all own : Int32} {t q : Nat} {X : XS} (h : q / 16 = 1) : xStep dat clk all own t q X = (xV X * nI (q % 16), xRS X, xRW X, xSd X, xCk X, xSt X) := by simp only [xStep, h]
theorem xs_2 {dat : Nat → Int32} {clk all own : Int32} {t q : Nat} {X : XS} (h : q / 16 = 2) : xStep dat clk all own t q X = (xV X + sett all (q % 16 % 4), xRS X ||| bitI (q % 16 % 4), xRW X, xSd X, xCk X, xSt X) := by simp only [xStep, h]
theorem xs_3 {dat : Nat → Int32} {clk all own : Int32} {t q : Nat} {X : XS} (h : q / 16 = 3) : xStep dat clk all own t q X = (xV X, xRS X ||| bitI (q % 16 % 4), xRW X, xSd X, xCk X, xSt X) := by simp only [xStep, h]
theorem xs_4 {dat : Nat → Int32} {clk all own : Int32} {t q : Nat} {X : XS} (h : q / 16 = 4) : xStep dat clk all own t q X = (xV X ^^^ own * nI (q % 16 + 1), xRS X, xRW X, true, xCk X, xSt X) := by simp only [xStep, h]
theorem xs_5 {dat : Nat → Int32} {clk all own : Int32} {t q : Nat} {X : XS} (h : q / 16 = 5) : xStep dat clk all own t q X = (xV X + dat ((t + q % 16) % 8), xRS X, xRW X ||| bitI ((t + q % 16) % 8), xSd X, xCk X, xSt X) := by simp only [xStep, h]
theorem xs_6 {dat : Nat → Int32} {clk all own : Int32} {t q : Nat} {X : XS} (h : q / 16 = 6) : xStep dat clk all own t q X = (xV X + clk, xRS X, xRW X, xSd X, true, xSt X) := by simp only [xStep, h]
theorem xs_7 {dat : Nat → Int32} {clk all own : Int32} {t q : Nat} {X : XS} (h : q / 16 = 7) : xStep dat clk all own t q X = (jrot (xV X) (q % 16), xRS X, xRW X, xSd X, xCk X, xSt X) := by simp only [xStep, h]
theorem xs_8 {dat : Nat → Int32} {clk all own : Int32} {t q : Nat} {X : XS} (h : q / 16 = 8) : xStep dat clk all own t q X = (jrem (xV X) (nI (q % 16 + 2)), xRS X, xRW X, xSd X, xCk X, xSt X) := by simp only [xStep, h]
theorem xs_9 {dat : Nat → Int32} {clk all own : Int32} {t q : Nat} {X : XS} (h : q / 16 = 9) : xStep dat clk all own t q X = (xV X, xRS X, xRW X, xSd X, xCk X, decide (jrem (xV X) (nI (q % 16 + 1)) = 0)) := by simp only [xStep, h]
theorem xs_n {dat : Nat → Int32} {clk all own : Int32} {t q : Nat} {X : XS} (h : 10 ≤ q / 16) : xStep dat clk all own t q X = X := by
  unfold xStep
  split <;> first | (exfalso; omega) | rfl
theorem xk_3 {all : Int32} {q : Nat} (h : q / 16 = 3) : xSkip all q = decide (nI (q % 16 / 4) < sett all (q % 16 % 4)) := by simp [xSkip, h]
theorem xk_n {all : Int32} {q : Nat} (h : ¬ q / 16 = 3) : xSkip all q = false := by simp [xSkip, h]
theorem drop_c {qs : List Nat} {j : Nat} (h : j < qs.length) : qs.drop j = qs.getD j 0 :: qs.drop (j + 1) := by
  rw [List.drop_eq_getElem_cons h, List.getD_eq_getElem?_getD, List.getElem?_eq_getElem h]
  rfl
theorem xT_stop {dat : Nat → Int32} {clk all own : Int32} {t : Nat} {X : XS} {sk : Bool} (qs : List Nat) (h : xSt X = true) : xTick dat clk all own t qs X sk = X := by
  cases qs with
  | nil => rfl
  | cons q qs => simp [xTick, h]
theorem xT_end {dat : Nat → Int32} {clk all own : Int32} {t j : Nat} {X : XS} {sk : Bool} {qs : List Nat} (h : qs.length ≤ j) : xTick dat clk all own t (qs.drop j) X sk = X := by rw [List.drop_eq_nil_of_le h]; rfl
theorem xT_skip {dat : Nat → Int32} {clk all own : Int32} {t j : Nat} {X : XS} {qs : List Nat} (h : j < qs.length) (hs : xSt X = false) : xTick dat clk all own t (qs.drop j) X true = xTick dat clk all own t (qs.drop (j + 1)) X false := by
  rw [drop_c h]; simp [xTick, hs]
theorem xT_step {dat : Nat → Int32} {clk all own : Int32} {t j : Nat} {X : XS} {qs : List Nat} (h : j < qs.length) (hs : xSt X = false) : xTick dat clk all own t (qs.drop j) X false = xTick dat clk all own t (qs.drop (j + 1)) (xStep dat clk all own t (qs.getD j 0) X) (xSkip all (qs.getD j 0)) := by
  rw [drop_c h]; simp [xTick, hs]
theorem xG_stop {dat : Nat → Int32} {clk all own : Int32} {t n : Nat} {X : XS} {qs : List Nat} {rows : List Int32} (h : t < n) (hs : xSt (xTick dat clk all own t qs X false) = true) : xGo dat clk all own qs (n - t) t X rows = (xTick dat clk all own t qs X false, rows) := by
  rw [show n - t = (n - (t + 1)) + 1 by omega]; simp [xGo, hs]
theorem xG_step {dat : Nat → Int32} {clk all own : Int32} {t n : Nat} {X : XS} {qs : List Nat} {rows : List Int32} (h : t < n) (hs : xSt (xTick dat clk all own t qs X false) = false) : xGo dat clk all own qs (n - t) t X rows = xGo dat clk all own qs (n - (t + 1)) (t + 1) (xTick dat clk all own t qs X false) (rows ++ [xV (xTick dat clk all own t qs X false)]) := by
  rw [show n - t = (n - (t + 1)) + 1 by omega]; simp [xGo, hs]
set_option maxHeartbeats 4000000 in
set_option maxRecDepth 100000 in
theorem c5_step (l : Launch) (g : GG) (h : Nat) (ad : Nat → Nat) (φ : Nat → Int32) (α : Nat → Nat → Int32) (hD : wD (wA g h ad) g h ad) (dat : Nat → Int32) (clk all own : Int32) (t q : Nat) (X : XS) (hq : q < 256) (ht : t < 16) (hd : ∀ i, i < 8 → α 3 i = dat i) (hc : φ 5 = clk) (f26 : φ 26 = xRS X) (f27 : φ 27 = xRW X) (f28 : φ 28 = bI (xSd X)) (f29 : φ 29 = bI (xCk X)) (f30 : φ 30 = bI (xSt X)) (f31 : φ 31 = bI false) : Met l yX5_step (.code yX5_step cX5_step 8 (some .int) :: wsL_law) ({ frames := 1, cells := 0, slots := 0, locals := 22 } : Room) (mP g [.ref (h), .int (xV X), .int (nI (q)), .int (all), .int (own), .int (nI (t))] (fun H => va_P g.1 vwCl (wM g h ad φ α) H)) (mQ (wA g h ad) (fun z H => z = some (.int (xV (xStep dat clk all own t q X))) ∧ ∃ ψ : Nat → Int32, va_P g.1 vwCl (wM g h ad ψ α) H ∧ (ψ 26 = xRS (xStep dat clk all own t q X) ∧ ψ 27 = xRW (xStep dat clk all own t q X) ∧ ψ 28 = bI (xSd (xStep dat clk all own t q X)) ∧ ψ 29 = bI (xCk (xStep dat clk all own t q X)) ∧ ψ 30 = bI (xSt (xStep dat clk all own t q X)) ∧ ψ 31 = bI (xSkip all q)) ∧ ∀ k, k < 26 ∨ 31 < k → ψ k = φ k)) 0 0 (wA g h ad) := by
  refine mMet (by decide) (Nat.le_of_ble_eq_true rfl) ?_
  intro p e s m below meth c C hr hlk hnm hM ls hl
  have hx := C.1.1
  have hb := C.1.2.1
  have hl : lv_has ls 8 [(0, .ref (h)), (1, .int (xV X)), (2, .int (nI (q))), (3, .int (all)), (4, .int (own)), (5, .int (nI (t)))] := hl
  have hS : va_S (wA g h ad) s.heap s.heap [] := va_S.rf
  have hrec := q_recv C hM 0 rw_0 rfl
  refine lv_iload_n hx hb dX5_step_0 rfl (lv_at hl 2 rfl) ?_
  refine lv_bipush (v := 15) hx hb dX5_step_1 (by decide) ?_
  refine lv_iand hx hb dX5_step_3 ?_
  refine w_topi (y := (nI (q % 16))) (pk_andN (by omega) 4 (by decide)) ?_
  refine lv_istore (lv' := [(6, .int (nI (q % 16))), (0, .ref (h)), (1, .int (xV X)), (2, .int (nI (q))), (3, .int (all)), (4, .int (own)), (5, .int (nI (t)))]) hx hb dX5_step_4 hl (by decide) rfl (fun ls hl => ?_)
  refine lv_iload_n hx hb dX5_step_6 rfl (lv_at hl 3 rfl) ?_
  refine lv_iconst (v := 4) hx hb dX5_step_7 (by decide) ?_
  refine lv_ishr hx hb dX5_step_8 ?_
  refine w_topi (y := (nI (q / 16))) (pk_shrN (by omega) (4 &&& 31) 4 (by decide)) ?_
  refine lv_istore (lv' := [(7, .int (nI (q / 16))), (6, .int (nI (q % 16))), (0, .ref (h)), (1, .int (xV X)), (2, .int (nI (q))), (3, .int (all)), (4, .int (own)), (5, .int (nI (t)))]) hx hb dX5_step_9 hl (by decide) rfl (fun ls hl => ?_)
  refine lv_iload hx hb dX5_step_11 (lv_at hl 0 rfl) ?_
  refine n_ifne (tgt := 21) C (by omega) dX5_step_13 (by decide) (fun c13 => ?_) (fun c13 => ?_)
  · skip
    refine lv_iload hx hb dX5_step_21 (lv_at hl 0 rfl) ?_
    refine lv_iconst (v := nI 1) hx hb dX5_step_23 (by decide) ?_
    refine n_icmp_ne (tgt := 32) C (by omega) (by omega) dX5_step_24 (by decide) (fun c24 => ?_) (fun c24 => ?_)
    · skip
      refine lv_iload hx hb dX5_step_32 (lv_at hl 0 rfl) ?_
      refine lv_iconst (v := nI 2) hx hb dX5_step_34 (by decide) ?_
      refine n_icmp_eq (tgt := 44) C (by omega) (by omega) dX5_step_35 (by decide) (fun c35 => ?_) (fun c35 => ?_)
      · skip
        refine lv_aload_n hx hb dX5_step_44 rfl (lv_at hl 2 rfl) ?_
        refine lv_aload_n hx hb dX5_step_45 rfl (lv_at hl 2 rfl) ?_
        refine q_get C f_X5_93 hM 0 rw_0 ro_26 dX5_step_46 ?_
        refine lv_iconst (v := 1) hx hb dX5_step_49 (by decide) ?_
        refine lv_iload hx hb dX5_step_50 (lv_at hl 1 rfl) ?_
        refine lv_iconst (v := nI 4) hx hb dX5_step_52 (by decide) ?_
        refine n_irem C (by omega) (by omega) (by omega) dX5_step_53 ?_
        refine lv_ishl hx hb dX5_step_54 ?_
        refine lv_ior hx hb dX5_step_55 ?_
        refine rp_26 C hM hD hS dX5_step_56 (fun H locs hM hS => ?_)
        refine lv_iload hx hb dX5_step_59 (lv_at hl 0 rfl) ?_
        refine lv_iconst (v := nI 2) hx hb dX5_step_61 (by decide) ?_
        refine n_icmp_ne (tgt := 77) C (by omega) (by omega) dX5_step_62 (by decide) (fun c62 => by exfalso; exact c62 c35) (fun c62 => ?_)
        refine lv_iload_n hx hb dX5_step_65 rfl (lv_at hl 3 rfl) ?_
        refine lv_aload_n hx hb dX5_step_66 rfl (lv_at hl 2 rfl) ?_
        refine lv_iload_n hx hb dX5_step_67 rfl (lv_at hl 5 rfl) ?_
        refine lv_iload hx hb dX5_step_68 (lv_at hl 1 rfl) ?_
        refine lv_iconst (v := nI 4) hx hb dX5_step_70 (by decide) ?_
        refine n_irem C (by omega) (by omega) (by omega) dX5_step_71 ?_
        have hrec := q_recv C hM 0 rw_0 rfl
        refine k_i (c_V (As := [.int (all), .int (nI ((q % 16) % 4))]) (rest := [.int (xV X)]) C v_X5_86 (c5_setting l g h (all) ((q % 16) % 4)) ⟨Nat.le_of_ble_eq_true rfl, Nat.le_of_ble_eq_true rfl⟩ (hrec) (trivial) hl.1 rfl rfl (Nat.le_of_ble_eq_true rfl) dX5_step_72 ⟨Nat.le_of_ble_eq_true rfl, Nat.le_of_ble_eq_true rfl⟩) (fun r72 q72 => ?_)
        subst q72
        refine lv_iadd hx hb dX5_step_75 ?_
        exact r_wi C hr hlk hS (⟨sv (by rw [xs_2 c35]; rfl), _, hM, ⟨by rw [xs_2 c35]; show φ 26 ||| _ = _; rw [f26]; rfl, by rw [xs_2 c35]; exact f27, by rw [xs_2 c35]; exact f28, by rw [xs_2 c35]; exact f29, by rw [xs_2 c35]; exact f30, by rw [xk_n (by omega)]; exact f31⟩, fun k hk => pk_un (by omega)⟩) dX5_step_76
      · skip
        refine lv_iload hx hb dX5_step_38 (lv_at hl 0 rfl) ?_
        refine lv_iconst (v := nI 3) hx hb dX5_step_40 (by decide) ?_
        refine n_icmp_ne (tgt := 104) C (by omega) (by omega) dX5_step_41 (by decide) (fun c41 => ?_) (fun c41 => ?_)
        · skip
          refine lv_iload hx hb dX5_step_104 (lv_at hl 0 rfl) ?_
          refine lv_iconst (v := nI 4) hx hb dX5_step_106 (by decide) ?_
          refine n_icmp_ne (tgt := 125) C (by omega) (by omega) dX5_step_107 (by decide) (fun c107 => ?_) (fun c107 => ?_)
          · skip
            refine lv_iload hx hb dX5_step_125 (lv_at hl 0 rfl) ?_
            refine lv_iconst (v := nI 5) hx hb dX5_step_127 (by decide) ?_
            refine n_icmp_ne (tgt := 166) C (by omega) (by omega) dX5_step_128 (by decide) (fun c128 => ?_) (fun c128 => ?_)
            · skip
              refine lv_iload hx hb dX5_step_166 (lv_at hl 0 rfl) ?_
              refine lv_bipush (v := nI 6) hx hb dX5_step_168 (by decide) ?_
              refine n_icmp_ne (tgt := 185) C (by omega) (by omega) dX5_step_170 (by decide) (fun c170 => ?_) (fun c170 => ?_)
              · skip
                refine lv_iload hx hb dX5_step_185 (lv_at hl 0 rfl) ?_
                refine lv_bipush (v := nI 7) hx hb dX5_step_187 (by decide) ?_
                refine n_icmp_ne (tgt := 214) C (by omega) (by omega) dX5_step_189 (by decide) (fun c189 => ?_) (fun c189 => ?_)
                · skip
                  refine lv_iload hx hb dX5_step_214 (lv_at hl 0 rfl) ?_
                  refine lv_bipush (v := nI 8) hx hb dX5_step_216 (by decide) ?_
                  refine n_icmp_ne (tgt := 228) C (by omega) (by omega) dX5_step_218 (by decide) (fun c218 => ?_) (fun c218 => ?_)
                  · skip
                    refine lv_iload hx hb dX5_step_228 (lv_at hl 0 rfl) ?_
                    refine lv_bipush (v := nI 9) hx hb dX5_step_230 (by decide) ?_
                    refine n_icmp_ne (tgt := 253) C (by omega) (by omega) dX5_step_232 (by decide) (fun c232 => ?_) (fun c232 => ?_)
                    · skip
                      refine lv_iload_n hx hb dX5_step_253 rfl (lv_at hl 3 rfl) ?_
                      exact r_wi C hr hlk hS (⟨sv (by rw [xs_n (by omega)]), _, hM, ⟨by rw [xs_n (by omega)]; exact f26, by rw [xs_n (by omega)]; exact f27, by rw [xs_n (by omega)]; exact f28, by rw [xs_n (by omega)]; exact f29, by rw [xs_n (by omega)]; exact f30, by rw [xk_n (by omega)]; exact f31⟩, fun k hk => rfl⟩) dX5_step_254
                    · skip
                      refine lv_aload_n hx hb dX5_step_235 rfl (lv_at hl 2 rfl) ?_
                      refine lv_iload_n hx hb dX5_step_236 rfl (lv_at hl 3 rfl) ?_
                      refine lv_iload hx hb dX5_step_237 (lv_at hl 1 rfl) ?_
                      refine lv_iconst (v := nI 1) hx hb dX5_step_239 (by decide) ?_
                      refine n_iadd C dX5_step_240 ?_
                      refine lv_irem hx hb dX5_step_241 (nI_ne0 (by omega) (by omega)) ?_
                      refine lv_if_ne (tgt := 249) hx hb dX5_step_242 (by decide) (fun c242 => ?_) (fun c242 => ?_)
                      · skip
                        refine lv_iconst (v := bI false) hx hb dX5_step_249 (by decide) ?_
                        refine rp_30 C hM hD hS (by first | exact Or.inl rfl | exact Or.inr rfl | exact bI_or _) dX5_step_250 (fun H locs hM hS => ?_)
                        refine lv_iload_n hx hb dX5_step_253 rfl (lv_at hl 3 rfl) ?_
                        exact r_wi C hr hlk hS (⟨sv (by rw [xs_9 c232]; rfl), _, hM, ⟨by rw [xs_9 c232]; exact f26, by rw [xs_9 c232]; exact f27, by rw [xs_9 c232]; exact f28, by rw [xs_9 c232]; exact f29, by rw [xs_9 c232]; show bI false = bI (decide _); rw [decide_eq_false (show ¬ jrem (xV X) (nI (q % 16 + 1)) = 0 from c242)], by rw [xk_n (by omega)]; exact f31⟩, fun k hk => pk_un (by omega)⟩) dX5_step_254
                      · skip
                        refine lv_iconst (v := bI true) hx hb dX5_step_245 (by decide) ?_
                        refine lv_goto (tgt := 250) hx hb dX5_step_246 (by decide) ?_
                        refine rp_30 C hM hD hS (by first | exact Or.inl rfl | exact Or.inr rfl | exact bI_or _) dX5_step_250 (fun H locs hM hS => ?_)
                        refine lv_iload_n hx hb dX5_step_253 rfl (lv_at hl 3 rfl) ?_
                        exact r_wi C hr hlk hS (⟨sv (by rw [xs_9 c232]; rfl), _, hM, ⟨by rw [xs_9 c232]; exact f26, by rw [xs_9 c232]; exact f27, by rw [xs_9 c232]; exact f28, by rw [xs_9 c232]; exact f29, by rw [xs_9 c232]; show bI true = bI (decide _); rw [decide_eq_true (show jrem (xV X) (nI (q % 16 + 1)) = 0 from c242)], by rw [xk_n (by omega)]; exact f31⟩, fun k hk => pk_un (by omega)⟩) dX5_step_254
                  · skip
                    refine lv_iload_n hx hb dX5_step_221 rfl (lv_at hl 3 rfl) ?_
                    refine lv_iload hx hb dX5_step_222 (lv_at hl 1 rfl) ?_
                    refine lv_iconst (v := nI 2) hx hb dX5_step_224 (by decide) ?_
                    refine n_iadd C dX5_step_225 ?_
                    refine lv_irem hx hb dX5_step_226 (nI_ne0 (by omega) (by omega)) ?_
                    exact r_wi C hr hlk hS (⟨sv (by rw [xs_8 c218]; rfl), _, hM, ⟨by rw [xs_8 c218]; exact f26, by rw [xs_8 c218]; exact f27, by rw [xs_8 c218]; exact f28, by rw [xs_8 c218]; exact f29, by rw [xs_8 c218]; exact f30, by rw [xk_n (by omega)]; exact f31⟩, fun k hk => rfl⟩) dX5_step_227
                · skip
                  refine lv_iload hx hb dX5_step_192 (lv_at hl 1 rfl) ?_
                  refine n_ifne (tgt := 201) C (by omega) dX5_step_194 (by decide) (fun c194 => ?_) (fun c194 => ?_)
                  · skip
                    refine lv_iload_n hx hb dX5_step_201 rfl (lv_at hl 3 rfl) ?_
                    refine lv_iload hx hb dX5_step_202 (lv_at hl 1 rfl) ?_
                    refine lv_ishl hx hb dX5_step_204 ?_
                    refine lv_iload_n hx hb dX5_step_205 rfl (lv_at hl 3 rfl) ?_
                    refine lv_bipush (v := nI 32) hx hb dX5_step_206 (by decide) ?_
                    refine lv_iload hx hb dX5_step_208 (lv_at hl 1 rfl) ?_
                    refine n_isub C (by omega) dX5_step_210 ?_
                    refine lv_iushr hx hb dX5_step_211 rfl ?_
                    refine lv_ior hx hb dX5_step_212 ?_
                    exact r_wi C hr hlk hS (⟨sv (by rw [xs_7 c189]; show _ = jrot _ _; simp only [jrot, c194, if_true, if_false]), _, hM, ⟨by rw [xs_7 c189]; exact f26, by rw [xs_7 c189]; exact f27, by rw [xs_7 c189]; exact f28, by rw [xs_7 c189]; exact f29, by rw [xs_7 c189]; exact f30, by rw [xk_n (by omega)]; exact f31⟩, fun k hk => rfl⟩) dX5_step_213
                  · skip
                    refine lv_iload_n hx hb dX5_step_197 rfl (lv_at hl 3 rfl) ?_
                    refine lv_goto (tgt := 213) hx hb dX5_step_198 (by decide) ?_
                    exact r_wi C hr hlk hS (⟨sv (by rw [xs_7 c189]; show _ = jrot _ _; simp only [jrot, c194, if_true, if_false]), _, hM, ⟨by rw [xs_7 c189]; exact f26, by rw [xs_7 c189]; exact f27, by rw [xs_7 c189]; exact f28, by rw [xs_7 c189]; exact f29, by rw [xs_7 c189]; exact f30, by rw [xk_n (by omega)]; exact f31⟩, fun k hk => rfl⟩) dX5_step_213
              · skip
                refine lv_aload_n hx hb dX5_step_173 rfl (lv_at hl 2 rfl) ?_
                refine lv_iconst (v := bI true) hx hb dX5_step_174 (by decide) ?_
                refine rp_29 C hM hD hS (by first | exact Or.inl rfl | exact Or.inr rfl | exact bI_or _) dX5_step_175 (fun H locs hM hS => ?_)
                refine lv_iload_n hx hb dX5_step_178 rfl (lv_at hl 3 rfl) ?_
                refine lv_aload_n hx hb dX5_step_179 rfl (lv_at hl 2 rfl) ?_
                refine q_get (v := .int (φ 5)) C f_X5_109 hM 0 rw_0 rfl dX5_step_180 ?_
                refine w_topi (y := (clk)) (hc) ?_
                refine lv_iadd hx hb dX5_step_183 ?_
                exact r_wi C hr hlk hS (⟨sv (by rw [xs_6 c170]; rfl), _, hM, ⟨by rw [xs_6 c170]; exact f26, by rw [xs_6 c170]; exact f27, by rw [xs_6 c170]; exact f28, by rw [xs_6 c170]; rfl, by rw [xs_6 c170]; exact f30, by rw [xk_n (by omega)]; exact f31⟩, fun k hk => pk_un (by omega)⟩) dX5_step_184
            · skip
              refine lv_aload_n hx hb dX5_step_131 rfl (lv_at hl 2 rfl) ?_
              refine lv_aload_n hx hb dX5_step_132 rfl (lv_at hl 2 rfl) ?_
              refine q_get C f_X5_103 hM 0 rw_0 ro_27 dX5_step_133 ?_
              refine lv_iconst (v := 1) hx hb dX5_step_136 (by decide) ?_
              refine lv_iload hx hb dX5_step_137 (lv_at hl 7 rfl) ?_
              refine lv_iload hx hb dX5_step_139 (lv_at hl 1 rfl) ?_
              refine n_iadd C dX5_step_141 ?_
              refine lv_bipush (v := nI 8) hx hb dX5_step_142 (by decide) ?_
              refine n_irem C (by omega) (by omega) (by omega) dX5_step_144 ?_
              refine lv_ishl hx hb dX5_step_145 ?_
              refine lv_ior hx hb dX5_step_146 ?_
              refine rp_27 C hM hD hS dX5_step_147 (fun H locs hM hS => ?_)
              refine lv_iload_n hx hb dX5_step_150 rfl (lv_at hl 3 rfl) ?_
              refine lv_aload_n hx hb dX5_step_151 rfl (lv_at hl 2 rfl) ?_
              refine q_get C f_X5_16 hM 0 rw_0 ro_3 dX5_step_152 ?_
              refine lv_iload hx hb dX5_step_155 (lv_at hl 7 rfl) ?_
              refine lv_iload hx hb dX5_step_157 (lv_at hl 1 rfl) ?_
              refine n_iadd C dX5_step_159 ?_
              refine lv_bipush (v := nI 8) hx hb dX5_step_160 (by decide) ?_
              refine n_irem C (by omega) (by omega) (by omega) dX5_step_162 ?_
              refine n_iald C hM 3 rw_3 (by omega) (by decide) dX5_step_163 ?_
              refine w_topi (y := (dat ((t + q % 16) % 8))) (hd _ (by omega)) ?_
              refine lv_iadd hx hb dX5_step_164 ?_
              exact r_wi C hr hlk hS (⟨sv (by rw [xs_5 c128]; rfl), _, hM, ⟨by rw [xs_5 c128]; exact f26, by rw [xs_5 c128]; show φ 27 ||| _ = _; rw [f27]; rfl, by rw [xs_5 c128]; exact f28, by rw [xs_5 c128]; exact f29, by rw [xs_5 c128]; exact f30, by rw [xk_n (by omega)]; exact f31⟩, fun k hk => pk_un (by omega)⟩) dX5_step_165
          · skip
            refine lv_aload_n hx hb dX5_step_110 rfl (lv_at hl 2 rfl) ?_
            refine lv_iconst (v := bI true) hx hb dX5_step_111 (by decide) ?_
            refine rp_28 C hM hD hS (by first | exact Or.inl rfl | exact Or.inr rfl | exact bI_or _) dX5_step_112 (fun H locs hM hS => ?_)
            refine lv_iload_n hx hb dX5_step_115 rfl (lv_at hl 3 rfl) ?_
            refine lv_iload hx hb dX5_step_116 (lv_at hl 6 rfl) ?_
            refine lv_iload hx hb dX5_step_118 (lv_at hl 1 rfl) ?_
            refine lv_iconst (v := nI 1) hx hb dX5_step_120 (by decide) ?_
            refine n_iadd C dX5_step_121 ?_
            refine lv_imul hx hb dX5_step_122 ?_
            refine lv_ixor hx hb dX5_step_123 ?_
            exact r_wi C hr hlk hS (⟨sv (by rw [xs_4 c107]; rfl), _, hM, ⟨by rw [xs_4 c107]; exact f26, by rw [xs_4 c107]; exact f27, by rw [xs_4 c107]; rfl, by rw [xs_4 c107]; exact f29, by rw [xs_4 c107]; exact f30, by rw [xk_n (by omega)]; exact f31⟩, fun k hk => pk_un (by omega)⟩) dX5_step_124
        · skip
          refine lv_aload_n hx hb dX5_step_44 rfl (lv_at hl 2 rfl) ?_
          refine lv_aload_n hx hb dX5_step_45 rfl (lv_at hl 2 rfl) ?_
          refine q_get C f_X5_93 hM 0 rw_0 ro_26 dX5_step_46 ?_
          refine lv_iconst (v := 1) hx hb dX5_step_49 (by decide) ?_
          refine lv_iload hx hb dX5_step_50 (lv_at hl 1 rfl) ?_
          refine lv_iconst (v := nI 4) hx hb dX5_step_52 (by decide) ?_
          refine n_irem C (by omega) (by omega) (by omega) dX5_step_53 ?_
          refine lv_ishl hx hb dX5_step_54 ?_
          refine lv_ior hx hb dX5_step_55 ?_
          refine rp_26 C hM hD hS dX5_step_56 (fun H locs hM hS => ?_)
          refine lv_iload hx hb dX5_step_59 (lv_at hl 0 rfl) ?_
          refine lv_iconst (v := nI 2) hx hb dX5_step_61 (by decide) ?_
          refine n_icmp_ne (tgt := 77) C (by omega) (by omega) dX5_step_62 (by decide) (fun c62 => ?_) (fun c62 => by exfalso; omega)
          refine lv_aload_n hx hb dX5_step_77 rfl (lv_at hl 2 rfl) ?_
          refine lv_aload_n hx hb dX5_step_78 rfl (lv_at hl 2 rfl) ?_
          refine lv_iload_n hx hb dX5_step_79 rfl (lv_at hl 5 rfl) ?_
          refine lv_iload hx hb dX5_step_80 (lv_at hl 1 rfl) ?_
          refine lv_iconst (v := nI 4) hx hb dX5_step_82 (by decide) ?_
          refine n_irem C (by omega) (by omega) (by omega) dX5_step_83 ?_
          have hrec := q_recv C hM 0 rw_0 rfl
          refine k_i (c_V (As := [.int (all), .int (nI ((q % 16) % 4))]) (rest := [.ref (h)]) C v_X5_86 (c5_setting l g h (all) ((q % 16) % 4)) ⟨Nat.le_of_ble_eq_true rfl, Nat.le_of_ble_eq_true rfl⟩ (hrec) (trivial) hl.1 rfl rfl (Nat.le_of_ble_eq_true rfl) dX5_step_84 ⟨Nat.le_of_ble_eq_true rfl, Nat.le_of_ble_eq_true rfl⟩) (fun r84 q84 => ?_)
          subst q84
          refine lv_iload hx hb dX5_step_87 (lv_at hl 1 rfl) ?_
          refine lv_iconst (v := nI 4) hx hb dX5_step_89 (by decide) ?_
          refine n_idiv C (by omega) (by omega) (by omega) dX5_step_90 ?_
          refine lv_icmp_le (tgt := 98) hx hb dX5_step_91 (by decide) (fun c91 => ?_) (fun c91 => ?_)
          · skip
            refine lv_iconst (v := bI false) hx hb dX5_step_98 (by decide) ?_
            refine rp_31 C hM hD hS (by first | exact Or.inl rfl | exact Or.inr rfl | exact bI_or _) dX5_step_99 (fun H locs hM hS => ?_)
            refine lv_iload_n hx hb dX5_step_102 rfl (lv_at hl 3 rfl) ?_
            exact r_wi C hr hlk hS (⟨sv (by rw [xs_3 c41]; rfl), _, hM, ⟨by rw [xs_3 c41]; show φ 26 ||| _ = _; rw [f26]; rfl, by rw [xs_3 c41]; exact f27, by rw [xs_3 c41]; exact f28, by rw [xs_3 c41]; exact f29, by rw [xs_3 c41]; exact f30, by rw [xk_3 c41]; show bI false = _; rw [decide_eq_false (fun hz => (fa_of_lt hz).2.1 c91)]⟩, fun k hk => (pk_un (by omega)).trans (pk_un (by omega))⟩) dX5_step_103
          · skip
            refine lv_iconst (v := bI true) hx hb dX5_step_94 (by decide) ?_
            refine lv_goto (tgt := 99) hx hb dX5_step_95 (by decide) ?_
            refine rp_31 C hM hD hS (by first | exact Or.inl rfl | exact Or.inr rfl | exact bI_or _) dX5_step_99 (fun H locs hM hS => ?_)
            refine lv_iload_n hx hb dX5_step_102 rfl (lv_at hl 3 rfl) ?_
            exact r_wi C hr hlk hS (⟨sv (by rw [xs_3 c41]; rfl), _, hM, ⟨by rw [xs_3 c41]; show φ 26 ||| _ = _; rw [f26]; rfl, by rw [xs_3 c41]; exact f27, by rw [xs_3 c41]; exact f28, by rw [xs_3 c41]; exact f29, by rw [xs_3 c41]; exact f30, by rw [xk_3 c41]; show bI true = _; rw [decide_eq_true (fa_of_nle c91)]⟩, fun k hk => (pk_un (by omega)).trans (pk_un (by omega))⟩) dX5_step_103
    · skip
      refine lv_iload_n hx hb dX5_step_27 rfl (lv_at hl 3 rfl) ?_
      refine lv_iload hx hb dX5_step_28 (lv_at hl 1 rfl) ?_
      refine lv_imul hx hb dX5_step_30 ?_
      exact r_wi C hr hlk hS (⟨sv (by rw [xs_1 c24]; rfl), _, hM, ⟨by rw [xs_1 c24]; exact f26, by rw [xs_1 c24]; exact f27, by rw [xs_1 c24]; exact f28, by rw [xs_1 c24]; exact f29, by rw [xs_1 c24]; exact f30, by rw [xk_n (by omega)]; exact f31⟩, fun k hk => rfl⟩) dX5_step_31
  · skip
    refine lv_iload_n hx hb dX5_step_16 rfl (lv_at hl 3 rfl) ?_
    refine lv_iload hx hb dX5_step_17 (lv_at hl 1 rfl) ?_
    refine lv_iadd hx hb dX5_step_19 ?_
    exact r_wi C hr hlk hS (⟨sv (by rw [xs_0 c13]; rfl), _, hM, ⟨by rw [xs_0 c13]; exact f26, by rw [xs_0 c13]; exact f27, by rw [xs_0 c13]; exact f28, by rw [xs_0 c13]; exact f29, by rw [xs_0 c13]; exact f30, by rw [xk_n (by omega)]; exact f31⟩, fun k hk => rfl⟩) dX5_step_20
theorem rowsApp {β : Nat → Nat → Int32} {rows : List Int32} {f t : Nat} {x : Int32} (hlen : rows.length = t) (hrow : ∀ j, f ≤ j → j < rows.length → β 23 j = rows.getD j 0) : ∀ j, f ≤ j → j < (rows ++ [x]).length → aset β 23 t x 23 j = (rows ++ [x]).getD j 0 := by
  intro j h1 h2
  rw [List.length_append, List.length_singleton] at h2
  rcases Nat.lt_or_ge j rows.length with h | h
  · rw [asetO _ _ _ (by omega), hrow j h1 h, List.getD_eq_getElem?_getD, List.getD_eq_getElem?_getD, List.getElem?_append_left h]
  · have e : j = rows.length := by omega
    subst e
    rw [← hlen, asetV, List.getD_eq_getElem?_getD, List.getElem?_append_right (Nat.le_refl _)]
    simp
theorem lenApp {rows : List Int32} {x : Int32} {t : Nat} (h : rows.length = t) : (rows ++ [x]).length = t + 1 := by rw [List.length_append, h]; rfl
set_option maxHeartbeats 4000000 in
set_option maxRecDepth 100000 in
theorem c5_goes (l : Launch) (g : GG) (h : Nat) (ad : Nat → Nat) (φ : Nat → Int32) (α : Nat → Nat → Int32) (hD : wD (wA g h ad) g h ad) (dat : Nat → Int32) (clk all own : Int32) (qs : List Nat) (r f tk : Nat) (x0 : Int32) (rows0 : List Int32) (hr0 : r < 40) (hq8 : qs.length ≤ 8) (hqv : ∀ j, j < qs.length → qs.getD j 0 < 256) (hql : α 8 r = nI qs.length) (hqs : ∀ j, j < qs.length → α 9 (8 * r + j) = nI (qs.getD j 0)) (hf : f ≤ tk) (htk : tk ≤ 16) (hl0 : rows0.length = f) (hd : ∀ i, i < 8 → α 3 i = dat i) (hc : φ 5 = clk) : Met l yX5_goes (.code yX5_goes cX5_goes 10 none :: wsL_law) ({ frames := 2, cells := 0, slots := 0, locals := 49 } : Room) (mP g [.ref (h), .int (nI (r)), .int (nI (f)), .int (x0), .int (all), .int (own), .int (nI (tk))] (fun H => va_P g.1 vwCl (wM g h ad φ α) H)) (mQ (wA g h ad) (fun z H => z = none ∧ ∃ (ψ : Nat → Int32) (β : Nat → Nat → Int32), va_P g.1 vwCl (wM g h ad ψ β) H ∧ (ψ 24 = nI (xGo dat clk all own qs (tk - f) f (x0, 0, 0, false, false, false) rows0).2.length ∧ ψ 25 = bI (xSt (xGo dat clk all own qs (tk - f) f (x0, 0, 0, false, false, false) rows0).1) ∧ ψ 26 = xRS (xGo dat clk all own qs (tk - f) f (x0, 0, 0, false, false, false) rows0).1 ∧ ψ 27 = xRW (xGo dat clk all own qs (tk - f) f (x0, 0, 0, false, false, false) rows0).1 ∧ ψ 28 = bI (xSd (xGo dat clk all own qs (tk - f) f (x0, 0, 0, false, false, false) rows0).1) ∧ ψ 29 = bI (xCk (xGo dat clk all own qs (tk - f) f (x0, 0, 0, false, false, false) rows0).1)) ∧ (∀ k, k < 24 ∨ 31 < k → ψ k = φ k) ∧ (∀ k, k ≠ 23 → β k = α k) ∧ (∀ j, f ≤ j → j < (xGo dat clk all own qs (tk - f) f (x0, 0, 0, false, false, false) rows0).2.length → β 23 j = (xGo dat clk all own qs (tk - f) f (x0, 0, 0, false, false, false) rows0).2.getD j 0))) 0 0 (wA g h ad) := by
  refine mMet (by decide) (Nat.le_of_ble_eq_true rfl) ?_
  intro p e s m below meth c C hr hlk hnm hM ls hl
  have hx := C.1.1
  have hb := C.1.2.1
  have hl : lv_has ls 10 [(0, .ref (h)), (1, .int (nI (r))), (2, .int (nI (f))), (3, .int (x0)), (4, .int (all)), (5, .int (own)), (6, .int (nI (tk)))] := hl
  have hS : va_S (wA g h ad) s.heap s.heap [] := va_S.rf
  obtain ⟨Z, hZ⟩ : ∃ Z : XS × List Int32, Z = xGo dat clk all own qs (tk - f) f (x0, 0, 0, false, false, false) rows0 := ⟨_, rfl⟩
  refine lv_iload_n hx hb dX5_goes_0 rfl (lv_at hl 3 rfl) ?_
  refine lv_istore (lv' := [(7, .int (x0)), (0, .ref (h)), (1, .int (nI (r))), (2, .int (nI (f))), (3, .int (x0)), (4, .int (all)), (5, .int (own)), (6, .int (nI (tk)))]) hx hb dX5_goes_1 hl (by decide) rfl (fun ls hl => ?_)
  refine lv_aload_n hx hb dX5_goes_3 rfl (lv_at hl 1 rfl) ?_
  refine lv_iload_n hx hb dX5_goes_4 rfl (lv_at hl 3 rfl) ?_
  refine rp_24 C hM hD hS dX5_goes_5 (fun H locs hM hS => ?_)
  refine lv_aload_n hx hb dX5_goes_8 rfl (lv_at hl 1 rfl) ?_
  refine lv_iconst (v := bI false) hx hb dX5_goes_9 (by decide) ?_
  refine rp_25 C hM hD hS (by first | exact Or.inl rfl | exact Or.inr rfl | exact bI_or _) dX5_goes_10 (fun H locs hM hS => ?_)
  refine lv_aload_n hx hb dX5_goes_13 rfl (lv_at hl 1 rfl) ?_
  refine lv_iconst (v := 0) hx hb dX5_goes_14 (by decide) ?_
  refine rp_26 C hM hD hS dX5_goes_15 (fun H locs hM hS => ?_)
  refine lv_aload_n hx hb dX5_goes_18 rfl (lv_at hl 1 rfl) ?_
  refine lv_iconst (v := 0) hx hb dX5_goes_19 (by decide) ?_
  refine rp_27 C hM hD hS dX5_goes_20 (fun H locs hM hS => ?_)
  refine lv_aload_n hx hb dX5_goes_23 rfl (lv_at hl 1 rfl) ?_
  refine lv_iconst (v := bI false) hx hb dX5_goes_24 (by decide) ?_
  refine rp_28 C hM hD hS (by first | exact Or.inl rfl | exact Or.inr rfl | exact bI_or _) dX5_goes_25 (fun H locs hM hS => ?_)
  refine lv_aload_n hx hb dX5_goes_28 rfl (lv_at hl 1 rfl) ?_
  refine lv_iconst (v := bI false) hx hb dX5_goes_29 (by decide) ?_
  refine rp_29 C hM hD hS (by first | exact Or.inl rfl | exact Or.inr rfl | exact bI_or _) dX5_goes_30 (fun H locs hM hS => ?_)
  refine lv_aload_n hx hb dX5_goes_33 rfl (lv_at hl 1 rfl) ?_
  refine lv_iconst (v := bI false) hx hb dX5_goes_34 (by decide) ?_
  refine rp_30 C hM hD hS (by first | exact Or.inl rfl | exact Or.inr rfl | exact bI_or _) dX5_goes_35 (fun H locs hM hS => ?_)
  refine lv_iload_n hx hb dX5_goes_38 rfl (lv_at hl 3 rfl) ?_
  refine lv_istore (lv' := [(8, .int (nI (f))), (7, .int (x0)), (0, .ref (h)), (1, .int (nI (r))), (2, .int (nI (f))), (3, .int (x0)), (4, .int (all)), (5, .int (own)), (6, .int (nI (tk)))]) hx hb dX5_goes_39 hl (by decide) rfl (fun ls hl => ?_)
  have la : ∀ (n_la : Nat) (t : Nat) (X : XS) (rows : List Int32) (ψ : Nat → Int32) (β : Nat → Nat → Int32) (H : Heap) (locs : List Loc) (x : Int32) (ls : Array Slot), (f ≤ t) → (t ≤ tk) → (tk + 1 ≤ t + n_la) → (va_P g.1 vwCl (wM g h ad ψ β) H) → (va_S (wA g h ad) s.heap H locs) → (ψ 24 = nI rows.length) → (∀ k, k < 24 ∨ 31 < k → ψ k = φ k) → (ψ 26 = xRS X) → (ψ 27 = xRW X) → (ψ 28 = bI (xSd X)) → (ψ 29 = bI (xCk X)) → (ψ 30 = bI (xSt X)) → (∀ k, k ≠ 23 → β k = α k) → (∀ j, f ≤ j → j < rows.length → β 23 j = rows.getD j 0) → (f ≤ rows.length) → (rows.length ≤ t) → (xSt X = false → rows.length = t) → (xSt X = false → x = xV X) → (xSt X = true → Z = (X, rows)) → (xSt X = false → Z = xGo dat clk all own qs (tk - t) t X rows) → lv_has ls 10 [(0, .ref (h)), (1, .int (nI (r))), (2, .int (nI (f))), (3, .int (x0)), (4, .int (all)), (5, .int (own)), (6, .int (nI (tk))), (7, .int (x)), (8, .int (nI (t)))] → W p l e ({ frames := 2, cells := 0, slots := 0, locals := 49 } : Room) s m ([.ref (h), .int (nI (r)), .int (nI (f)), .int (x0), .int (all), .int (own), .int (nI (tk))] : List Value).toArray below meth c H locs 0 0 (MQ below (mQ (wA g h ad) (fun z H => z = none ∧ ∃ (ψ : Nat → Int32) (β : Nat → Nat → Int32), va_P g.1 vwCl (wM g h ad ψ β) H ∧ (ψ 24 = nI (xGo dat clk all own qs (tk - f) f (x0, 0, 0, false, false, false) rows0).2.length ∧ ψ 25 = bI (xSt (xGo dat clk all own qs (tk - f) f (x0, 0, 0, false, false, false) rows0).1) ∧ ψ 26 = xRS (xGo dat clk all own qs (tk - f) f (x0, 0, 0, false, false, false) rows0).1 ∧ ψ 27 = xRW (xGo dat clk all own qs (tk - f) f (x0, 0, 0, false, false, false) rows0).1 ∧ ψ 28 = bI (xSd (xGo dat clk all own qs (tk - f) f (x0, 0, 0, false, false, false) rows0).1) ∧ ψ 29 = bI (xCk (xGo dat clk all own qs (tk - f) f (x0, 0, 0, false, false, false) rows0).1)) ∧ (∀ k, k < 24 ∨ 31 < k → ψ k = φ k) ∧ (∀ k, k ≠ 23 → β k = α k) ∧ (∀ j, f ≤ j → j < (xGo dat clk all own qs (tk - f) f (x0, 0, 0, false, false, false) rows0).2.length → β 23 j = (xGo dat clk all own qs (tk - f) f (x0, 0, 0, false, false, false) rows0).2.getD j 0))) (([.ref (h), .int (nI (r)), .int (nI (f)), .int (x0), .int (all), .int (own), .int (nI (tk))] : List Value).toArray) s 0 0 (wA g h ad)) (F0 m 41 ls []) := by
    intro n_la
    induction n_la with
    | zero =>
      intro t X rows ψ β H locs x ls ht0 ht1 hnla hM hS e24 hk e26 e27 e28 e29 e30 hbe hrow hle hle2 hlen hxv hZ2 hZ1
      exact absurd hnla (by omega)
    | succ n_la ih_la =>
      intro t X rows ψ β H locs x ls ht0 ht1 hnla hM hS e24 hk e26 e27 e28 e29 e30 hbe hrow hle hle2 hlen hxv hZ2 hZ1 hl
      refine lv_iload hx hb dX5_goes_41 (lv_at hl 8 rfl) ?_
      refine lv_iload hx hb dX5_goes_43 (lv_at hl 6 rfl) ?_
      refine n_icmp_ge (tgt := 161) C (by omega) (by omega) dX5_goes_45 (by decide) (fun c45 => ?_) (fun c45 => ?_)
      · skip
        have hZf : Z = (X, rows) := by
          cases hst : xSt X with
          | true => exact hZ2 hst
          | false => rw [hZ1 hst, show tk - t = 0 by omega]; rfl
        refine lv_aload_n hx hb dX5_goes_161 rfl (lv_at hl 0 rfl) ?_
        refine lv_aload_n hx hb dX5_goes_162 rfl (lv_at hl 0 rfl) ?_
        refine q_get C f_X5_112 hM 0 rw_0 ro_30 dX5_goes_163 ?_
        refine w_topi (y := (bI (xSt X))) (e30) ?_
        refine rp_25 C hM hD hS (bI_or _) dX5_goes_166 (fun H locs hM hS => ?_)
        exact r_wv C hr hlk hS (⟨rfl, (upd ψ 25 (bI (xSt X))), β, hM, ⟨by rw [← hZ, hZf]; exact e24, by rw [← hZ, hZf]; rfl, by rw [← hZ, hZf]; exact e26, by rw [← hZ, hZf]; exact e27, by rw [← hZ, hZf]; exact e28, by rw [← hZ, hZf]; exact e29⟩, fun k hk1 => (pk_un (by omega)).trans (hk k hk1), hbe, by rw [← hZ, hZf]; exact hrow⟩) dX5_goes_169
      · skip
        refine lv_aload_n hx hb dX5_goes_48 rfl (lv_at hl 0 rfl) ?_
        refine q_get C f_X5_112 hM 0 rw_0 ro_30 dX5_goes_49 ?_
        refine w_topi (y := (bI (xSt X))) (e30) ?_
        refine b_ifne (tgt := 161) C dX5_goes_52 (by decide) (fun c52 => ?_) (fun c52 => ?_)
        · skip
          have hZf : Z = (X, rows) := by
            cases hst : xSt X with
            | true => exact hZ2 hst
            | false => rw [c52] at hst; cases hst
          refine lv_aload_n hx hb dX5_goes_161 rfl (lv_at hl 0 rfl) ?_
          refine lv_aload_n hx hb dX5_goes_162 rfl (lv_at hl 0 rfl) ?_
          refine q_get C f_X5_112 hM 0 rw_0 ro_30 dX5_goes_163 ?_
          refine w_topi (y := (bI (xSt X))) (e30) ?_
          refine rp_25 C hM hD hS (bI_or _) dX5_goes_166 (fun H locs hM hS => ?_)
          exact r_wv C hr hlk hS (⟨rfl, (upd ψ 25 (bI (xSt X))), β, hM, ⟨by rw [← hZ, hZf]; exact e24, by rw [← hZ, hZf]; rfl, by rw [← hZ, hZf]; exact e26, by rw [← hZ, hZf]; exact e27, by rw [← hZ, hZf]; exact e28, by rw [← hZ, hZf]; exact e29⟩, fun k hk1 => (pk_un (by omega)).trans (hk k hk1), hbe, by rw [← hZ, hZf]; exact hrow⟩) dX5_goes_169
        · skip
          refine lv_aload_n hx hb dX5_goes_55 rfl (lv_at hl 0 rfl) ?_
          refine lv_iconst (v := bI false) hx hb dX5_goes_56 (by decide) ?_
          refine rp_31 C hM hD hS (by first | exact Or.inl rfl | exact Or.inr rfl | exact bI_or _) dX5_goes_57 (fun H locs hM hS => ?_)
          refine lv_iconst (v := nI 0) hx hb dX5_goes_60 (by decide) ?_
          refine lv_istore (lv' := [(9, .int (nI (0))), (0, .ref (h)), (1, .int (nI (r))), (2, .int (nI (f))), (3, .int (x0)), (4, .int (all)), (5, .int (own)), (6, .int (nI (tk))), (7, .int (x)), (8, .int (nI (t)))]) hx hb dX5_goes_61 hl (by decide) rfl (fun ls hl => ?_)
          have lb : ∀ (n_lb : Nat) (j : Nat) (sk : Bool) (X1 : XS) (x1 : Int32) (ψ : Nat → Int32) (H : Heap) (locs : List Loc) (ls : Array Slot), (j ≤ qs.length) → (qs.length + 1 ≤ j + n_lb) → (va_P g.1 vwCl (wM g h ad ψ β) H) → (va_S (wA g h ad) s.heap H locs) → (ψ 24 = nI rows.length) → (∀ k, k < 24 ∨ 31 < k → ψ k = φ k) → (ψ 26 = xRS X1) → (ψ 27 = xRW X1) → (ψ 28 = bI (xSd X1)) → (ψ 29 = bI (xCk X1)) → (ψ 30 = bI (xSt X1)) → (ψ 31 = bI sk) → (xTick dat clk all own t qs X false = xTick dat clk all own t (qs.drop j) X1 sk) → (x1 = xV X1) → lv_has ls 10 [(0, .ref (h)), (1, .int (nI (r))), (2, .int (nI (f))), (3, .int (x0)), (4, .int (all)), (5, .int (own)), (6, .int (nI (tk))), (7, .int (x1)), (8, .int (nI (t))), (9, .int (nI (j)))] → W p l e ({ frames := 2, cells := 0, slots := 0, locals := 49 } : Room) s m ([.ref (h), .int (nI (r)), .int (nI (f)), .int (x0), .int (all), .int (own), .int (nI (tk))] : List Value).toArray below meth c H locs 0 0 (MQ below (mQ (wA g h ad) (fun z H => z = none ∧ ∃ (ψ : Nat → Int32) (β : Nat → Nat → Int32), va_P g.1 vwCl (wM g h ad ψ β) H ∧ (ψ 24 = nI (xGo dat clk all own qs (tk - f) f (x0, 0, 0, false, false, false) rows0).2.length ∧ ψ 25 = bI (xSt (xGo dat clk all own qs (tk - f) f (x0, 0, 0, false, false, false) rows0).1) ∧ ψ 26 = xRS (xGo dat clk all own qs (tk - f) f (x0, 0, 0, false, false, false) rows0).1 ∧ ψ 27 = xRW (xGo dat clk all own qs (tk - f) f (x0, 0, 0, false, false, false) rows0).1 ∧ ψ 28 = bI (xSd (xGo dat clk all own qs (tk - f) f (x0, 0, 0, false, false, false) rows0).1) ∧ ψ 29 = bI (xCk (xGo dat clk all own qs (tk - f) f (x0, 0, 0, false, false, false) rows0).1)) ∧ (∀ k, k < 24 ∨ 31 < k → ψ k = φ k) ∧ (∀ k, k ≠ 23 → β k = α k) ∧ (∀ j, f ≤ j → j < (xGo dat clk all own qs (tk - f) f (x0, 0, 0, false, false, false) rows0).2.length → β 23 j = (xGo dat clk all own qs (tk - f) f (x0, 0, 0, false, false, false) rows0).2.getD j 0))) (([.ref (h), .int (nI (r)), .int (nI (f)), .int (x0), .int (all), .int (own), .int (nI (tk))] : List Value).toArray) s 0 0 (wA g h ad)) (F0 m 63 ls []) := by
            intro n_lb
            induction n_lb with
            | zero =>
              intro j sk X1 x1 ψ H locs ls hj hnlb hM hS e24 hk e26 e27 e28 e29 e30 e31 hTT hx1
              exact absurd hnlb (by omega)
            | succ n_lb ih_lb =>
              intro j sk X1 x1 ψ H locs ls hj hnlb hM hS e24 hk e26 e27 e28 e29 e30 e31 hTT hx1 hl
              refine lv_iload hx hb dX5_goes_63 (lv_at hl 9 rfl) ?_
              refine lv_aload_n hx hb dX5_goes_65 rfl (lv_at hl 0 rfl) ?_
              refine q_get C f_X5_25 hM 0 rw_0 ro_8 dX5_goes_66 ?_
              refine lv_iload_n hx hb dX5_goes_69 rfl (lv_at hl 1 rfl) ?_
              refine n_iald C hM 6 rw_8 (by omega) (by decide) dX5_goes_70 ?_
              refine w_topi (y := (nI (qs.length))) (by rw [hbe 8 (by decide)]; exact hql) ?_
              refine n_icmp_ge (tgt := 128) C (by omega) (by omega) dX5_goes_71 (by decide) (fun c71 => ?_) (fun c71 => ?_)
              · skip
                have hTT : xTick dat clk all own t qs X false = X1 := by rw [hTT]; exact xT_end c71
                refine lv_aload_n hx hb dX5_goes_128 rfl (lv_at hl 0 rfl) ?_
                refine q_get C f_X5_112 hM 0 rw_0 ro_30 dX5_goes_129 ?_
                refine w_topi (y := (bI (xSt X1))) (e30) ?_
                refine b_ifeq (tgt := 138) C dX5_goes_132 (by decide) (fun c132 => ?_) (fun c132 => ?_)
                · skip
                  refine lv_aload_n hx hb dX5_goes_138 rfl (lv_at hl 0 rfl) ?_
                  refine q_get C f_X5_71 hM 0 rw_0 ro_23 dX5_goes_139 ?_
                  refine lv_iload hx hb dX5_goes_142 (lv_at hl 8 rfl) ?_
                  refine lv_iload hx hb dX5_goes_144 (lv_at hl 7 rfl) ?_
                  refine ra_23 C hM hD hS (by omega) dX5_goes_146 (fun H locs hM hS => ?_)
                  refine lv_aload_n hx hb dX5_goes_147 rfl (lv_at hl 0 rfl) ?_
                  refine lv_iload hx hb dX5_goes_148 (lv_at hl 8 rfl) ?_
                  refine lv_iconst (v := nI 1) hx hb dX5_goes_150 (by decide) ?_
                  refine n_iadd C dX5_goes_151 ?_
                  refine rp_24 C hM hD hS dX5_goes_152 (fun H locs hM hS => ?_)
                  refine n_iinc (d := 1) (lv' := [(8, .int (nI (t + 1))), (0, .ref (h)), (1, .int (nI (r))), (2, .int (nI (f))), (3, .int (x0)), (4, .int (all)), (5, .int (own)), (6, .int (nI (tk))), (7, .int (x1)), (9, .int (nI (j)))]) C dX5_goes_155 (by decide) hl (k := 8) rfl (by decide) rfl (fun ls hl => ?_)
                  refine lv_goto (tgt := 41) hx hb dX5_goes_158 (by decide) ?_
                  exact ih_la (t + 1) (X1) (rows ++ [x1]) ((upd ψ 24 (nI (t + 1)))) ((aset β 23 t (x1))) (H) (locs) (x1) ls (by omega) (by omega) (by omega) (hM) (hS) (by rw [lenApp (hlen c52)]; rfl) (fun k hk1 => (pk_un (by omega)).trans (hk k hk1)) (e26) (e27) (e28) (e29) (e30) (fun k hk1 => (asetN _ _ _ hk1).trans (hbe k hk1)) (rowsApp (hlen c52) hrow) (by rw [lenApp (hlen c52)]; omega) (by rw [lenApp (hlen c52)]; omega) (fun _ => lenApp (hlen c52)) (fun _ => hx1) (fun hz => by rw [c132] at hz; cases hz) (fun _ => by rw [hZ1 c52, xG_step c45 (by rw [hTT]; exact c132), hTT, hx1]) (lv_sub hl [1, 2, 3, 4, 5, 6, 7, 8, 0] rfl)
                · skip
                  refine lv_goto (tgt := 155) hx hb dX5_goes_135 (by decide) ?_
                  refine n_iinc (d := 1) (lv' := [(8, .int (nI (t + 1))), (0, .ref (h)), (1, .int (nI (r))), (2, .int (nI (f))), (3, .int (x0)), (4, .int (all)), (5, .int (own)), (6, .int (nI (tk))), (7, .int (x1)), (9, .int (nI (j)))]) C dX5_goes_155 (by decide) hl (k := 8) rfl (by decide) rfl (fun ls hl => ?_)
                  refine lv_goto (tgt := 41) hx hb dX5_goes_158 (by decide) ?_
                  exact ih_la (t + 1) (X1) (rows) (ψ) (β) (H) (locs) (x1) ls (by omega) (by omega) (by omega) (hM) (hS) (e24) (hk) (e26) (e27) (e28) (e29) (e30) (hbe) (hrow) (hle) (by omega) (fun hz => by rw [c132] at hz; cases hz) (fun hz => by rw [c132] at hz; cases hz) (fun _ => by rw [hZ1 c52, xG_stop c45 (by rw [hTT]; exact c132), hTT]) (fun hz => by rw [c132] at hz; cases hz) (lv_sub hl [1, 2, 3, 4, 5, 6, 7, 8, 0] rfl)
              · skip
                refine lv_aload_n hx hb dX5_goes_74 rfl (lv_at hl 0 rfl) ?_
                refine q_get C f_X5_112 hM 0 rw_0 ro_30 dX5_goes_75 ?_
                refine w_topi (y := (bI (xSt X1))) (e30) ?_
                refine b_ifne (tgt := 128) C dX5_goes_78 (by decide) (fun c78 => ?_) (fun c78 => ?_)
                · skip
                  have hTT : xTick dat clk all own t qs X false = X1 := by rw [hTT]; exact xT_stop _ c78
                  refine lv_aload_n hx hb dX5_goes_128 rfl (lv_at hl 0 rfl) ?_
                  refine q_get C f_X5_112 hM 0 rw_0 ro_30 dX5_goes_129 ?_
                  refine w_topi (y := (bI (xSt X1))) (e30) ?_
                  refine b_ifeq (tgt := 138) C dX5_goes_132 (by decide) (fun c132 => by exfalso; rw [c78] at c132; cases c132) (fun c132 => ?_)
                  refine lv_goto (tgt := 155) hx hb dX5_goes_135 (by decide) ?_
                  refine n_iinc (d := 1) (lv' := [(8, .int (nI (t + 1))), (0, .ref (h)), (1, .int (nI (r))), (2, .int (nI (f))), (3, .int (x0)), (4, .int (all)), (5, .int (own)), (6, .int (nI (tk))), (7, .int (x1)), (9, .int (nI (j)))]) C dX5_goes_155 (by decide) hl (k := 8) rfl (by decide) rfl (fun ls hl => ?_)
                  refine lv_goto (tgt := 41) hx hb dX5_goes_158 (by decide) ?_
                  exact ih_la (t + 1) (X1) (rows) (ψ) (β) (H) (locs) (x1) ls (by omega) (by omega) (by omega) (hM) (hS) (e24) (hk) (e26) (e27) (e28) (e29) (e30) (hbe) (hrow) (hle) (by omega) (fun hz => by rw [c132] at hz; cases hz) (fun hz => by rw [c132] at hz; cases hz) (fun _ => by rw [hZ1 c52, xG_stop c45 (by rw [hTT]; exact c132), hTT]) (fun hz => by rw [c132] at hz; cases hz) (lv_sub hl [1, 2, 3, 4, 5, 6, 7, 8, 0] rfl)
                · skip
                  refine lv_aload_n hx hb dX5_goes_81 rfl (lv_at hl 0 rfl) ?_
                  refine q_get C f_X5_96 hM 0 rw_0 ro_31 dX5_goes_82 ?_
                  refine w_topi (y := (bI (sk))) (e31) ?_
                  refine b_ifeq (tgt := 96) C dX5_goes_85 (by decide) (fun c85 => ?_) (fun c85 => ?_)
                  · skip
                    subst hx1
                    refine lv_aload_n hx hb dX5_goes_96 rfl (lv_at hl 0 rfl) ?_
                    refine lv_iload hx hb dX5_goes_97 (lv_at hl 7 rfl) ?_
                    refine lv_aload_n hx hb dX5_goes_99 rfl (lv_at hl 0 rfl) ?_
                    refine q_get C f_X5_28 hM 0 rw_0 ro_9 dX5_goes_100 ?_
                    refine lv_bipush (v := nI 8) hx hb dX5_goes_103 (by decide) ?_
                    refine lv_iload_n hx hb dX5_goes_105 rfl (lv_at hl 1 rfl) ?_
                    refine n_imul C dX5_goes_106 ?_
                    refine lv_iload hx hb dX5_goes_107 (lv_at hl 9 rfl) ?_
                    refine n_iadd C dX5_goes_109 ?_
                    refine n_iald C hM 7 rw_9 (by omega) (by decide) dX5_goes_110 ?_
                    refine w_topi (y := (nI (qs.getD j 0))) (by rw [hbe 9 (by decide)]; exact hqs j (by omega)) ?_
                    refine lv_iload hx hb dX5_goes_111 (lv_at hl 4 rfl) ?_
                    refine lv_iload hx hb dX5_goes_113 (lv_at hl 5 rfl) ?_
                    refine lv_iload hx hb dX5_goes_115 (lv_at hl 8 rfl) ?_
                    refine k_w (c_V (As := [.int (xV X1), .int (nI (qs.getD j 0)), .int (all), .int (own), .int (nI (t))]) (rest := []) C v_X5_121 (c5_step l g h ad ψ β hD dat clk all own t (qs.getD j 0) X1 (hqv j (by omega)) (by omega) (fun i hi => by rw [hbe 3 (by decide)]; exact hd i hi) (by rw [hk 5 (by omega)]; exact hc) e26 e27 e28 e29 e30 (by rw [e31, c85])) ⟨Nat.le_of_ble_eq_true rfl, Nat.le_of_ble_eq_true rfl⟩ (q_recv C hM 0 rw_0 rfl) (hM) hl.1 rfl rfl (Nat.le_of_ble_eq_true rfl) dX5_goes_117 ⟨Nat.le_of_ble_eq_true rfl, Nat.le_of_ble_eq_true rfl⟩) hS (fun _ hq => hq) (fun r117 H1 locs q117 hz117 hk117 hS => ?_)
                    obtain ⟨rfl, ψ2, hM, o, hk2⟩ := q117
                    refine W.eq (g2 := F0 m 120 ls [.int (xV (xStep dat clk all own t (qs.getD j 0) X1))]) rfl ?_
                    refine lv_istore (lv' := [(7, .int (xV (xStep dat clk all own t (qs.getD j 0) X1))), (0, .ref (h)), (1, .int (nI (r))), (2, .int (nI (f))), (3, .int (x0)), (4, .int (all)), (5, .int (own)), (6, .int (nI (tk))), (8, .int (nI (t))), (9, .int (nI (j)))]) hx hb dX5_goes_120 hl (by decide) rfl (fun ls hl => ?_)
                    refine n_iinc (d := 1) (lv' := [(9, .int (nI (j + 1))), (7, .int (xV (xStep dat clk all own t (qs.getD j 0) X1))), (0, .ref (h)), (1, .int (nI (r))), (2, .int (nI (f))), (3, .int (x0)), (4, .int (all)), (5, .int (own)), (6, .int (nI (tk))), (8, .int (nI (t)))]) C dX5_goes_122 (by decide) hl (k := 9) rfl (by decide) rfl (fun ls hl => ?_)
                    refine lv_goto (tgt := 63) hx hb dX5_goes_125 (by decide) ?_
                    exact ih_lb (j + 1) (xSkip all (qs.getD j 0)) (xStep dat clk all own t (qs.getD j 0) X1) (xV (xStep dat clk all own t (qs.getD j 0) X1)) (ψ2) (H1) (locs) ls (by omega) (by omega) (hM) (hS) (by rw [hk2 24 (by omega)]; exact e24) (fun k hk1 => by rw [hk2 k (by omega)]; exact hk k hk1) (o.1) (o.2.1) (o.2.2.1) (o.2.2.2.1) (o.2.2.2.2.1) (o.2.2.2.2.2) (by rw [hTT, c85, xT_step c71 c78]) (rfl) (lv_sub hl [2, 3, 4, 5, 6, 7, 8, 1, 9, 0] rfl)
                  · skip
                    refine lv_aload_n hx hb dX5_goes_88 rfl (lv_at hl 0 rfl) ?_
                    refine lv_iconst (v := bI false) hx hb dX5_goes_89 (by decide) ?_
                    refine rp_31 C hM hD hS (by first | exact Or.inl rfl | exact Or.inr rfl | exact bI_or _) dX5_goes_90 (fun H locs hM hS => ?_)
                    refine lv_goto (tgt := 122) hx hb dX5_goes_93 (by decide) ?_
                    refine n_iinc (d := 1) (lv' := [(9, .int (nI (j + 1))), (0, .ref (h)), (1, .int (nI (r))), (2, .int (nI (f))), (3, .int (x0)), (4, .int (all)), (5, .int (own)), (6, .int (nI (tk))), (7, .int (x1)), (8, .int (nI (t)))]) C dX5_goes_122 (by decide) hl (k := 9) rfl (by decide) rfl (fun ls hl => ?_)
                    refine lv_goto (tgt := 63) hx hb dX5_goes_125 (by decide) ?_
                    exact ih_lb (j + 1) (false) (X1) (x1) ((upd ψ 31 (bI (false)))) (H) (locs) ls (by omega) (by omega) (hM) (hS) (e24) (fun k hk1 => (pk_un (by omega)).trans (hk k hk1)) (e26) (e27) (e28) (e29) (e30) (rfl) (by rw [hTT, c85, xT_skip c71 c78]) (hx1) (lv_sub hl [1, 2, 3, 4, 5, 6, 7, 8, 9, 0] rfl)
          exact lb (qs.length + 1) (0) (false) (X) (x) ((upd ψ 31 (bI (false)))) (H) (locs) ls (by omega) (by omega) (hM) (hS) (e24) (fun k hk1 => (pk_un (by omega)).trans (hk k hk1)) (e26) (e27) (e28) (e29) (e30) (rfl) (rfl) (hxv c52) (lv_sub hl [1, 2, 3, 4, 5, 6, 7, 8, 9, 0] rfl)
  exact la (tk + 1) (f) ((x0, 0, 0, false, false, false)) (rows0) ((upd (upd (upd (upd (upd (upd (upd φ 24 (nI (f))) 25 (bI (false))) 26 (0)) 27 (0)) 28 (bI (false))) 29 (bI (false))) 30 (bI (false)))) (α) (H) (locs) (x0) ls (by omega) (by omega) (by omega) (hM) (hS) (by rw [hl0]; rfl) (fun k hk1 => by simp only [upd]; repeat rw [if_neg (by omega)]) (rfl) (rfl) (rfl) (rfl) (rfl) (fun _ _ => rfl) (fun j h1 h2 => absurd h2 (by omega)) (by omega) (by omega) (fun _ => hl0) (fun _ => rfl) (fun hz => by cases hz) (fun _ => hZ) (lv_sub hl [2, 3, 4, 5, 6, 7, 8, 1, 0] rfl)

/-! THE LAW, FROM ITS ENTRY -/
theorem law_go {k L : Nat} (hL : L ≤ 3584) (hk : k ≤ L) (h : ¬ nI L - 7 < nI k) : k + 7 ≤ L := by
  rw [fa_lt, fb_subI (by rw [nI_toInt (by omega), li_7]; omega) (by rw [nI_toInt (by omega), li_7]; omega), nI_toInt (by omega), nI_toInt (by omega), li_7] at h
  omega
set_option maxHeartbeats 40000000 in
set_option maxRecDepth 100000 in
theorem whole_start {p : Program} {e : Env} {s : State} {m : MethodId} {below : List Frame} {meth : Method} {c : Code} (l : Launch) {b L : Nat} {xs : Nat → Int32} (hL : L ≤ 3584) (C0 : lw_At p s m meth c b L xs) : W p l e room_1 s m #[Value.ref b] below meth c s.heap [] 0 0 (lw_Z below #[Value.ref b] s) (entryFrame m ([Value.ref b] : List Value).toArray 4) := by
  obtain ⟨hx, hb, hr, hml, hown, hts, hX, hbl, hlk, hgv⟩ := C0
  obtain ⟨g, hKK⟩ := kk_start hts
  have C : Cx p m c code 4 s #[Value.ref b] RL g := ⟨⟨hx, hb, hml, hown, fun w hw => hts w (wsL_law_in w hw)⟩, hKK⟩
  have hA : ∀ q : Nat, s.heap.size ≤ q → (fun q : Nat => s.heap.size ≤ q) q := fun _ hq => hq
  have hbA : ¬ (fun q : Nat => s.heap.size ≤ q) b := Nat.not_le.mpr hbl
  have hS : va_S (fun q : Nat => s.heap.size ≤ q) s.heap s.heap [] := va_S.rf
  have hP : va_P g.1 vwCl [] s.heap := fun k q hq => by simp at hq
  have hD : va_D (fun q : Nat => s.heap.size ≤ q) [] := ⟨fun i j p q hq => by simp at hq, fun k q hq => by simp at hq⟩
  have hl := lv_entry ([.ref b]) (n := 4) (Nat.le_of_ble_eq_true rfl)
  rw [lg_entry_eq]
  generalize (lg_sl ([.ref b]) ++ List.replicate (4 - (lg_sl ([.ref b])).length) Slot.unset).toArray = ls at hl ⊢
  have hl : lv_has ls 4 [(0, .ref b)] := hl
  refine n_new (ci := 4) (fs := [.null, .null, .null, .null, .int (0), .null, .null, .int (0), .null, .int (0)]) (C1 := RX4) (T := TX4) (N := 10) C (inr_1 _ (List.mem_of_getElem? (i := 0) rfl)) (inr_1 _ (List.mem_of_getElem? (i := 1) rfl)) (inr_1 _ (List.mem_of_getElem? (i := 2) rfl)) inlX4 tyX4 tyX4_ok rfl hP hD hS hA (by decide) (Nat.le_of_ble_eq_true rfl) (Nat.le_of_ble_eq_true rfl) dL_law_0 (fun q0 H hq0 hP hD hS => ?_)
  refine W.cs (cells' := 1) (slots' := 10) rfl rfl ?_
  have hP : va_P g.1 vwCl [(q0, .inr (4, [.null, .null, .null, .null, .int (0), .null, .null, .int (0), .null, .int (0)]))] H := hP
  have hD : va_D (fun q : Nat => s.heap.size ≤ q) [(q0, .inr (4, [.null, .null, .null, .null, .int (0), .null, .null, .int (0), .null, .int (0)]))] := hD
  refine lv_dup hx hb dL_law_3 rfl ?_
  have hS0 := hS.1
  refine k_w (c_I (As := []) (rest := [.ref (q0)]) C v_L_9 (c4_init l g q0 H.size) ⟨Nat.le_of_ble_eq_true rfl, Nat.le_of_ble_eq_true rfl⟩ (⟨rfl, hP.sub [0] rfl⟩) hl.1 rfl rfl (Nat.le_of_ble_eq_true rfl) dL_law_4 ⟨Nat.le_of_ble_eq_true rfl, Nat.le_of_ble_eq_true rfl⟩) hS (fun q hq => hq.elim (fun e => by rw [e]; exact hq0) (fun e => Nat.le_trans hS.1 e)) (fun r4 Ha locs q4 hz4 hk4 hS => ?_)
  obtain ⟨rfl, bb, hb0, hbge, hbi, hB⟩ := q4
  refine W.eq (g2 := F0 m 7 ls [.ref (q0)]) rfl ?_
  refine W.cs (cells' := 13) (slots' := 156) rfl rfl ?_
  subst hb0
  have hbs : ∀ q, bA bb q → s.heap.size ≤ q := fun q hq => by obtain ⟨k, hk, rfl⟩ := hq; rcases Nat.eq_zero_or_pos k with h0 | h0; (rw [h0]; exact hq0); exact Nat.le_trans hS0 (hbge k h0 hk)
  have hB := hB.up
  have hbl4 := hB.lt
  refine lv_astore_n (lv' := [(1, .ref (bb 0)), (0, .ref (b))]) hx hb dL_law_7 rfl hl (by decide) rfl (fun ls hl => ?_)
  refine va_forget (fun q hq => hS.2.2 q hq) ?_
  have hSa := hS
  have hA : ∀ q, Ha.size ≤ q → (fun q : Nat => Ha.size ≤ q) q := fun _ hq => hq
  have hS : va_S (fun q : Nat => Ha.size ≤ q) Ha Ha [] := va_S.rf
  have hP : va_P g.1 vwCl [] Ha := fun k q hq => by simp at hq
  have hD : va_D (fun q : Nat => Ha.size ≤ q) [] := ⟨fun i j p q hq => by simp at hq, fun k q hq => by simp at hq⟩
  refine n_new (ci := 5) (fs := [.int (0), .null, .null, .null, .null, .int (0), .int (0), .null, .null, .null, .null, .null, .null, .null, .null, .null, .null, .null, .null, .null, .null, .null, .null, .null, .int (0), .int (0), .int (0), .int (0), .int (0), .int (0), .int (0), .int (0), .int (0), .int (0), .int (0), .int (0), .null]) (C1 := RX5) (T := TX5) (N := 37) C (inr_1 _ (List.mem_of_getElem? (i := 3) rfl)) (inr_1 _ (List.mem_of_getElem? (i := 4) rfl)) (inr_1 _ (List.mem_of_getElem? (i := 5) rfl)) inlX5 tyX5 tyX5_ok rfl hP hD hS hA (by decide) (Nat.le_of_ble_eq_true rfl) (Nat.le_of_ble_eq_true rfl) dL_law_8 (fun q8 H hq8 hP hD hS => ?_)
  refine W.cs (cells' := 14) (slots' := 193) rfl rfl ?_
  have hP : va_P g.1 vwCl [(q8, .inr (5, [.int (0), .null, .null, .null, .null, .int (0), .int (0), .null, .null, .null, .null, .null, .null, .null, .null, .null, .null, .null, .null, .null, .null, .null, .null, .null, .int (0), .int (0), .int (0), .int (0), .int (0), .int (0), .int (0), .int (0), .int (0), .int (0), .int (0), .int (0), .null]))] H := hP
  have hD : va_D (fun q : Nat => Ha.size ≤ q) [(q8, .inr (5, [.int (0), .null, .null, .null, .null, .int (0), .int (0), .null, .null, .null, .null, .null, .null, .null, .null, .null, .null, .null, .null, .null, .null, .null, .null, .null, .int (0), .int (0), .int (0), .int (0), .int (0), .int (0), .int (0), .int (0), .int (0), .int (0), .int (0), .int (0), .null]))] := hD
  refine lv_dup hx hb dL_law_11 rfl ?_
  have hS1 := hS.1
  refine k_w (c_I (As := []) (rest := [.ref (q8)]) C v_L_12 (c5_init l g q8 H.size) ⟨Nat.le_of_ble_eq_true rfl, Nat.le_of_ble_eq_true rfl⟩ (⟨rfl, hP.sub [0] rfl⟩) hl.1 rfl rfl (Nat.le_of_ble_eq_true rfl) dL_law_12 ⟨Nat.le_of_ble_eq_true rfl, Nat.le_of_ble_eq_true rfl⟩) hS (fun q hq => hq.elim (fun e => by rw [e]; exact hq8) (fun e => Nat.le_trans hS.1 e)) (fun r12 H1 locs q12 hz12 hk12 hS => ?_)
  obtain ⟨rfl, ad, had, hM, hDw⟩ := q12
  refine W.eq (g2 := F0 m 15 ls [.ref (q8)]) rfl ?_
  refine W.cs (cells' := 36) (slots' := 2077) rfl rfl ?_
  obtain ⟨h, hh8⟩ : ∃ h : Nat, h = q8 := ⟨_, rfl⟩
  subst hh8
  have hDr : wD (wA g h ad) g h ad := ⟨hDw.1, fun k q hk => ⟨k, q.2, hk⟩⟩
  have hwg : ∀ q, wA g h ad q → Ha.size ≤ q := fun q hq => by obtain ⟨k, e1, hk⟩ := hq; exact (hDw.2 k _ hk).elim (fun e2 => by rw [show q = h from e2]; exact hq8) (fun e2 => Nat.le_trans hS1 e2)
  have hap : ∀ q, bA bb q → ¬ wA g h ad q := fun q h1 h2 => absurd (hwg q h2) (Nat.not_le.mpr (hbl4 q h1))
  have hge : ∀ q, ZZ g bb h ad q → s.heap.size ≤ q := fun q hq => hq.elim (hbs q) (fun e2 => Nat.le_trans hSa.1 (hwg q e2))
  have hB : Bk g bb (ZZ g bb h ad) τ0 H1 := (hB.keep hS.1 hS.2.1 (fun q hq _ e2 => absurd e2 (Nat.not_le.mpr hq)) (fun q hq e2 => absurd e2 (Nat.not_le.mpr hq))).down (fun q hq => hq.elim (fun e2 => Or.inl (Or.inl e2)) (fun e2 => Or.inr (hwg q e2)))
  have hZs : ∀ q, ZZ g bb h ad q → q < H1.size := fun q hq => hq.elim (hB.lt q) (hM.lt q)
  have hS : va_S (fun q : Nat => s.heap.size ≤ q) s.heap H1 locs := ⟨Nat.le_trans hSa.1 hS.1, fun q h1 h2 => (hS.2.1 q (Nat.lt_of_lt_of_le h1 hSa.1) (fun e2 => h2 (Nat.le_trans hSa.1 e2))).trans (hSa.2.1 q h1 h2), fun q hq => Nat.le_trans hSa.1 (hS.2.2 q hq)⟩
  have hD := hDr
  refine lv_astore_n (lv' := [(2, .ref (h)), (1, .ref (bb 0)), (0, .ref (b))]) hx hb dL_law_15 rfl hl (by decide) rfl (fun ls hl => ?_)
  refine lv_iconst (v := nI 0) hx hb dL_law_16 (by decide) ?_
  refine lv_istore_n (lv' := [(3, .int (nI (0))), (2, .ref (h)), (1, .ref (bb 0)), (0, .ref (b))]) hx hb dL_law_17 rfl hl (by decide) rfl (fun ls hl => ?_)
  have lp : ∀ (n_lp : Nat) (k nc ns : Nat) (τ : TB) (H : Heap) (locs : List Loc) (ls : Array Slot), (k ≤ L) → (L + 7 ≤ k + 7 * n_lp) → (nc + 4 * n_lp ≤ 600000) → (ns + 41 * n_lp ≤ 7302250) → (Good τ) → (MdH g h ad τ H) → (Bk g bb (ZZ g bb h ad) τ H) → (∀ q, ZZ g bb h ad q → q < H.size) → (va_S (fun q : Nat => s.heap.size ≤ q) s.heap H locs) → lv_has ls 4 [(0, .ref (b)), (1, .ref (bb 0)), (2, .ref (h)), (3, .int (nI (k)))] → W p l e room_1 s m #[Value.ref b] below meth c H locs nc ns (lw_Z below #[Value.ref b] s) (F0 m 18 ls []) := by
    intro n_lp
    induction n_lp with
    | zero =>
      intro k nc ns τ H locs ls hkL hn hnc hns hG hM hB hZs hS
      exact absurd hn (by omega)
    | succ n_lp ih_lp =>
      intro k nc ns τ H locs ls hkL hn hnc hns hG hM hB hZs hS hl
      refine lv_iload_n hx hb dL_law_18 rfl (lv_at hl 3 rfl) ?_
      refine lv_aload_n hx hb dL_law_19 rfl (lv_at hl 0 rfl) ?_
      refine va_slen C.1.1 C.1.2.1 hX hbl hbA hS dL_law_20 ?_
      refine W.eq (g2 := F0 m 21 ls [.int (nI (L)), .int (nI (k))]) rfl ?_
      refine lv_bipush (v := 7) hx hb dL_law_21 (by decide) ?_
      refine lv_isub hx hb dL_law_23 ?_
      refine lv_icmp_gt (tgt := 948) hx hb dL_law_24 (by decide) (fun c24 => ?_) (fun c24 => ?_)
      · skip
        refine lv_iconst (v := 1) hx hb dL_law_948 (by decide) ?_
        exact va_forget (fun q hq => hS.2.2 q hq) (W.widen (k := 600000) (n := 7302250) (by omega) (by omega) (lw_ret C.1.1 C.1.2.1 hr hlk dL_law_949))
      · skip
        have hgo := law_go hL hkL c24
        have h40 := hG.1.2.2.1
        refine lv_aload_n hx hb dL_law_27 rfl (lv_at hl 0 rfl) ?_
        refine lv_iload_n hx hb dL_law_28 rfl (lv_at hl 3 rfl) ?_
        refine va_sld C.1.1 C.1.2.1 hX hbl hbA hS (vp_in_nI (show k < L by omega) (by omega)) dL_law_29 ?_
        refine w_topi (y := xs (k)) (by rw [nI_clamp (by omega)]) ?_
        refine lv_bipush (v := 31) hx hb dL_law_30 (by decide) ?_
        refine lv_iand hx hb dL_law_32 ?_
        by_cases k33_0 : ((xs (k)) &&& (31 : Int32)) = 0
        · skip
          refine n_tabIn (tgt := 128) (off := 95) C (0) (k33_0) dL_law_33 (by decide) (by decide) (by decide) (by decide) ?_
          refine lv_aload_n hx hb dL_law_128 rfl (lv_at hl 1 rfl) ?_
          refine lv_aload_n hx hb dL_law_129 rfl (lv_at hl 0 rfl) ?_
          refine lv_iload_n hx hb dL_law_130 rfl (lv_at hl 3 rfl) ?_
          refine lv_iconst (v := nI 1) hx hb dL_law_131 (by decide) ?_
          refine n_iadd C dL_law_132 ?_
          refine va_sld C.1.1 C.1.2.1 hX hbl hbA hS (vp_in_nI (show k + 1 < L by omega) (by omega)) dL_law_133 ?_
          refine w_topi (y := xs (k + 1)) (by rw [nI_clamp (by omega)]) ?_
          refine lv_aload_n hx hb dL_law_134 rfl (lv_at hl 0 rfl) ?_
          refine lv_iload_n hx hb dL_law_135 rfl (lv_at hl 3 rfl) ?_
          refine lv_iconst (v := nI 2) hx hb dL_law_136 (by decide) ?_
          refine n_iadd C dL_law_137 ?_
          refine va_sld C.1.1 C.1.2.1 hX hbl hbA hS (vp_in_nI (show k + 2 < L by omega) (by omega)) dL_law_138 ?_
          refine w_topi (y := xs (k + 2)) (by rw [nI_clamp (by omega)]) ?_
          refine lv_aload_n hx hb dL_law_139 rfl (lv_at hl 0 rfl) ?_
          refine lv_iload_n hx hb dL_law_140 rfl (lv_at hl 3 rfl) ?_
          refine lv_iconst (v := nI 3) hx hb dL_law_141 (by decide) ?_
          refine n_iadd C dL_law_142 ?_
          refine va_sld C.1.1 C.1.2.1 hX hbl hbA hS (vp_in_nI (show k + 3 < L by omega) (by omega)) dL_law_143 ?_
          refine w_topi (y := xs (k + 3)) (by rw [nI_clamp (by omega)]) ?_
          refine lv_aload_n hx hb dL_law_144 rfl (lv_at hl 0 rfl) ?_
          refine lv_iload_n hx hb dL_law_145 rfl (lv_at hl 3 rfl) ?_
          refine lv_iconst (v := nI 4) hx hb dL_law_146 (by decide) ?_
          refine n_iadd C dL_law_147 ?_
          refine va_sld C.1.1 C.1.2.1 hX hbl hbA hS (vp_in_nI (show k + 4 < L by omega) (by omega)) dL_law_148 ?_
          refine w_topi (y := xs (k + 4)) (by rw [nI_clamp (by omega)]) ?_
          refine k_w (c_V (As := [.int (xs (k + 1)), .int (xs (k + 2)), .int (xs (k + 3)), .int (xs (k + 4))]) (rest := []) C v_L_13 (c4_code l g bb (ZZ g bb h ad) τ hG.1 hbi (fun q hq => Or.inl hq) H.size hZs (xs (k + 1)) (xs (k + 2)) (xs (k + 3)) (xs (k + 4))) ⟨Nat.le_of_ble_eq_true rfl, Nat.le_of_ble_eq_true rfl⟩ (bk_recv C hB) (⟨rfl, hB⟩) hl.1 rfl rfl (Nat.le_of_ble_eq_true rfl) dL_law_149 ⟨by show nc + 1 ≤ 600000; omega, by show ns + 2 ≤ 7302250; omega⟩) hS (fun q hq => hq.elim (fun e => hge q (Or.inl e)) (fun e => Nat.le_trans hS.1 e)) (fun r149 H1 locs q149 hz149 hk149 hS => ?_)
          obtain ⟨rfl, hB⟩ := q149
          have hM := hM.keep hk149 (fun q hq hq2 => hq2.elim (fun e => hap q e hq) (fun e => absurd e (Nat.not_le.mpr (hZs q (Or.inr hq)))))
          have hZs : ∀ q, ZZ g bb h ad q → q < H1.size := fun q hq => Nat.lt_of_lt_of_le (hZs q hq) hz149
          refine W.eq (g2 := F0 m 152 ls [.int (bI (inR (xs (k + 1)) 0 3 && inR (xs (k + 2)) 0 8))]) rfl ?_
          refine W.cs (cells' := nc + 1) (slots' := ns + 2) rfl rfl ?_
          refine lv_aload_n hx hb dL_law_152 rfl (lv_at hl 2 rfl) ?_
          refine lv_aload_n hx hb dL_law_153 rfl (lv_at hl 0 rfl) ?_
          refine lv_iload_n hx hb dL_law_154 rfl (lv_at hl 3 rfl) ?_
          refine lv_iconst (v := nI 1) hx hb dL_law_155 (by decide) ?_
          refine n_iadd C dL_law_156 ?_
          refine va_sld C.1.1 C.1.2.1 hX hbl hbA hS (vp_in_nI (show k + 1 < L by omega) (by omega)) dL_law_157 ?_
          refine w_topi (y := xs (k + 1)) (by rw [nI_clamp (by omega)]) ?_
          refine lv_aload_n hx hb dL_law_158 rfl (lv_at hl 0 rfl) ?_
          refine lv_iload_n hx hb dL_law_159 rfl (lv_at hl 3 rfl) ?_
          refine lv_iconst (v := nI 2) hx hb dL_law_160 (by decide) ?_
          refine n_iadd C dL_law_161 ?_
          refine va_sld C.1.1 C.1.2.1 hX hbl hbA hS (vp_in_nI (show k + 2 < L by omega) (by omega)) dL_law_162 ?_
          refine w_topi (y := xs (k + 2)) (by rw [nI_clamp (by omega)]) ?_
          refine lv_aload_n hx hb dL_law_163 rfl (lv_at hl 0 rfl) ?_
          refine lv_iload_n hx hb dL_law_164 rfl (lv_at hl 3 rfl) ?_
          refine lv_iconst (v := nI 3) hx hb dL_law_165 (by decide) ?_
          refine n_iadd C dL_law_166 ?_
          refine va_sld C.1.1 C.1.2.1 hX hbl hbA hS (vp_in_nI (show k + 3 < L by omega) (by omega)) dL_law_167 ?_
          refine w_topi (y := xs (k + 3)) (by rw [nI_clamp (by omega)]) ?_
          refine lv_aload_n hx hb dL_law_168 rfl (lv_at hl 0 rfl) ?_
          refine lv_iload_n hx hb dL_law_169 rfl (lv_at hl 3 rfl) ?_
          refine lv_iconst (v := nI 4) hx hb dL_law_170 (by decide) ?_
          refine n_iadd C dL_law_171 ?_
          refine va_sld C.1.1 C.1.2.1 hX hbl hbA hS (vp_in_nI (show k + 4 < L by omega) (by omega)) dL_law_172 ?_
          refine w_topi (y := xs (k + 4)) (by rw [nI_clamp (by omega)]) ?_
          refine k_w (c_V (As := [.int (xs (k + 1)), .int (xs (k + 2)), .int (xs (k + 3)), .int (xs (k + 4))]) (rest := [.int (bI (inR (xs (k + 1)) 0 3 && inR (xs (k + 2)) 0 8))]) C v_L_17 (c5_code l g h ad τ hG.1 hD (xs (k + 1)) (xs (k + 2)) (xs (k + 3)) (xs (k + 4))) ⟨Nat.le_of_ble_eq_true rfl, Nat.le_of_ble_eq_true rfl⟩ (md_recv C hM) (hM) hl.1 rfl rfl (Nat.le_of_ble_eq_true rfl) dL_law_173 ⟨by show (nc + 1) + 0 ≤ 600000; omega, by show (ns + 2) + 0 ≤ 7302250; omega⟩) hS (fun q hq => hge q (Or.inr hq)) (fun r173 H1 locs q173 hz173 hk173 hS => ?_)
          obtain ⟨rfl, hM⟩ := q173
          have hB := hB.keep hz173 hk173 (fun q _ hq hq2 => hap q hq hq2) (fun q _ hq => Or.inr hq)
          have hZs : ∀ q, ZZ g bb h ad q → q < H1.size := fun q hq => Nat.lt_of_lt_of_le (hZs q hq) hz173
          refine W.eq (g2 := F0 m 176 ls [.int (bI (inR (xs (k + 1)) 0 3 && inR (xs (k + 2)) 0 8)), .int (bI (inR (xs (k + 1)) 0 3 && inR (xs (k + 2)) 0 8))]) rfl ?_
          refine W.cs (cells' := (nc + 1)) (slots' := (ns + 2)) rfl rfl ?_
          refine lv_icmp_eq (tgt := 942) hx hb dL_law_176 (by decide) (fun c176 => ?_) (fun c176 => by exfalso; exact c176 rfl)
          refine n_iinc (d := 7) (lv' := [(3, .int (nI (k + 7))), (0, .ref (b)), (1, .ref (bb 0)), (2, .ref (h))]) C dL_law_942 (by decide) hl (k := 3) rfl (by decide) rfl (fun ls hl => ?_)
          refine lv_goto (tgt := 18) hx hb dL_law_945 (by decide) ?_
          exact ih_lp (k + 7) ((nc + 1)) ((ns + 2)) (codT τ (xs (k + 1)) (xs (k + 2)) (xs (k + 3)) (xs (k + 4))) (H1) (locs) ls (by omega) (by omega) (by omega) (by omega) (hG.cod _ _ _ _) (hM) (hB) (hZs) (hS) (lv_sub hl [1, 2, 3, 0] rfl)
        by_cases k33_1 : ((xs (k)) &&& (31 : Int32)) = 1
        · skip
          refine n_tabIn (tgt := 181) (off := 148) C (1) (k33_1) dL_law_33 (by decide) (by decide) (by decide) (by decide) ?_
          refine lv_aload_n hx hb dL_law_181 rfl (lv_at hl 1 rfl) ?_
          refine lv_aload_n hx hb dL_law_182 rfl (lv_at hl 0 rfl) ?_
          refine lv_iload_n hx hb dL_law_183 rfl (lv_at hl 3 rfl) ?_
          refine lv_iconst (v := nI 1) hx hb dL_law_184 (by decide) ?_
          refine n_iadd C dL_law_185 ?_
          refine va_sld C.1.1 C.1.2.1 hX hbl hbA hS (vp_in_nI (show k + 1 < L by omega) (by omega)) dL_law_186 ?_
          refine w_topi (y := xs (k + 1)) (by rw [nI_clamp (by omega)]) ?_
          refine lv_aload_n hx hb dL_law_187 rfl (lv_at hl 0 rfl) ?_
          refine lv_iload_n hx hb dL_law_188 rfl (lv_at hl 3 rfl) ?_
          refine lv_iconst (v := nI 2) hx hb dL_law_189 (by decide) ?_
          refine n_iadd C dL_law_190 ?_
          refine va_sld C.1.1 C.1.2.1 hX hbl hbA hS (vp_in_nI (show k + 2 < L by omega) (by omega)) dL_law_191 ?_
          refine w_topi (y := xs (k + 2)) (by rw [nI_clamp (by omega)]) ?_
          refine k_w (c_V (As := [.int (xs (k + 1)), .int (xs (k + 2))]) (rest := []) C v_L_18 (c4_data l g bb (ZZ g bb h ad) τ hG.1 hbi (fun q hq => Or.inl hq) (xs (k + 1)) (xs (k + 2))) ⟨Nat.le_of_ble_eq_true rfl, Nat.le_of_ble_eq_true rfl⟩ (bk_recv C hB) (hB) hl.1 rfl rfl (Nat.le_of_ble_eq_true rfl) dL_law_192 ⟨by show nc + 0 ≤ 600000; omega, by show ns + 0 ≤ 7302250; omega⟩) hS (fun q hq => hge q (Or.inl hq)) (fun r192 H1 locs q192 hz192 hk192 hS => ?_)
          obtain ⟨rfl, hB⟩ := q192
          have hM := hM.keep hk192 (fun q hq hq2 => hap q hq2 hq)
          have hZs : ∀ q, ZZ g bb h ad q → q < H1.size := fun q hq => Nat.lt_of_lt_of_le (hZs q hq) hz192
          refine W.eq (g2 := F0 m 195 ls [.int (bI (inR (xs (k + 1)) 0 7))]) rfl ?_
          refine lv_aload_n hx hb dL_law_195 rfl (lv_at hl 2 rfl) ?_
          refine lv_aload_n hx hb dL_law_196 rfl (lv_at hl 0 rfl) ?_
          refine lv_iload_n hx hb dL_law_197 rfl (lv_at hl 3 rfl) ?_
          refine lv_iconst (v := nI 1) hx hb dL_law_198 (by decide) ?_
          refine n_iadd C dL_law_199 ?_
          refine va_sld C.1.1 C.1.2.1 hX hbl hbA hS (vp_in_nI (show k + 1 < L by omega) (by omega)) dL_law_200 ?_
          refine w_topi (y := xs (k + 1)) (by rw [nI_clamp (by omega)]) ?_
          refine lv_aload_n hx hb dL_law_201 rfl (lv_at hl 0 rfl) ?_
          refine lv_iload_n hx hb dL_law_202 rfl (lv_at hl 3 rfl) ?_
          refine lv_iconst (v := nI 2) hx hb dL_law_203 (by decide) ?_
          refine n_iadd C dL_law_204 ?_
          refine va_sld C.1.1 C.1.2.1 hX hbl hbA hS (vp_in_nI (show k + 2 < L by omega) (by omega)) dL_law_205 ?_
          refine w_topi (y := xs (k + 2)) (by rw [nI_clamp (by omega)]) ?_
          refine k_w (c_V (As := [.int (xs (k + 1)), .int (xs (k + 2))]) (rest := [.int (bI (inR (xs (k + 1)) 0 7))]) C v_L_22 (c5_data l g h ad τ hG.1 hD (xs (k + 1)) (xs (k + 2))) ⟨Nat.le_of_ble_eq_true rfl, Nat.le_of_ble_eq_true rfl⟩ (md_recv C hM) (hM) hl.1 rfl rfl (Nat.le_of_ble_eq_true rfl) dL_law_206 ⟨by show nc + 0 ≤ 600000; omega, by show ns + 0 ≤ 7302250; omega⟩) hS (fun q hq => hge q (Or.inr hq)) (fun r206 H1 locs q206 hz206 hk206 hS => ?_)
          obtain ⟨rfl, hM⟩ := q206
          have hB := hB.keep hz206 hk206 (fun q _ hq hq2 => hap q hq hq2) (fun q _ hq => Or.inr hq)
          have hZs : ∀ q, ZZ g bb h ad q → q < H1.size := fun q hq => Nat.lt_of_lt_of_le (hZs q hq) hz206
          refine W.eq (g2 := F0 m 209 ls [.int (bI (inR (xs (k + 1)) 0 7)), .int (bI (inR (xs (k + 1)) 0 7))]) rfl ?_
          refine W.cs (cells' := nc) (slots' := ns) rfl rfl ?_
          refine lv_icmp_eq (tgt := 942) hx hb dL_law_209 (by decide) (fun c209 => ?_) (fun c209 => by exfalso; exact c209 rfl)
          refine n_iinc (d := 7) (lv' := [(3, .int (nI (k + 7))), (0, .ref (b)), (1, .ref (bb 0)), (2, .ref (h))]) C dL_law_942 (by decide) hl (k := 3) rfl (by decide) rfl (fun ls hl => ?_)
          refine lv_goto (tgt := 18) hx hb dL_law_945 (by decide) ?_
          exact ih_lp (k + 7) (nc) (ns) (datT τ (xs (k + 1)) (xs (k + 2))) (H1) (locs) ls (by omega) (by omega) (by omega) (by omega) (hG.dat _ _) (hM) (hB) (hZs) (hS) (lv_sub hl [1, 2, 3, 0] rfl)
        by_cases k33_2 : ((xs (k)) &&& (31 : Int32)) = 2
        · skip
          refine n_tabIn (tgt := 214) (off := 181) C (2) (k33_2) dL_law_33 (by decide) (by decide) (by decide) (by decide) ?_
          refine lv_aload_n hx hb dL_law_214 rfl (lv_at hl 1 rfl) ?_
          refine lv_aload_n hx hb dL_law_215 rfl (lv_at hl 0 rfl) ?_
          refine lv_iload_n hx hb dL_law_216 rfl (lv_at hl 3 rfl) ?_
          refine lv_iconst (v := nI 1) hx hb dL_law_217 (by decide) ?_
          refine n_iadd C dL_law_218 ?_
          refine va_sld C.1.1 C.1.2.1 hX hbl hbA hS (vp_in_nI (show k + 1 < L by omega) (by omega)) dL_law_219 ?_
          refine w_topi (y := xs (k + 1)) (by rw [nI_clamp (by omega)]) ?_
          refine lv_aload_n hx hb dL_law_220 rfl (lv_at hl 0 rfl) ?_
          refine lv_iload_n hx hb dL_law_221 rfl (lv_at hl 3 rfl) ?_
          refine lv_iconst (v := nI 2) hx hb dL_law_222 (by decide) ?_
          refine n_iadd C dL_law_223 ?_
          refine va_sld C.1.1 C.1.2.1 hX hbl hbA hS (vp_in_nI (show k + 2 < L by omega) (by omega)) dL_law_224 ?_
          refine w_topi (y := xs (k + 2)) (by rw [nI_clamp (by omega)]) ?_
          refine k_w (c_V (As := [.int (xs (k + 1)), .int (xs (k + 2))]) (rest := []) C v_L_23 (c4_bound l g bb (ZZ g bb h ad) τ hG.1 hbi (fun q hq => Or.inl hq) (xs (k + 1)) (xs (k + 2))) ⟨Nat.le_of_ble_eq_true rfl, Nat.le_of_ble_eq_true rfl⟩ (bk_recv C hB) (hB) hl.1 rfl rfl (Nat.le_of_ble_eq_true rfl) dL_law_225 ⟨by show nc + 0 ≤ 600000; omega, by show ns + 0 ≤ 7302250; omega⟩) hS (fun q hq => hge q (Or.inl hq)) (fun r225 H1 locs q225 hz225 hk225 hS => ?_)
          obtain ⟨rfl, hB⟩ := q225
          have hM := hM.keep hk225 (fun q hq hq2 => hap q hq2 hq)
          have hZs : ∀ q, ZZ g bb h ad q → q < H1.size := fun q hq => Nat.lt_of_lt_of_le (hZs q hq) hz225
          refine W.eq (g2 := F0 m 228 ls [.int (bI (inR (xs (k + 1)) 0 3 && inR (xs (k + 2)) 1 6))]) rfl ?_
          refine lv_aload_n hx hb dL_law_228 rfl (lv_at hl 2 rfl) ?_
          refine lv_aload_n hx hb dL_law_229 rfl (lv_at hl 0 rfl) ?_
          refine lv_iload_n hx hb dL_law_230 rfl (lv_at hl 3 rfl) ?_
          refine lv_iconst (v := nI 1) hx hb dL_law_231 (by decide) ?_
          refine n_iadd C dL_law_232 ?_
          refine va_sld C.1.1 C.1.2.1 hX hbl hbA hS (vp_in_nI (show k + 1 < L by omega) (by omega)) dL_law_233 ?_
          refine w_topi (y := xs (k + 1)) (by rw [nI_clamp (by omega)]) ?_
          refine lv_aload_n hx hb dL_law_234 rfl (lv_at hl 0 rfl) ?_
          refine lv_iload_n hx hb dL_law_235 rfl (lv_at hl 3 rfl) ?_
          refine lv_iconst (v := nI 2) hx hb dL_law_236 (by decide) ?_
          refine n_iadd C dL_law_237 ?_
          refine va_sld C.1.1 C.1.2.1 hX hbl hbA hS (vp_in_nI (show k + 2 < L by omega) (by omega)) dL_law_238 ?_
          refine w_topi (y := xs (k + 2)) (by rw [nI_clamp (by omega)]) ?_
          refine k_w (c_V (As := [.int (xs (k + 1)), .int (xs (k + 2))]) (rest := [.int (bI (inR (xs (k + 1)) 0 3 && inR (xs (k + 2)) 1 6))]) C v_L_26 (c5_bound l g h ad τ hG.1 hD (xs (k + 1)) (xs (k + 2))) ⟨Nat.le_of_ble_eq_true rfl, Nat.le_of_ble_eq_true rfl⟩ (md_recv C hM) (hM) hl.1 rfl rfl (Nat.le_of_ble_eq_true rfl) dL_law_239 ⟨by show nc + 0 ≤ 600000; omega, by show ns + 0 ≤ 7302250; omega⟩) hS (fun q hq => hge q (Or.inr hq)) (fun r239 H1 locs q239 hz239 hk239 hS => ?_)
          obtain ⟨rfl, hM⟩ := q239
          have hB := hB.keep hz239 hk239 (fun q _ hq hq2 => hap q hq hq2) (fun q _ hq => Or.inr hq)
          have hZs : ∀ q, ZZ g bb h ad q → q < H1.size := fun q hq => Nat.lt_of_lt_of_le (hZs q hq) hz239
          refine W.eq (g2 := F0 m 242 ls [.int (bI (inR (xs (k + 1)) 0 3 && inR (xs (k + 2)) 1 6)), .int (bI (inR (xs (k + 1)) 0 3 && inR (xs (k + 2)) 1 6))]) rfl ?_
          refine W.cs (cells' := nc) (slots' := ns) rfl rfl ?_
          refine lv_icmp_eq (tgt := 942) hx hb dL_law_242 (by decide) (fun c242 => ?_) (fun c242 => by exfalso; exact c242 rfl)
          refine n_iinc (d := 7) (lv' := [(3, .int (nI (k + 7))), (0, .ref (b)), (1, .ref (bb 0)), (2, .ref (h))]) C dL_law_942 (by decide) hl (k := 3) rfl (by decide) rfl (fun ls hl => ?_)
          refine lv_goto (tgt := 18) hx hb dL_law_945 (by decide) ?_
          exact ih_lp (k + 7) (nc) (ns) (bndT τ (xs (k + 1)) (xs (k + 2))) (H1) (locs) ls (by omega) (by omega) (by omega) (by omega) (hG.bnd _ _) (hM) (hB) (hZs) (hS) (lv_sub hl [1, 2, 3, 0] rfl)
        by_cases k33_3 : ((xs (k)) &&& (31 : Int32)) = 3
        · skip
          refine n_tabIn (tgt := 247) (off := 214) C (3) (k33_3) dL_law_33 (by decide) (by decide) (by decide) (by decide) ?_
          refine lv_aload_n hx hb dL_law_247 rfl (lv_at hl 1 rfl) ?_
          refine lv_aload_n hx hb dL_law_248 rfl (lv_at hl 0 rfl) ?_
          refine lv_iload_n hx hb dL_law_249 rfl (lv_at hl 3 rfl) ?_
          refine lv_iconst (v := nI 1) hx hb dL_law_250 (by decide) ?_
          refine n_iadd C dL_law_251 ?_
          refine va_sld C.1.1 C.1.2.1 hX hbl hbA hS (vp_in_nI (show k + 1 < L by omega) (by omega)) dL_law_252 ?_
          refine w_topi (y := xs (k + 1)) (by rw [nI_clamp (by omega)]) ?_
          refine lv_aload_n hx hb dL_law_253 rfl (lv_at hl 0 rfl) ?_
          refine lv_iload_n hx hb dL_law_254 rfl (lv_at hl 3 rfl) ?_
          refine lv_iconst (v := nI 2) hx hb dL_law_255 (by decide) ?_
          refine n_iadd C dL_law_256 ?_
          refine va_sld C.1.1 C.1.2.1 hX hbl hbA hS (vp_in_nI (show k + 2 < L by omega) (by omega)) dL_law_257 ?_
          refine w_topi (y := xs (k + 2)) (by rw [nI_clamp (by omega)]) ?_
          refine lv_aload_n hx hb dL_law_258 rfl (lv_at hl 0 rfl) ?_
          refine lv_iload_n hx hb dL_law_259 rfl (lv_at hl 3 rfl) ?_
          refine lv_iconst (v := nI 3) hx hb dL_law_260 (by decide) ?_
          refine n_iadd C dL_law_261 ?_
          refine va_sld C.1.1 C.1.2.1 hX hbl hbA hS (vp_in_nI (show k + 3 < L by omega) (by omega)) dL_law_262 ?_
          refine w_topi (y := xs (k + 3)) (by rw [nI_clamp (by omega)]) ?_
          refine lv_aload_n hx hb dL_law_263 rfl (lv_at hl 0 rfl) ?_
          refine lv_iload_n hx hb dL_law_264 rfl (lv_at hl 3 rfl) ?_
          refine lv_iconst (v := nI 4) hx hb dL_law_265 (by decide) ?_
          refine n_iadd C dL_law_266 ?_
          refine va_sld C.1.1 C.1.2.1 hX hbl hbA hS (vp_in_nI (show k + 4 < L by omega) (by omega)) dL_law_267 ?_
          refine w_topi (y := xs (k + 4)) (by rw [nI_clamp (by omega)]) ?_
          refine k_w (c_V (As := [.int (xs (k + 1)), .int (xs (k + 2)), .int (xs (k + 3)), .int (xs (k + 4))]) (rest := []) C v_L_27 (c4_run l g bb (ZZ g bb h ad) τ hG.1 hbi (fun q hq => Or.inl hq) H.size hZs hG.2 (xs (k + 1)) (xs (k + 2)) (xs (k + 3)) (xs (k + 4))) ⟨Nat.le_of_ble_eq_true rfl, Nat.le_of_ble_eq_true rfl⟩ (bk_recv C hB) (⟨rfl, hB⟩) hl.1 rfl rfl (Nat.le_of_ble_eq_true rfl) dL_law_268 ⟨by show nc + 4 ≤ 600000; omega, by show ns + 41 ≤ 7302250; omega⟩) hS (fun q hq => hq.elim (fun e => hge q (Or.inl e)) (fun e => Nat.le_trans hS.1 e)) (fun r268 H1 locs q268 hz268 hk268 hS => ?_)
          obtain ⟨rfl, hB⟩ := q268
          have hM := hM.keep hk268 (fun q hq hq2 => hq2.elim (fun e => hap q e hq) (fun e => absurd e (Nat.not_le.mpr (hZs q (Or.inr hq)))))
          have hZs : ∀ q, ZZ g bb h ad q → q < H1.size := fun q hq => Nat.lt_of_lt_of_le (hZs q hq) hz268
          refine W.eq (g2 := F0 m 271 ls [.int (runA τ (xs (k + 1)) (xs (k + 2)) (xs (k + 3)) (xs (k + 4)))]) rfl ?_
          refine W.cs (cells' := nc + 4) (slots' := ns + 41) rfl rfl ?_
          refine lv_aload_n hx hb dL_law_271 rfl (lv_at hl 2 rfl) ?_
          refine lv_aload_n hx hb dL_law_272 rfl (lv_at hl 0 rfl) ?_
          refine lv_iload_n hx hb dL_law_273 rfl (lv_at hl 3 rfl) ?_
          refine lv_iconst (v := nI 1) hx hb dL_law_274 (by decide) ?_
          refine n_iadd C dL_law_275 ?_
          refine va_sld C.1.1 C.1.2.1 hX hbl hbA hS (vp_in_nI (show k + 1 < L by omega) (by omega)) dL_law_276 ?_
          refine w_topi (y := xs (k + 1)) (by rw [nI_clamp (by omega)]) ?_
          refine lv_aload_n hx hb dL_law_277 rfl (lv_at hl 0 rfl) ?_
          refine lv_iload_n hx hb dL_law_278 rfl (lv_at hl 3 rfl) ?_
          refine lv_iconst (v := nI 2) hx hb dL_law_279 (by decide) ?_
          refine n_iadd C dL_law_280 ?_
          refine va_sld C.1.1 C.1.2.1 hX hbl hbA hS (vp_in_nI (show k + 2 < L by omega) (by omega)) dL_law_281 ?_
          refine w_topi (y := xs (k + 2)) (by rw [nI_clamp (by omega)]) ?_
          refine lv_aload_n hx hb dL_law_282 rfl (lv_at hl 0 rfl) ?_
          refine lv_iload_n hx hb dL_law_283 rfl (lv_at hl 3 rfl) ?_
          refine lv_iconst (v := nI 3) hx hb dL_law_284 (by decide) ?_
          refine n_iadd C dL_law_285 ?_
          refine va_sld C.1.1 C.1.2.1 hX hbl hbA hS (vp_in_nI (show k + 3 < L by omega) (by omega)) dL_law_286 ?_
          refine w_topi (y := xs (k + 3)) (by rw [nI_clamp (by omega)]) ?_
          refine lv_aload_n hx hb dL_law_287 rfl (lv_at hl 0 rfl) ?_
          refine lv_iload_n hx hb dL_law_288 rfl (lv_at hl 3 rfl) ?_
          refine lv_iconst (v := nI 4) hx hb dL_law_289 (by decide) ?_
          refine n_iadd C dL_law_290 ?_
          refine va_sld C.1.1 C.1.2.1 hX hbl hbA hS (vp_in_nI (show k + 4 < L by omega) (by omega)) dL_law_291 ?_
          refine w_topi (y := xs (k + 4)) (by rw [nI_clamp (by omega)]) ?_
          refine k_w (c_V (As := [.int (xs (k + 1)), .int (xs (k + 2)), .int (xs (k + 3)), .int (xs (k + 4))]) (rest := [.int (runA τ (xs (k + 1)) (xs (k + 2)) (xs (k + 3)) (xs (k + 4)))]) C v_L_31 (c5_run l g h ad τ hG.1 hD (xs (k + 1)) (xs (k + 2)) (xs (k + 3)) (xs (k + 4))) ⟨Nat.le_of_ble_eq_true rfl, Nat.le_of_ble_eq_true rfl⟩ (md_recv C hM) (hM) hl.1 rfl rfl (Nat.le_of_ble_eq_true rfl) dL_law_292 ⟨by show (nc + 4) + 0 ≤ 600000; omega, by show (ns + 41) + 0 ≤ 7302250; omega⟩) hS (fun q hq => hge q (Or.inr hq)) (fun r292 H1 locs q292 hz292 hk292 hS => ?_)
          obtain ⟨rfl, hM⟩ := q292
          have hB := hB.keep hz292 hk292 (fun q _ hq hq2 => hap q hq hq2) (fun q _ hq => Or.inr hq)
          have hZs : ∀ q, ZZ g bb h ad q → q < H1.size := fun q hq => Nat.lt_of_lt_of_le (hZs q hq) hz292
          refine W.eq (g2 := F0 m 295 ls [.int (runA τ (xs (k + 1)) (xs (k + 2)) (xs (k + 3)) (xs (k + 4))), .int (runA τ (xs (k + 1)) (xs (k + 2)) (xs (k + 3)) (xs (k + 4)))]) rfl ?_
          refine W.cs (cells' := (nc + 4)) (slots' := (ns + 41)) rfl rfl ?_
          refine lv_icmp_eq (tgt := 942) hx hb dL_law_295 (by decide) (fun c295 => ?_) (fun c295 => by exfalso; exact c295 rfl)
          refine n_iinc (d := 7) (lv' := [(3, .int (nI (k + 7))), (0, .ref (b)), (1, .ref (bb 0)), (2, .ref (h))]) C dL_law_942 (by decide) hl (k := 3) rfl (by decide) rfl (fun ls hl => ?_)
          refine lv_goto (tgt := 18) hx hb dL_law_945 (by decide) ?_
          exact ih_lp (k + 7) ((nc + 4)) ((ns + 41)) (runT τ (xs (k + 1)) (xs (k + 2)) (xs (k + 3)) (xs (k + 4))) (H1) (locs) ls (by omega) (by omega) (by omega) (by omega) (hG.run _ _ _ _) (hM) (hB) (hZs) (hS) (lv_sub hl [1, 2, 3, 0] rfl)
        by_cases k33_4 : ((xs (k)) &&& (31 : Int32)) = 4
        · skip
          refine n_tabIn (tgt := 300) (off := 267) C (4) (k33_4) dL_law_33 (by decide) (by decide) (by decide) (by decide) ?_
          refine lv_aload_n hx hb dL_law_300 rfl (lv_at hl 1 rfl) ?_
          refine lv_aload_n hx hb dL_law_301 rfl (lv_at hl 0 rfl) ?_
          refine lv_iload_n hx hb dL_law_302 rfl (lv_at hl 3 rfl) ?_
          refine lv_iconst (v := nI 1) hx hb dL_law_303 (by decide) ?_
          refine n_iadd C dL_law_304 ?_
          refine va_sld C.1.1 C.1.2.1 hX hbl hbA hS (vp_in_nI (show k + 1 < L by omega) (by omega)) dL_law_305 ?_
          refine w_topi (y := xs (k + 1)) (by rw [nI_clamp (by omega)]) ?_
          refine lv_aload_n hx hb dL_law_306 rfl (lv_at hl 0 rfl) ?_
          refine lv_iload_n hx hb dL_law_307 rfl (lv_at hl 3 rfl) ?_
          refine lv_iconst (v := nI 2) hx hb dL_law_308 (by decide) ?_
          refine n_iadd C dL_law_309 ?_
          refine va_sld C.1.1 C.1.2.1 hX hbl hbA hS (vp_in_nI (show k + 2 < L by omega) (by omega)) dL_law_310 ?_
          refine w_topi (y := xs (k + 2)) (by rw [nI_clamp (by omega)]) ?_
          refine lv_aload_n hx hb dL_law_311 rfl (lv_at hl 0 rfl) ?_
          refine lv_iload_n hx hb dL_law_312 rfl (lv_at hl 3 rfl) ?_
          refine lv_iconst (v := nI 3) hx hb dL_law_313 (by decide) ?_
          refine n_iadd C dL_law_314 ?_
          refine va_sld C.1.1 C.1.2.1 hX hbl hbA hS (vp_in_nI (show k + 3 < L by omega) (by omega)) dL_law_315 ?_
          refine w_topi (y := xs (k + 3)) (by rw [nI_clamp (by omega)]) ?_
          refine lv_aload_n hx hb dL_law_316 rfl (lv_at hl 0 rfl) ?_
          refine lv_iload_n hx hb dL_law_317 rfl (lv_at hl 3 rfl) ?_
          refine lv_iconst (v := nI 4) hx hb dL_law_318 (by decide) ?_
          refine n_iadd C dL_law_319 ?_
          refine va_sld C.1.1 C.1.2.1 hX hbl hbA hS (vp_in_nI (show k + 4 < L by omega) (by omega)) dL_law_320 ?_
          refine w_topi (y := xs (k + 4)) (by rw [nI_clamp (by omega)]) ?_
          refine k_w (c_V (As := [.int (xs (k + 1)), .int (xs (k + 2)), .int (xs (k + 3)), .int (xs (k + 4))]) (rest := []) C v_L_32 (c4_fork l g bb (ZZ g bb h ad) τ hG.1 hbi (fun q hq => Or.inl hq) H.size hZs hG.2 (xs (k + 1)) (xs (k + 2)) (xs (k + 3)) (xs (k + 4))) ⟨Nat.le_of_ble_eq_true rfl, Nat.le_of_ble_eq_true rfl⟩ (bk_recv C hB) (⟨rfl, hB⟩) hl.1 rfl rfl (Nat.le_of_ble_eq_true rfl) dL_law_321 ⟨by show nc + 4 ≤ 600000; omega, by show ns + 41 ≤ 7302250; omega⟩) hS (fun q hq => hq.elim (fun e => hge q (Or.inl e)) (fun e => Nat.le_trans hS.1 e)) (fun r321 H1 locs q321 hz321 hk321 hS => ?_)
          obtain ⟨rfl, hB⟩ := q321
          have hM := hM.keep hk321 (fun q hq hq2 => hq2.elim (fun e => hap q e hq) (fun e => absurd e (Nat.not_le.mpr (hZs q (Or.inr hq)))))
          have hZs : ∀ q, ZZ g bb h ad q → q < H1.size := fun q hq => Nat.lt_of_lt_of_le (hZs q hq) hz321
          refine W.eq (g2 := F0 m 324 ls [.int (forkA τ (xs (k + 1)) (xs (k + 2)) (xs (k + 3)) (xs (k + 4)))]) rfl ?_
          refine W.cs (cells' := nc + 4) (slots' := ns + 41) rfl rfl ?_
          refine lv_aload_n hx hb dL_law_324 rfl (lv_at hl 2 rfl) ?_
          refine lv_aload_n hx hb dL_law_325 rfl (lv_at hl 0 rfl) ?_
          refine lv_iload_n hx hb dL_law_326 rfl (lv_at hl 3 rfl) ?_
          refine lv_iconst (v := nI 1) hx hb dL_law_327 (by decide) ?_
          refine n_iadd C dL_law_328 ?_
          refine va_sld C.1.1 C.1.2.1 hX hbl hbA hS (vp_in_nI (show k + 1 < L by omega) (by omega)) dL_law_329 ?_
          refine w_topi (y := xs (k + 1)) (by rw [nI_clamp (by omega)]) ?_
          refine lv_aload_n hx hb dL_law_330 rfl (lv_at hl 0 rfl) ?_
          refine lv_iload_n hx hb dL_law_331 rfl (lv_at hl 3 rfl) ?_
          refine lv_iconst (v := nI 2) hx hb dL_law_332 (by decide) ?_
          refine n_iadd C dL_law_333 ?_
          refine va_sld C.1.1 C.1.2.1 hX hbl hbA hS (vp_in_nI (show k + 2 < L by omega) (by omega)) dL_law_334 ?_
          refine w_topi (y := xs (k + 2)) (by rw [nI_clamp (by omega)]) ?_
          refine lv_aload_n hx hb dL_law_335 rfl (lv_at hl 0 rfl) ?_
          refine lv_iload_n hx hb dL_law_336 rfl (lv_at hl 3 rfl) ?_
          refine lv_iconst (v := nI 3) hx hb dL_law_337 (by decide) ?_
          refine n_iadd C dL_law_338 ?_
          refine va_sld C.1.1 C.1.2.1 hX hbl hbA hS (vp_in_nI (show k + 3 < L by omega) (by omega)) dL_law_339 ?_
          refine w_topi (y := xs (k + 3)) (by rw [nI_clamp (by omega)]) ?_
          refine lv_aload_n hx hb dL_law_340 rfl (lv_at hl 0 rfl) ?_
          refine lv_iload_n hx hb dL_law_341 rfl (lv_at hl 3 rfl) ?_
          refine lv_iconst (v := nI 4) hx hb dL_law_342 (by decide) ?_
          refine n_iadd C dL_law_343 ?_
          refine va_sld C.1.1 C.1.2.1 hX hbl hbA hS (vp_in_nI (show k + 4 < L by omega) (by omega)) dL_law_344 ?_
          refine w_topi (y := xs (k + 4)) (by rw [nI_clamp (by omega)]) ?_
          refine k_w (c_V (As := [.int (xs (k + 1)), .int (xs (k + 2)), .int (xs (k + 3)), .int (xs (k + 4))]) (rest := [.int (forkA τ (xs (k + 1)) (xs (k + 2)) (xs (k + 3)) (xs (k + 4)))]) C v_L_35 (c5_fork l g h ad τ hG.1 hD (xs (k + 1)) (xs (k + 2)) (xs (k + 3)) (xs (k + 4))) ⟨Nat.le_of_ble_eq_true rfl, Nat.le_of_ble_eq_true rfl⟩ (md_recv C hM) (hM) hl.1 rfl rfl (Nat.le_of_ble_eq_true rfl) dL_law_345 ⟨by show (nc + 4) + 0 ≤ 600000; omega, by show (ns + 41) + 0 ≤ 7302250; omega⟩) hS (fun q hq => hge q (Or.inr hq)) (fun r345 H1 locs q345 hz345 hk345 hS => ?_)
          obtain ⟨rfl, hM⟩ := q345
          have hB := hB.keep hz345 hk345 (fun q _ hq hq2 => hap q hq hq2) (fun q _ hq => Or.inr hq)
          have hZs : ∀ q, ZZ g bb h ad q → q < H1.size := fun q hq => Nat.lt_of_lt_of_le (hZs q hq) hz345
          refine W.eq (g2 := F0 m 348 ls [.int (forkA τ (xs (k + 1)) (xs (k + 2)) (xs (k + 3)) (xs (k + 4))), .int (forkA τ (xs (k + 1)) (xs (k + 2)) (xs (k + 3)) (xs (k + 4)))]) rfl ?_
          refine W.cs (cells' := (nc + 4)) (slots' := (ns + 41)) rfl rfl ?_
          refine lv_icmp_eq (tgt := 942) hx hb dL_law_348 (by decide) (fun c348 => ?_) (fun c348 => by exfalso; exact c348 rfl)
          refine n_iinc (d := 7) (lv' := [(3, .int (nI (k + 7))), (0, .ref (b)), (1, .ref (bb 0)), (2, .ref (h))]) C dL_law_942 (by decide) hl (k := 3) rfl (by decide) rfl (fun ls hl => ?_)
          refine lv_goto (tgt := 18) hx hb dL_law_945 (by decide) ?_
          exact ih_lp (k + 7) ((nc + 4)) ((ns + 41)) (forkT τ (xs (k + 1)) (xs (k + 2)) (xs (k + 3)) (xs (k + 4))) (H1) (locs) ls (by omega) (by omega) (by omega) (by omega) (hG.fork _ _ _ _) (hM) (hB) (hZs) (hS) (lv_sub hl [1, 2, 3, 0] rfl)
        by_cases k33_5 : ((xs (k)) &&& (31 : Int32)) = 5
        · skip
          refine n_tabIn (tgt := 353) (off := 320) C (5) (k33_5) dL_law_33 (by decide) (by decide) (by decide) (by decide) ?_
          refine lv_aload_n hx hb dL_law_353 rfl (lv_at hl 1 rfl) ?_
          refine lv_aload_n hx hb dL_law_354 rfl (lv_at hl 0 rfl) ?_
          refine lv_iload_n hx hb dL_law_355 rfl (lv_at hl 3 rfl) ?_
          refine lv_iconst (v := nI 1) hx hb dL_law_356 (by decide) ?_
          refine n_iadd C dL_law_357 ?_
          refine va_sld C.1.1 C.1.2.1 hX hbl hbA hS (vp_in_nI (show k + 1 < L by omega) (by omega)) dL_law_358 ?_
          refine w_topi (y := xs (k + 1)) (by rw [nI_clamp (by omega)]) ?_
          refine lv_aload_n hx hb dL_law_359 rfl (lv_at hl 0 rfl) ?_
          refine lv_iload_n hx hb dL_law_360 rfl (lv_at hl 3 rfl) ?_
          refine lv_iconst (v := nI 2) hx hb dL_law_361 (by decide) ?_
          refine n_iadd C dL_law_362 ?_
          refine va_sld C.1.1 C.1.2.1 hX hbl hbA hS (vp_in_nI (show k + 2 < L by omega) (by omega)) dL_law_363 ?_
          refine w_topi (y := xs (k + 2)) (by rw [nI_clamp (by omega)]) ?_
          refine k_i (c_V (As := [.int (xs (k + 1)), .int (xs (k + 2))]) (rest := []) C v_L_36 (c4_of l g bb (ZZ g bb h ad) τ hG.1 (xs (k + 1)) (xs (k + 2))) ⟨Nat.le_of_ble_eq_true rfl, Nat.le_of_ble_eq_true rfl⟩ (bk_recv C hB) (hB) hl.1 rfl rfl (Nat.le_of_ble_eq_true rfl) dL_law_364 ⟨by show nc + 0 ≤ 600000; omega, by show ns + 0 ≤ 7302250; omega⟩) (fun r364 q364 => ?_)
          subst q364
          refine lv_aload_n hx hb dL_law_367 rfl (lv_at hl 2 rfl) ?_
          refine lv_aload_n hx hb dL_law_368 rfl (lv_at hl 0 rfl) ?_
          refine lv_iload_n hx hb dL_law_369 rfl (lv_at hl 3 rfl) ?_
          refine lv_iconst (v := nI 1) hx hb dL_law_370 (by decide) ?_
          refine n_iadd C dL_law_371 ?_
          refine va_sld C.1.1 C.1.2.1 hX hbl hbA hS (vp_in_nI (show k + 1 < L by omega) (by omega)) dL_law_372 ?_
          refine w_topi (y := xs (k + 1)) (by rw [nI_clamp (by omega)]) ?_
          refine lv_aload_n hx hb dL_law_373 rfl (lv_at hl 0 rfl) ?_
          refine lv_iload_n hx hb dL_law_374 rfl (lv_at hl 3 rfl) ?_
          refine lv_iconst (v := nI 2) hx hb dL_law_375 (by decide) ?_
          refine n_iadd C dL_law_376 ?_
          refine va_sld C.1.1 C.1.2.1 hX hbl hbA hS (vp_in_nI (show k + 2 < L by omega) (by omega)) dL_law_377 ?_
          refine w_topi (y := xs (k + 2)) (by rw [nI_clamp (by omega)]) ?_
          refine k_w (c_V (As := [.int (xs (k + 1)), .int (xs (k + 2))]) (rest := [.int (ofT τ (xs (k + 1)) (xs (k + 2)))]) C v_L_40 (c5_of l g h ad τ hG.1 hD (xs (k + 1)) (xs (k + 2))) ⟨Nat.le_of_ble_eq_true rfl, Nat.le_of_ble_eq_true rfl⟩ (md_recv C hM) (hM) hl.1 rfl rfl (Nat.le_of_ble_eq_true rfl) dL_law_378 ⟨by show nc + 0 ≤ 600000; omega, by show ns + 0 ≤ 7302250; omega⟩) hS (fun q hq => hge q (Or.inr hq)) (fun r378 H1 locs q378 hz378 hk378 hS => ?_)
          obtain ⟨rfl, hM⟩ := q378
          have hB := hB.keep hz378 hk378 (fun q _ hq hq2 => hap q hq hq2) (fun q _ hq => Or.inr hq)
          have hZs : ∀ q, ZZ g bb h ad q → q < H1.size := fun q hq => Nat.lt_of_lt_of_le (hZs q hq) hz378
          refine W.eq (g2 := F0 m 381 ls [.int (ofT τ (xs (k + 1)) (xs (k + 2))), .int (ofT τ (xs (k + 1)) (xs (k + 2)))]) rfl ?_
          refine W.cs (cells' := nc) (slots' := ns) rfl rfl ?_
          refine lv_icmp_eq (tgt := 942) hx hb dL_law_381 (by decide) (fun c381 => ?_) (fun c381 => by exfalso; exact c381 rfl)
          refine n_iinc (d := 7) (lv' := [(3, .int (nI (k + 7))), (0, .ref (b)), (1, .ref (bb 0)), (2, .ref (h))]) C dL_law_942 (by decide) hl (k := 3) rfl (by decide) rfl (fun ls hl => ?_)
          refine lv_goto (tgt := 18) hx hb dL_law_945 (by decide) ?_
          exact ih_lp (k + 7) (nc) (ns) (τ) (H1) (locs) ls (by omega) (by omega) (by omega) (by omega) (hG) (hM) (hB) (hZs) (hS) (lv_sub hl [1, 2, 3, 0] rfl)
        by_cases k33_6 : ((xs (k)) &&& (31 : Int32)) = 6
        · skip
          refine n_tabIn (tgt := 386) (off := 353) C (6) (k33_6) dL_law_33 (by decide) (by decide) (by decide) (by decide) ?_
          refine lv_aload_n hx hb dL_law_386 rfl (lv_at hl 1 rfl) ?_
          refine k_i (c_V (As := []) (rest := []) C v_L_41 (c4_clock l g bb (ZZ g bb h ad) τ hG.1 ) ⟨Nat.le_of_ble_eq_true rfl, Nat.le_of_ble_eq_true rfl⟩ (bk_recv C hB) (hB) hl.1 rfl rfl (Nat.le_of_ble_eq_true rfl) dL_law_387 ⟨by show nc + 0 ≤ 600000; omega, by show ns + 0 ≤ 7302250; omega⟩) (fun r387 q387 => ?_)
          subst q387
          refine lv_aload_n hx hb dL_law_390 rfl (lv_at hl 2 rfl) ?_
          refine k_w (c_V (As := []) (rest := [.int (tClk τ)]) C v_L_45 (c5_clock l g h ad τ hG.1 hD ) ⟨Nat.le_of_ble_eq_true rfl, Nat.le_of_ble_eq_true rfl⟩ (md_recv C hM) (hM) hl.1 rfl rfl (Nat.le_of_ble_eq_true rfl) dL_law_391 ⟨by show nc + 0 ≤ 600000; omega, by show ns + 0 ≤ 7302250; omega⟩) hS (fun q hq => hge q (Or.inr hq)) (fun r391 H1 locs q391 hz391 hk391 hS => ?_)
          obtain ⟨rfl, hM⟩ := q391
          have hB := hB.keep hz391 hk391 (fun q _ hq hq2 => hap q hq hq2) (fun q _ hq => Or.inr hq)
          have hZs : ∀ q, ZZ g bb h ad q → q < H1.size := fun q hq => Nat.lt_of_lt_of_le (hZs q hq) hz391
          refine W.eq (g2 := F0 m 394 ls [.int (tClk τ), .int (tClk τ)]) rfl ?_
          refine W.cs (cells' := nc) (slots' := ns) rfl rfl ?_
          refine lv_icmp_eq (tgt := 942) hx hb dL_law_394 (by decide) (fun c394 => ?_) (fun c394 => by exfalso; exact c394 rfl)
          refine n_iinc (d := 7) (lv' := [(3, .int (nI (k + 7))), (0, .ref (b)), (1, .ref (bb 0)), (2, .ref (h))]) C dL_law_942 (by decide) hl (k := 3) rfl (by decide) rfl (fun ls hl => ?_)
          refine lv_goto (tgt := 18) hx hb dL_law_945 (by decide) ?_
          exact ih_lp (k + 7) (nc) (ns) (τ) (H1) (locs) ls (by omega) (by omega) (by omega) (by omega) (hG) (hM) (hB) (hZs) (hS) (lv_sub hl [1, 2, 3, 0] rfl)
        by_cases k33_7 : ((xs (k)) &&& (31 : Int32)) = 7
        · skip
          refine n_tabIn (tgt := 399) (off := 366) C (7) (k33_7) dL_law_33 (by decide) (by decide) (by decide) (by decide) ?_
          refine lv_aload_n hx hb dL_law_399 rfl (lv_at hl 1 rfl) ?_
          refine k_i (c_V (As := []) (rest := []) C v_L_46 (c4_runs l g bb (ZZ g bb h ad) τ hG.1 ) ⟨Nat.le_of_ble_eq_true rfl, Nat.le_of_ble_eq_true rfl⟩ (bk_recv C hB) (hB) hl.1 rfl rfl (Nat.le_of_ble_eq_true rfl) dL_law_400 ⟨by show nc + 0 ≤ 600000; omega, by show ns + 0 ≤ 7302250; omega⟩) (fun r400 q400 => ?_)
          subst q400
          refine lv_aload_n hx hb dL_law_403 rfl (lv_at hl 2 rfl) ?_
          refine k_w (c_V (As := []) (rest := [.int (nI (tN τ))]) C v_L_49 (c5_runs l g h ad τ hG.1 hD ) ⟨Nat.le_of_ble_eq_true rfl, Nat.le_of_ble_eq_true rfl⟩ (md_recv C hM) (hM) hl.1 rfl rfl (Nat.le_of_ble_eq_true rfl) dL_law_404 ⟨by show nc + 0 ≤ 600000; omega, by show ns + 0 ≤ 7302250; omega⟩) hS (fun q hq => hge q (Or.inr hq)) (fun r404 H1 locs q404 hz404 hk404 hS => ?_)
          obtain ⟨rfl, hM⟩ := q404
          have hB := hB.keep hz404 hk404 (fun q _ hq hq2 => hap q hq hq2) (fun q _ hq => Or.inr hq)
          have hZs : ∀ q, ZZ g bb h ad q → q < H1.size := fun q hq => Nat.lt_of_lt_of_le (hZs q hq) hz404
          refine W.eq (g2 := F0 m 407 ls [.int (nI (tN τ)), .int (nI (tN τ))]) rfl ?_
          refine W.cs (cells' := nc) (slots' := ns) rfl rfl ?_
          refine n_icmp_eq (tgt := 942) C (by omega) (by omega) dL_law_407 (by decide) (fun c407 => ?_) (fun c407 => by exfalso; exact c407 rfl)
          refine n_iinc (d := 7) (lv' := [(3, .int (nI (k + 7))), (0, .ref (b)), (1, .ref (bb 0)), (2, .ref (h))]) C dL_law_942 (by decide) hl (k := 3) rfl (by decide) rfl (fun ls hl => ?_)
          refine lv_goto (tgt := 18) hx hb dL_law_945 (by decide) ?_
          exact ih_lp (k + 7) (nc) (ns) (τ) (H1) (locs) ls (by omega) (by omega) (by omega) (by omega) (hG) (hM) (hB) (hZs) (hS) (lv_sub hl [1, 2, 3, 0] rfl)
        by_cases k33_8 : ((xs (k)) &&& (31 : Int32)) = 8
        · skip
          refine n_tabIn (tgt := 412) (off := 379) C (8) (k33_8) dL_law_33 (by decide) (by decide) (by decide) (by decide) ?_
          refine lv_aload_n hx hb dL_law_412 rfl (lv_at hl 1 rfl) ?_
          refine lv_aload_n hx hb dL_law_413 rfl (lv_at hl 0 rfl) ?_
          refine lv_iload_n hx hb dL_law_414 rfl (lv_at hl 3 rfl) ?_
          refine lv_iconst (v := nI 1) hx hb dL_law_415 (by decide) ?_
          refine n_iadd C dL_law_416 ?_
          refine va_sld C.1.1 C.1.2.1 hX hbl hbA hS (vp_in_nI (show k + 1 < L by omega) (by omega)) dL_law_417 ?_
          refine w_topi (y := xs (k + 1)) (by rw [nI_clamp (by omega)]) ?_
          refine k_w (c_V (As := [.int (xs (k + 1))]) (rest := []) C v_L_50 (c4_again l g bb (ZZ g bb h ad) τ hG.1 hbi (fun q hq => Or.inl hq) H.size hZs (xs (k + 1))) ⟨Nat.le_of_ble_eq_true rfl, Nat.le_of_ble_eq_true rfl⟩ (bk_recv C hB) (⟨rfl, hB⟩) hl.1 rfl rfl (Nat.le_of_ble_eq_true rfl) dL_law_418 ⟨by show nc + 4 ≤ 600000; omega, by show ns + 41 ≤ 7302250; omega⟩) hS (fun q hq => hq.elim (fun e => hge q (Or.inl e)) (fun e => Nat.le_trans hS.1 e)) (fun r418 H1 locs q418 hz418 hk418 hS => ?_)
          obtain ⟨rfl, hB⟩ := q418
          have hM := hM.keep hk418 (fun q hq hq2 => hq2.elim (fun e => hap q e hq) (fun e => absurd e (Nat.not_le.mpr (hZs q (Or.inr hq)))))
          have hZs : ∀ q, ZZ g bb h ad q → q < H1.size := fun q hq => Nat.lt_of_lt_of_le (hZs q hq) hz418
          refine W.eq (g2 := F0 m 421 ls [.int (againA τ (xs (k + 1)))]) rfl ?_
          refine W.cs (cells' := nc + 4) (slots' := ns + 41) rfl rfl ?_
          refine lv_aload_n hx hb dL_law_421 rfl (lv_at hl 2 rfl) ?_
          refine lv_aload_n hx hb dL_law_422 rfl (lv_at hl 0 rfl) ?_
          refine lv_iload_n hx hb dL_law_423 rfl (lv_at hl 3 rfl) ?_
          refine lv_iconst (v := nI 1) hx hb dL_law_424 (by decide) ?_
          refine n_iadd C dL_law_425 ?_
          refine va_sld C.1.1 C.1.2.1 hX hbl hbA hS (vp_in_nI (show k + 1 < L by omega) (by omega)) dL_law_426 ?_
          refine w_topi (y := xs (k + 1)) (by rw [nI_clamp (by omega)]) ?_
          refine k_w (c_V (As := [.int (xs (k + 1))]) (rest := [.int (againA τ (xs (k + 1)))]) C v_L_54 (c5_again l g h ad τ hG.1 hD (xs (k + 1))) ⟨Nat.le_of_ble_eq_true rfl, Nat.le_of_ble_eq_true rfl⟩ (md_recv C hM) (hM) hl.1 rfl rfl (Nat.le_of_ble_eq_true rfl) dL_law_427 ⟨by show (nc + 4) + 0 ≤ 600000; omega, by show (ns + 41) + 0 ≤ 7302250; omega⟩) hS (fun q hq => hge q (Or.inr hq)) (fun r427 H1 locs q427 hz427 hk427 hS => ?_)
          obtain ⟨rfl, hM⟩ := q427
          have hB := hB.keep hz427 hk427 (fun q _ hq hq2 => hap q hq hq2) (fun q _ hq => Or.inr hq)
          have hZs : ∀ q, ZZ g bb h ad q → q < H1.size := fun q hq => Nat.lt_of_lt_of_le (hZs q hq) hz427
          refine W.eq (g2 := F0 m 430 ls [.int (againA τ (xs (k + 1))), .int (againA τ (xs (k + 1)))]) rfl ?_
          refine W.cs (cells' := (nc + 4)) (slots' := (ns + 41)) rfl rfl ?_
          refine lv_icmp_eq (tgt := 942) hx hb dL_law_430 (by decide) (fun c430 => ?_) (fun c430 => by exfalso; exact c430 rfl)
          refine n_iinc (d := 7) (lv' := [(3, .int (nI (k + 7))), (0, .ref (b)), (1, .ref (bb 0)), (2, .ref (h))]) C dL_law_942 (by decide) hl (k := 3) rfl (by decide) rfl (fun ls hl => ?_)
          refine lv_goto (tgt := 18) hx hb dL_law_945 (by decide) ?_
          exact ih_lp (k + 7) ((nc + 4)) ((ns + 41)) (againT τ (xs (k + 1))) (H1) (locs) ls (by omega) (by omega) (by omega) (by omega) (hG.again _) (hM) (hB) (hZs) (hS) (lv_sub hl [1, 2, 3, 0] rfl)
        by_cases k33_9 : ((xs (k)) &&& (31 : Int32)) = 9
        · skip
          refine n_tabIn (tgt := 435) (off := 402) C (9) (k33_9) dL_law_33 (by decide) (by decide) (by decide) (by decide) ?_
          refine lv_aload_n hx hb dL_law_435 rfl (lv_at hl 1 rfl) ?_
          refine lv_aload_n hx hb dL_law_436 rfl (lv_at hl 0 rfl) ?_
          refine lv_iload_n hx hb dL_law_437 rfl (lv_at hl 3 rfl) ?_
          refine lv_iconst (v := nI 1) hx hb dL_law_438 (by decide) ?_
          refine n_iadd C dL_law_439 ?_
          refine va_sld C.1.1 C.1.2.1 hX hbl hbA hS (vp_in_nI (show k + 1 < L by omega) (by omega)) dL_law_440 ?_
          refine w_topi (y := xs (k + 1)) (by rw [nI_clamp (by omega)]) ?_
          refine k_i (c_V (As := [.int (xs (k + 1))]) (rest := []) C v_L_55 (c4_loose l g bb (ZZ g bb h ad) τ hG.1 (xs (k + 1))) ⟨Nat.le_of_ble_eq_true rfl, Nat.le_of_ble_eq_true rfl⟩ (bk_recv C hB) (hB) hl.1 rfl rfl (Nat.le_of_ble_eq_true rfl) dL_law_441 ⟨by show nc + 0 ≤ 600000; omega, by show ns + 0 ≤ 7302250; omega⟩) (fun r441 q441 => ?_)
          subst q441
          refine lv_aload_n hx hb dL_law_444 rfl (lv_at hl 2 rfl) ?_
          refine lv_aload_n hx hb dL_law_445 rfl (lv_at hl 0 rfl) ?_
          refine lv_iload_n hx hb dL_law_446 rfl (lv_at hl 3 rfl) ?_
          refine lv_iconst (v := nI 1) hx hb dL_law_447 (by decide) ?_
          refine n_iadd C dL_law_448 ?_
          refine va_sld C.1.1 C.1.2.1 hX hbl hbA hS (vp_in_nI (show k + 1 < L by omega) (by omega)) dL_law_449 ?_
          refine w_topi (y := xs (k + 1)) (by rw [nI_clamp (by omega)]) ?_
          refine k_w (c_V (As := [.int (xs (k + 1))]) (rest := [.int (looseT τ (xs (k + 1)))]) C v_L_58 (c5_loose l g h ad τ hG.1 hD (xs (k + 1))) ⟨Nat.le_of_ble_eq_true rfl, Nat.le_of_ble_eq_true rfl⟩ (md_recv C hM) (hM) hl.1 rfl rfl (Nat.le_of_ble_eq_true rfl) dL_law_450 ⟨by show nc + 0 ≤ 600000; omega, by show ns + 0 ≤ 7302250; omega⟩) hS (fun q hq => hge q (Or.inr hq)) (fun r450 H1 locs q450 hz450 hk450 hS => ?_)
          obtain ⟨rfl, hM⟩ := q450
          have hB := hB.keep hz450 hk450 (fun q _ hq hq2 => hap q hq hq2) (fun q _ hq => Or.inr hq)
          have hZs : ∀ q, ZZ g bb h ad q → q < H1.size := fun q hq => Nat.lt_of_lt_of_le (hZs q hq) hz450
          refine W.eq (g2 := F0 m 453 ls [.int (looseT τ (xs (k + 1))), .int (looseT τ (xs (k + 1)))]) rfl ?_
          refine W.cs (cells' := nc) (slots' := ns) rfl rfl ?_
          refine lv_icmp_eq (tgt := 942) hx hb dL_law_453 (by decide) (fun c453 => ?_) (fun c453 => by exfalso; exact c453 rfl)
          refine n_iinc (d := 7) (lv' := [(3, .int (nI (k + 7))), (0, .ref (b)), (1, .ref (bb 0)), (2, .ref (h))]) C dL_law_942 (by decide) hl (k := 3) rfl (by decide) rfl (fun ls hl => ?_)
          refine lv_goto (tgt := 18) hx hb dL_law_945 (by decide) ?_
          exact ih_lp (k + 7) (nc) (ns) (τ) (H1) (locs) ls (by omega) (by omega) (by omega) (by omega) (hG) (hM) (hB) (hZs) (hS) (lv_sub hl [1, 2, 3, 0] rfl)
        by_cases k33_10 : ((xs (k)) &&& (31 : Int32)) = 10
        · skip
          refine n_tabIn (tgt := 458) (off := 425) C (10) (k33_10) dL_law_33 (by decide) (by decide) (by decide) (by decide) ?_
          refine lv_aload_n hx hb dL_law_458 rfl (lv_at hl 1 rfl) ?_
          refine lv_aload_n hx hb dL_law_459 rfl (lv_at hl 0 rfl) ?_
          refine lv_iload_n hx hb dL_law_460 rfl (lv_at hl 3 rfl) ?_
          refine lv_iconst (v := nI 1) hx hb dL_law_461 (by decide) ?_
          refine n_iadd C dL_law_462 ?_
          refine va_sld C.1.1 C.1.2.1 hX hbl hbA hS (vp_in_nI (show k + 1 < L by omega) (by omega)) dL_law_463 ?_
          refine w_topi (y := xs (k + 1)) (by rw [nI_clamp (by omega)]) ?_
          refine lv_aload_n hx hb dL_law_464 rfl (lv_at hl 0 rfl) ?_
          refine lv_iload_n hx hb dL_law_465 rfl (lv_at hl 3 rfl) ?_
          refine lv_iconst (v := nI 2) hx hb dL_law_466 (by decide) ?_
          refine n_iadd C dL_law_467 ?_
          refine va_sld C.1.1 C.1.2.1 hX hbl hbA hS (vp_in_nI (show k + 2 < L by omega) (by omega)) dL_law_468 ?_
          refine w_topi (y := xs (k + 2)) (by rw [nI_clamp (by omega)]) ?_
          refine lv_aload_n hx hb dL_law_469 rfl (lv_at hl 0 rfl) ?_
          refine lv_iload_n hx hb dL_law_470 rfl (lv_at hl 3 rfl) ?_
          refine lv_iconst (v := nI 3) hx hb dL_law_471 (by decide) ?_
          refine n_iadd C dL_law_472 ?_
          refine va_sld C.1.1 C.1.2.1 hX hbl hbA hS (vp_in_nI (show k + 3 < L by omega) (by omega)) dL_law_473 ?_
          refine w_topi (y := xs (k + 3)) (by rw [nI_clamp (by omega)]) ?_
          refine lv_aload_n hx hb dL_law_474 rfl (lv_at hl 0 rfl) ?_
          refine lv_iload_n hx hb dL_law_475 rfl (lv_at hl 3 rfl) ?_
          refine lv_iconst (v := nI 4) hx hb dL_law_476 (by decide) ?_
          refine n_iadd C dL_law_477 ?_
          refine va_sld C.1.1 C.1.2.1 hX hbl hbA hS (vp_in_nI (show k + 4 < L by omega) (by omega)) dL_law_478 ?_
          refine w_topi (y := xs (k + 4)) (by rw [nI_clamp (by omega)]) ?_
          refine k_i (c_V (As := [.int (xs (k + 1)), .int (xs (k + 2)), .int (xs (k + 3)), .int (xs (k + 4))]) (rest := []) C v_L_59 (c4_saved l g bb (ZZ g bb h ad) τ hG.1 (xs (k + 1)) (xs (k + 2)) (xs (k + 3)) (xs (k + 4))) ⟨Nat.le_of_ble_eq_true rfl, Nat.le_of_ble_eq_true rfl⟩ (bk_recv C hB) (hB) hl.1 rfl rfl (Nat.le_of_ble_eq_true rfl) dL_law_479 ⟨by show nc + 0 ≤ 600000; omega, by show ns + 0 ≤ 7302250; omega⟩) (fun r479 q479 => ?_)
          subst q479
          refine lv_aload_n hx hb dL_law_482 rfl (lv_at hl 2 rfl) ?_
          refine lv_aload_n hx hb dL_law_483 rfl (lv_at hl 0 rfl) ?_
          refine lv_iload_n hx hb dL_law_484 rfl (lv_at hl 3 rfl) ?_
          refine lv_iconst (v := nI 1) hx hb dL_law_485 (by decide) ?_
          refine n_iadd C dL_law_486 ?_
          refine va_sld C.1.1 C.1.2.1 hX hbl hbA hS (vp_in_nI (show k + 1 < L by omega) (by omega)) dL_law_487 ?_
          refine w_topi (y := xs (k + 1)) (by rw [nI_clamp (by omega)]) ?_
          refine lv_aload_n hx hb dL_law_488 rfl (lv_at hl 0 rfl) ?_
          refine lv_iload_n hx hb dL_law_489 rfl (lv_at hl 3 rfl) ?_
          refine lv_iconst (v := nI 2) hx hb dL_law_490 (by decide) ?_
          refine n_iadd C dL_law_491 ?_
          refine va_sld C.1.1 C.1.2.1 hX hbl hbA hS (vp_in_nI (show k + 2 < L by omega) (by omega)) dL_law_492 ?_
          refine w_topi (y := xs (k + 2)) (by rw [nI_clamp (by omega)]) ?_
          refine lv_aload_n hx hb dL_law_493 rfl (lv_at hl 0 rfl) ?_
          refine lv_iload_n hx hb dL_law_494 rfl (lv_at hl 3 rfl) ?_
          refine lv_iconst (v := nI 3) hx hb dL_law_495 (by decide) ?_
          refine n_iadd C dL_law_496 ?_
          refine va_sld C.1.1 C.1.2.1 hX hbl hbA hS (vp_in_nI (show k + 3 < L by omega) (by omega)) dL_law_497 ?_
          refine w_topi (y := xs (k + 3)) (by rw [nI_clamp (by omega)]) ?_
          refine lv_aload_n hx hb dL_law_498 rfl (lv_at hl 0 rfl) ?_
          refine lv_iload_n hx hb dL_law_499 rfl (lv_at hl 3 rfl) ?_
          refine lv_iconst (v := nI 4) hx hb dL_law_500 (by decide) ?_
          refine n_iadd C dL_law_501 ?_
          refine va_sld C.1.1 C.1.2.1 hX hbl hbA hS (vp_in_nI (show k + 4 < L by omega) (by omega)) dL_law_502 ?_
          refine w_topi (y := xs (k + 4)) (by rw [nI_clamp (by omega)]) ?_
          refine k_w (c_V (As := [.int (xs (k + 1)), .int (xs (k + 2)), .int (xs (k + 3)), .int (xs (k + 4))]) (rest := [.int (savedT τ (xs (k + 1)) (xs (k + 2)) (xs (k + 3)) (xs (k + 4)))]) C v_L_62 (c5_saved l g h ad τ hG.1 hD (xs (k + 1)) (xs (k + 2)) (xs (k + 3)) (xs (k + 4))) ⟨Nat.le_of_ble_eq_true rfl, Nat.le_of_ble_eq_true rfl⟩ (md_recv C hM) (hM) hl.1 rfl rfl (Nat.le_of_ble_eq_true rfl) dL_law_503 ⟨by show nc + 0 ≤ 600000; omega, by show ns + 0 ≤ 7302250; omega⟩) hS (fun q hq => hge q (Or.inr hq)) (fun r503 H1 locs q503 hz503 hk503 hS => ?_)
          obtain ⟨rfl, hM⟩ := q503
          have hB := hB.keep hz503 hk503 (fun q _ hq hq2 => hap q hq hq2) (fun q _ hq => Or.inr hq)
          have hZs : ∀ q, ZZ g bb h ad q → q < H1.size := fun q hq => Nat.lt_of_lt_of_le (hZs q hq) hz503
          refine W.eq (g2 := F0 m 506 ls [.int (savedT τ (xs (k + 1)) (xs (k + 2)) (xs (k + 3)) (xs (k + 4))), .int (savedT τ (xs (k + 1)) (xs (k + 2)) (xs (k + 3)) (xs (k + 4)))]) rfl ?_
          refine W.cs (cells' := nc) (slots' := ns) rfl rfl ?_
          refine lv_icmp_eq (tgt := 942) hx hb dL_law_506 (by decide) (fun c506 => ?_) (fun c506 => by exfalso; exact c506 rfl)
          refine n_iinc (d := 7) (lv' := [(3, .int (nI (k + 7))), (0, .ref (b)), (1, .ref (bb 0)), (2, .ref (h))]) C dL_law_942 (by decide) hl (k := 3) rfl (by decide) rfl (fun ls hl => ?_)
          refine lv_goto (tgt := 18) hx hb dL_law_945 (by decide) ?_
          exact ih_lp (k + 7) (nc) (ns) (τ) (H1) (locs) ls (by omega) (by omega) (by omega) (by omega) (hG) (hM) (hB) (hZs) (hS) (lv_sub hl [1, 2, 3, 0] rfl)
        by_cases k33_11 : ((xs (k)) &&& (31 : Int32)) = 11
        · skip
          refine n_tabIn (tgt := 511) (off := 478) C (11) (k33_11) dL_law_33 (by decide) (by decide) (by decide) (by decide) ?_
          refine lv_aload_n hx hb dL_law_511 rfl (lv_at hl 1 rfl) ?_
          refine lv_aload_n hx hb dL_law_512 rfl (lv_at hl 0 rfl) ?_
          refine lv_iload_n hx hb dL_law_513 rfl (lv_at hl 3 rfl) ?_
          refine lv_iconst (v := nI 1) hx hb dL_law_514 (by decide) ?_
          refine n_iadd C dL_law_515 ?_
          refine va_sld C.1.1 C.1.2.1 hX hbl hbA hS (vp_in_nI (show k + 1 < L by omega) (by omega)) dL_law_516 ?_
          refine w_topi (y := xs (k + 1)) (by rw [nI_clamp (by omega)]) ?_
          refine lv_aload_n hx hb dL_law_517 rfl (lv_at hl 0 rfl) ?_
          refine lv_iload_n hx hb dL_law_518 rfl (lv_at hl 3 rfl) ?_
          refine lv_iconst (v := nI 2) hx hb dL_law_519 (by decide) ?_
          refine n_iadd C dL_law_520 ?_
          refine va_sld C.1.1 C.1.2.1 hX hbl hbA hS (vp_in_nI (show k + 2 < L by omega) (by omega)) dL_law_521 ?_
          refine w_topi (y := xs (k + 2)) (by rw [nI_clamp (by omega)]) ?_
          refine lv_aload_n hx hb dL_law_522 rfl (lv_at hl 0 rfl) ?_
          refine lv_iload_n hx hb dL_law_523 rfl (lv_at hl 3 rfl) ?_
          refine lv_iconst (v := nI 3) hx hb dL_law_524 (by decide) ?_
          refine n_iadd C dL_law_525 ?_
          refine va_sld C.1.1 C.1.2.1 hX hbl hbA hS (vp_in_nI (show k + 3 < L by omega) (by omega)) dL_law_526 ?_
          refine w_topi (y := xs (k + 3)) (by rw [nI_clamp (by omega)]) ?_
          refine lv_aload_n hx hb dL_law_527 rfl (lv_at hl 0 rfl) ?_
          refine lv_iload_n hx hb dL_law_528 rfl (lv_at hl 3 rfl) ?_
          refine lv_iconst (v := nI 4) hx hb dL_law_529 (by decide) ?_
          refine n_iadd C dL_law_530 ?_
          refine va_sld C.1.1 C.1.2.1 hX hbl hbA hS (vp_in_nI (show k + 4 < L by omega) (by omega)) dL_law_531 ?_
          refine w_topi (y := xs (k + 4)) (by rw [nI_clamp (by omega)]) ?_
          refine lv_aload_n hx hb dL_law_532 rfl (lv_at hl 0 rfl) ?_
          refine lv_iload_n hx hb dL_law_533 rfl (lv_at hl 3 rfl) ?_
          refine lv_iconst (v := nI 5) hx hb dL_law_534 (by decide) ?_
          refine n_iadd C dL_law_535 ?_
          refine va_sld C.1.1 C.1.2.1 hX hbl hbA hS (vp_in_nI (show k + 5 < L by omega) (by omega)) dL_law_536 ?_
          refine w_topi (y := xs (k + 5)) (by rw [nI_clamp (by omega)]) ?_
          refine k_i (c_V (As := [.int (xs (k + 1)), .int (xs (k + 2)), .int (xs (k + 3)), .int (xs (k + 4)), .int (xs (k + 5))]) (rest := []) C v_L_63 (c4_pairs l g bb (ZZ g bb h ad) τ hG.1 (xs (k + 1)) (xs (k + 2)) (xs (k + 3)) (xs (k + 4)) (xs (k + 5))) ⟨Nat.le_of_ble_eq_true rfl, Nat.le_of_ble_eq_true rfl⟩ (bk_recv C hB) (hB) hl.1 rfl rfl (Nat.le_of_ble_eq_true rfl) dL_law_537 ⟨by show nc + 0 ≤ 600000; omega, by show ns + 0 ≤ 7302250; omega⟩) (fun r537 q537 => ?_)
          subst q537
          refine lv_aload_n hx hb dL_law_540 rfl (lv_at hl 2 rfl) ?_
          refine lv_aload_n hx hb dL_law_541 rfl (lv_at hl 0 rfl) ?_
          refine lv_iload_n hx hb dL_law_542 rfl (lv_at hl 3 rfl) ?_
          refine lv_iconst (v := nI 1) hx hb dL_law_543 (by decide) ?_
          refine n_iadd C dL_law_544 ?_
          refine va_sld C.1.1 C.1.2.1 hX hbl hbA hS (vp_in_nI (show k + 1 < L by omega) (by omega)) dL_law_545 ?_
          refine w_topi (y := xs (k + 1)) (by rw [nI_clamp (by omega)]) ?_
          refine lv_aload_n hx hb dL_law_546 rfl (lv_at hl 0 rfl) ?_
          refine lv_iload_n hx hb dL_law_547 rfl (lv_at hl 3 rfl) ?_
          refine lv_iconst (v := nI 2) hx hb dL_law_548 (by decide) ?_
          refine n_iadd C dL_law_549 ?_
          refine va_sld C.1.1 C.1.2.1 hX hbl hbA hS (vp_in_nI (show k + 2 < L by omega) (by omega)) dL_law_550 ?_
          refine w_topi (y := xs (k + 2)) (by rw [nI_clamp (by omega)]) ?_
          refine lv_aload_n hx hb dL_law_551 rfl (lv_at hl 0 rfl) ?_
          refine lv_iload_n hx hb dL_law_552 rfl (lv_at hl 3 rfl) ?_
          refine lv_iconst (v := nI 3) hx hb dL_law_553 (by decide) ?_
          refine n_iadd C dL_law_554 ?_
          refine va_sld C.1.1 C.1.2.1 hX hbl hbA hS (vp_in_nI (show k + 3 < L by omega) (by omega)) dL_law_555 ?_
          refine w_topi (y := xs (k + 3)) (by rw [nI_clamp (by omega)]) ?_
          refine lv_aload_n hx hb dL_law_556 rfl (lv_at hl 0 rfl) ?_
          refine lv_iload_n hx hb dL_law_557 rfl (lv_at hl 3 rfl) ?_
          refine lv_iconst (v := nI 4) hx hb dL_law_558 (by decide) ?_
          refine n_iadd C dL_law_559 ?_
          refine va_sld C.1.1 C.1.2.1 hX hbl hbA hS (vp_in_nI (show k + 4 < L by omega) (by omega)) dL_law_560 ?_
          refine w_topi (y := xs (k + 4)) (by rw [nI_clamp (by omega)]) ?_
          refine lv_aload_n hx hb dL_law_561 rfl (lv_at hl 0 rfl) ?_
          refine lv_iload_n hx hb dL_law_562 rfl (lv_at hl 3 rfl) ?_
          refine lv_iconst (v := nI 5) hx hb dL_law_563 (by decide) ?_
          refine n_iadd C dL_law_564 ?_
          refine va_sld C.1.1 C.1.2.1 hX hbl hbA hS (vp_in_nI (show k + 5 < L by omega) (by omega)) dL_law_565 ?_
          refine w_topi (y := xs (k + 5)) (by rw [nI_clamp (by omega)]) ?_
          refine k_w (c_V (As := [.int (xs (k + 1)), .int (xs (k + 2)), .int (xs (k + 3)), .int (xs (k + 4)), .int (xs (k + 5))]) (rest := [.int (pairsT τ (xs (k + 1)) (xs (k + 2)) (xs (k + 3)) (xs (k + 4)) (xs (k + 5)))]) C v_L_67 (c5_pairs l g h ad τ hG.1 hD (xs (k + 1)) (xs (k + 2)) (xs (k + 3)) (xs (k + 4)) (xs (k + 5))) ⟨Nat.le_of_ble_eq_true rfl, Nat.le_of_ble_eq_true rfl⟩ (md_recv C hM) (hM) hl.1 rfl rfl (Nat.le_of_ble_eq_true rfl) dL_law_566 ⟨by show nc + 0 ≤ 600000; omega, by show ns + 0 ≤ 7302250; omega⟩) hS (fun q hq => hge q (Or.inr hq)) (fun r566 H1 locs q566 hz566 hk566 hS => ?_)
          obtain ⟨rfl, hM⟩ := q566
          have hB := hB.keep hz566 hk566 (fun q _ hq hq2 => hap q hq hq2) (fun q _ hq => Or.inr hq)
          have hZs : ∀ q, ZZ g bb h ad q → q < H1.size := fun q hq => Nat.lt_of_lt_of_le (hZs q hq) hz566
          refine W.eq (g2 := F0 m 569 ls [.int (pairsT τ (xs (k + 1)) (xs (k + 2)) (xs (k + 3)) (xs (k + 4)) (xs (k + 5))), .int (pairsT τ (xs (k + 1)) (xs (k + 2)) (xs (k + 3)) (xs (k + 4)) (xs (k + 5)))]) rfl ?_
          refine W.cs (cells' := nc) (slots' := ns) rfl rfl ?_
          refine lv_icmp_eq (tgt := 942) hx hb dL_law_569 (by decide) (fun c569 => ?_) (fun c569 => by exfalso; exact c569 rfl)
          refine n_iinc (d := 7) (lv' := [(3, .int (nI (k + 7))), (0, .ref (b)), (1, .ref (bb 0)), (2, .ref (h))]) C dL_law_942 (by decide) hl (k := 3) rfl (by decide) rfl (fun ls hl => ?_)
          refine lv_goto (tgt := 18) hx hb dL_law_945 (by decide) ?_
          exact ih_lp (k + 7) (nc) (ns) (τ) (H1) (locs) ls (by omega) (by omega) (by omega) (by omega) (hG) (hM) (hB) (hZs) (hS) (lv_sub hl [1, 2, 3, 0] rfl)
        by_cases k33_12 : ((xs (k)) &&& (31 : Int32)) = 12
        · skip
          refine n_tabIn (tgt := 574) (off := 541) C (12) (k33_12) dL_law_33 (by decide) (by decide) (by decide) (by decide) ?_
          refine lv_aload_n hx hb dL_law_574 rfl (lv_at hl 1 rfl) ?_
          refine lv_aload_n hx hb dL_law_575 rfl (lv_at hl 0 rfl) ?_
          refine lv_iload_n hx hb dL_law_576 rfl (lv_at hl 3 rfl) ?_
          refine lv_iconst (v := nI 1) hx hb dL_law_577 (by decide) ?_
          refine n_iadd C dL_law_578 ?_
          refine va_sld C.1.1 C.1.2.1 hX hbl hbA hS (vp_in_nI (show k + 1 < L by omega) (by omega)) dL_law_579 ?_
          refine w_topi (y := xs (k + 1)) (by rw [nI_clamp (by omega)]) ?_
          refine lv_aload_n hx hb dL_law_580 rfl (lv_at hl 0 rfl) ?_
          refine lv_iload_n hx hb dL_law_581 rfl (lv_at hl 3 rfl) ?_
          refine lv_iconst (v := nI 2) hx hb dL_law_582 (by decide) ?_
          refine n_iadd C dL_law_583 ?_
          refine va_sld C.1.1 C.1.2.1 hX hbl hbA hS (vp_in_nI (show k + 2 < L by omega) (by omega)) dL_law_584 ?_
          refine w_topi (y := xs (k + 2)) (by rw [nI_clamp (by omega)]) ?_
          refine lv_aload_n hx hb dL_law_585 rfl (lv_at hl 0 rfl) ?_
          refine lv_iload_n hx hb dL_law_586 rfl (lv_at hl 3 rfl) ?_
          refine lv_iconst (v := nI 3) hx hb dL_law_587 (by decide) ?_
          refine n_iadd C dL_law_588 ?_
          refine va_sld C.1.1 C.1.2.1 hX hbl hbA hS (vp_in_nI (show k + 3 < L by omega) (by omega)) dL_law_589 ?_
          refine w_topi (y := xs (k + 3)) (by rw [nI_clamp (by omega)]) ?_
          refine lv_aload_n hx hb dL_law_590 rfl (lv_at hl 0 rfl) ?_
          refine lv_iload_n hx hb dL_law_591 rfl (lv_at hl 3 rfl) ?_
          refine lv_iconst (v := nI 4) hx hb dL_law_592 (by decide) ?_
          refine n_iadd C dL_law_593 ?_
          refine va_sld C.1.1 C.1.2.1 hX hbl hbA hS (vp_in_nI (show k + 4 < L by omega) (by omega)) dL_law_594 ?_
          refine w_topi (y := xs (k + 4)) (by rw [nI_clamp (by omega)]) ?_
          refine lv_aload_n hx hb dL_law_595 rfl (lv_at hl 0 rfl) ?_
          refine lv_iload_n hx hb dL_law_596 rfl (lv_at hl 3 rfl) ?_
          refine lv_iconst (v := nI 5) hx hb dL_law_597 (by decide) ?_
          refine n_iadd C dL_law_598 ?_
          refine va_sld C.1.1 C.1.2.1 hX hbl hbA hS (vp_in_nI (show k + 5 < L by omega) (by omega)) dL_law_599 ?_
          refine w_topi (y := xs (k + 5)) (by rw [nI_clamp (by omega)]) ?_
          refine lv_aload_n hx hb dL_law_600 rfl (lv_at hl 0 rfl) ?_
          refine lv_iload_n hx hb dL_law_601 rfl (lv_at hl 3 rfl) ?_
          refine lv_bipush (v := nI 6) hx hb dL_law_602 (by decide) ?_
          refine n_iadd C dL_law_604 ?_
          refine va_sld C.1.1 C.1.2.1 hX hbl hbA hS (vp_in_nI (show k + 6 < L by omega) (by omega)) dL_law_605 ?_
          refine w_topi (y := xs (k + 6)) (by rw [nI_clamp (by omega)]) ?_
          refine k_i (c_V (As := [.int (xs (k + 1)), .int (xs (k + 2)), .int (xs (k + 3)), .int (xs (k + 4)), .int (xs (k + 5)), .int (xs (k + 6))]) (rest := []) C v_L_68 (c4_pair l g bb (ZZ g bb h ad) τ hG.1 (xs (k + 1)) (xs (k + 2)) (xs (k + 3)) (xs (k + 4)) (xs (k + 5)) (xs (k + 6))) ⟨Nat.le_of_ble_eq_true rfl, Nat.le_of_ble_eq_true rfl⟩ (bk_recv C hB) (hB) hl.1 rfl rfl (Nat.le_of_ble_eq_true rfl) dL_law_606 ⟨by show nc + 0 ≤ 600000; omega, by show ns + 0 ≤ 7302250; omega⟩) (fun r606 q606 => ?_)
          subst q606
          refine lv_aload_n hx hb dL_law_609 rfl (lv_at hl 2 rfl) ?_
          refine lv_aload_n hx hb dL_law_610 rfl (lv_at hl 0 rfl) ?_
          refine lv_iload_n hx hb dL_law_611 rfl (lv_at hl 3 rfl) ?_
          refine lv_iconst (v := nI 1) hx hb dL_law_612 (by decide) ?_
          refine n_iadd C dL_law_613 ?_
          refine va_sld C.1.1 C.1.2.1 hX hbl hbA hS (vp_in_nI (show k + 1 < L by omega) (by omega)) dL_law_614 ?_
          refine w_topi (y := xs (k + 1)) (by rw [nI_clamp (by omega)]) ?_
          refine lv_aload_n hx hb dL_law_615 rfl (lv_at hl 0 rfl) ?_
          refine lv_iload_n hx hb dL_law_616 rfl (lv_at hl 3 rfl) ?_
          refine lv_iconst (v := nI 2) hx hb dL_law_617 (by decide) ?_
          refine n_iadd C dL_law_618 ?_
          refine va_sld C.1.1 C.1.2.1 hX hbl hbA hS (vp_in_nI (show k + 2 < L by omega) (by omega)) dL_law_619 ?_
          refine w_topi (y := xs (k + 2)) (by rw [nI_clamp (by omega)]) ?_
          refine lv_aload_n hx hb dL_law_620 rfl (lv_at hl 0 rfl) ?_
          refine lv_iload_n hx hb dL_law_621 rfl (lv_at hl 3 rfl) ?_
          refine lv_iconst (v := nI 3) hx hb dL_law_622 (by decide) ?_
          refine n_iadd C dL_law_623 ?_
          refine va_sld C.1.1 C.1.2.1 hX hbl hbA hS (vp_in_nI (show k + 3 < L by omega) (by omega)) dL_law_624 ?_
          refine w_topi (y := xs (k + 3)) (by rw [nI_clamp (by omega)]) ?_
          refine lv_aload_n hx hb dL_law_625 rfl (lv_at hl 0 rfl) ?_
          refine lv_iload_n hx hb dL_law_626 rfl (lv_at hl 3 rfl) ?_
          refine lv_iconst (v := nI 4) hx hb dL_law_627 (by decide) ?_
          refine n_iadd C dL_law_628 ?_
          refine va_sld C.1.1 C.1.2.1 hX hbl hbA hS (vp_in_nI (show k + 4 < L by omega) (by omega)) dL_law_629 ?_
          refine w_topi (y := xs (k + 4)) (by rw [nI_clamp (by omega)]) ?_
          refine lv_aload_n hx hb dL_law_630 rfl (lv_at hl 0 rfl) ?_
          refine lv_iload_n hx hb dL_law_631 rfl (lv_at hl 3 rfl) ?_
          refine lv_iconst (v := nI 5) hx hb dL_law_632 (by decide) ?_
          refine n_iadd C dL_law_633 ?_
          refine va_sld C.1.1 C.1.2.1 hX hbl hbA hS (vp_in_nI (show k + 5 < L by omega) (by omega)) dL_law_634 ?_
          refine w_topi (y := xs (k + 5)) (by rw [nI_clamp (by omega)]) ?_
          refine lv_aload_n hx hb dL_law_635 rfl (lv_at hl 0 rfl) ?_
          refine lv_iload_n hx hb dL_law_636 rfl (lv_at hl 3 rfl) ?_
          refine lv_bipush (v := nI 6) hx hb dL_law_637 (by decide) ?_
          refine n_iadd C dL_law_639 ?_
          refine va_sld C.1.1 C.1.2.1 hX hbl hbA hS (vp_in_nI (show k + 6 < L by omega) (by omega)) dL_law_640 ?_
          refine w_topi (y := xs (k + 6)) (by rw [nI_clamp (by omega)]) ?_
          refine k_w (c_V (As := [.int (xs (k + 1)), .int (xs (k + 2)), .int (xs (k + 3)), .int (xs (k + 4)), .int (xs (k + 5)), .int (xs (k + 6))]) (rest := [.int (pairT τ (xs (k + 1)) (xs (k + 2)) (xs (k + 3)) (xs (k + 4)) (xs (k + 5)) (xs (k + 6)))]) C v_L_72 (c5_pair l g h ad τ hG.1 hD (xs (k + 1)) (xs (k + 2)) (xs (k + 3)) (xs (k + 4)) (xs (k + 5)) (xs (k + 6))) ⟨Nat.le_of_ble_eq_true rfl, Nat.le_of_ble_eq_true rfl⟩ (md_recv C hM) (hM) hl.1 rfl rfl (Nat.le_of_ble_eq_true rfl) dL_law_641 ⟨by show nc + 0 ≤ 600000; omega, by show ns + 0 ≤ 7302250; omega⟩) hS (fun q hq => hge q (Or.inr hq)) (fun r641 H1 locs q641 hz641 hk641 hS => ?_)
          obtain ⟨rfl, hM⟩ := q641
          have hB := hB.keep hz641 hk641 (fun q _ hq hq2 => hap q hq hq2) (fun q _ hq => Or.inr hq)
          have hZs : ∀ q, ZZ g bb h ad q → q < H1.size := fun q hq => Nat.lt_of_lt_of_le (hZs q hq) hz641
          refine W.eq (g2 := F0 m 644 ls [.int (pairT τ (xs (k + 1)) (xs (k + 2)) (xs (k + 3)) (xs (k + 4)) (xs (k + 5)) (xs (k + 6))), .int (pairT τ (xs (k + 1)) (xs (k + 2)) (xs (k + 3)) (xs (k + 4)) (xs (k + 5)) (xs (k + 6)))]) rfl ?_
          refine W.cs (cells' := nc) (slots' := ns) rfl rfl ?_
          refine lv_icmp_eq (tgt := 942) hx hb dL_law_644 (by decide) (fun c644 => ?_) (fun c644 => by exfalso; exact c644 rfl)
          refine n_iinc (d := 7) (lv' := [(3, .int (nI (k + 7))), (0, .ref (b)), (1, .ref (bb 0)), (2, .ref (h))]) C dL_law_942 (by decide) hl (k := 3) rfl (by decide) rfl (fun ls hl => ?_)
          refine lv_goto (tgt := 18) hx hb dL_law_945 (by decide) ?_
          exact ih_lp (k + 7) (nc) (ns) (τ) (H1) (locs) ls (by omega) (by omega) (by omega) (by omega) (hG) (hM) (hB) (hZs) (hS) (lv_sub hl [1, 2, 3, 0] rfl)
        by_cases k33_13 : ((xs (k)) &&& (31 : Int32)) = 13
        · skip
          refine n_tabIn (tgt := 649) (off := 616) C (13) (k33_13) dL_law_33 (by decide) (by decide) (by decide) (by decide) ?_
          refine lv_aload_n hx hb dL_law_649 rfl (lv_at hl 1 rfl) ?_
          refine lv_aload_n hx hb dL_law_650 rfl (lv_at hl 0 rfl) ?_
          refine lv_iload_n hx hb dL_law_651 rfl (lv_at hl 3 rfl) ?_
          refine lv_iconst (v := nI 1) hx hb dL_law_652 (by decide) ?_
          refine n_iadd C dL_law_653 ?_
          refine va_sld C.1.1 C.1.2.1 hX hbl hbA hS (vp_in_nI (show k + 1 < L by omega) (by omega)) dL_law_654 ?_
          refine w_topi (y := xs (k + 1)) (by rw [nI_clamp (by omega)]) ?_
          refine lv_aload_n hx hb dL_law_655 rfl (lv_at hl 0 rfl) ?_
          refine lv_iload_n hx hb dL_law_656 rfl (lv_at hl 3 rfl) ?_
          refine lv_iconst (v := nI 2) hx hb dL_law_657 (by decide) ?_
          refine n_iadd C dL_law_658 ?_
          refine va_sld C.1.1 C.1.2.1 hX hbl hbA hS (vp_in_nI (show k + 2 < L by omega) (by omega)) dL_law_659 ?_
          refine w_topi (y := xs (k + 2)) (by rw [nI_clamp (by omega)]) ?_
          refine lv_aload_n hx hb dL_law_660 rfl (lv_at hl 0 rfl) ?_
          refine lv_iload_n hx hb dL_law_661 rfl (lv_at hl 3 rfl) ?_
          refine lv_iconst (v := nI 3) hx hb dL_law_662 (by decide) ?_
          refine n_iadd C dL_law_663 ?_
          refine va_sld C.1.1 C.1.2.1 hX hbl hbA hS (vp_in_nI (show k + 3 < L by omega) (by omega)) dL_law_664 ?_
          refine w_topi (y := xs (k + 3)) (by rw [nI_clamp (by omega)]) ?_
          refine lv_aload_n hx hb dL_law_665 rfl (lv_at hl 0 rfl) ?_
          refine lv_iload_n hx hb dL_law_666 rfl (lv_at hl 3 rfl) ?_
          refine lv_iconst (v := nI 4) hx hb dL_law_667 (by decide) ?_
          refine n_iadd C dL_law_668 ?_
          refine va_sld C.1.1 C.1.2.1 hX hbl hbA hS (vp_in_nI (show k + 4 < L by omega) (by omega)) dL_law_669 ?_
          refine w_topi (y := xs (k + 4)) (by rw [nI_clamp (by omega)]) ?_
          refine lv_aload_n hx hb dL_law_670 rfl (lv_at hl 0 rfl) ?_
          refine lv_iload_n hx hb dL_law_671 rfl (lv_at hl 3 rfl) ?_
          refine lv_iconst (v := nI 5) hx hb dL_law_672 (by decide) ?_
          refine n_iadd C dL_law_673 ?_
          refine va_sld C.1.1 C.1.2.1 hX hbl hbA hS (vp_in_nI (show k + 5 < L by omega) (by omega)) dL_law_674 ?_
          refine w_topi (y := xs (k + 5)) (by rw [nI_clamp (by omega)]) ?_
          refine lv_aload_n hx hb dL_law_675 rfl (lv_at hl 0 rfl) ?_
          refine lv_iload_n hx hb dL_law_676 rfl (lv_at hl 3 rfl) ?_
          refine lv_bipush (v := nI 6) hx hb dL_law_677 (by decide) ?_
          refine n_iadd C dL_law_679 ?_
          refine va_sld C.1.1 C.1.2.1 hX hbl hbA hS (vp_in_nI (show k + 6 < L by omega) (by omega)) dL_law_680 ?_
          refine w_topi (y := xs (k + 6)) (by rw [nI_clamp (by omega)]) ?_
          refine k_i (c_V (As := [.int (xs (k + 1)), .int (xs (k + 2)), .int (xs (k + 3)), .int (xs (k + 4)), .int (xs (k + 5)), .int (xs (k + 6))]) (rest := []) C v_L_73 (c4_sure l g bb (ZZ g bb h ad) τ hG.1 (xs (k + 1)) (xs (k + 2)) (xs (k + 3)) (xs (k + 4)) (xs (k + 5)) (xs (k + 6))) ⟨Nat.le_of_ble_eq_true rfl, Nat.le_of_ble_eq_true rfl⟩ (bk_recv C hB) (hB) hl.1 rfl rfl (Nat.le_of_ble_eq_true rfl) dL_law_681 ⟨by show nc + 0 ≤ 600000; omega, by show ns + 0 ≤ 7302250; omega⟩) (fun r681 q681 => ?_)
          subst q681
          refine lv_aload_n hx hb dL_law_684 rfl (lv_at hl 2 rfl) ?_
          refine lv_aload_n hx hb dL_law_685 rfl (lv_at hl 0 rfl) ?_
          refine lv_iload_n hx hb dL_law_686 rfl (lv_at hl 3 rfl) ?_
          refine lv_iconst (v := nI 1) hx hb dL_law_687 (by decide) ?_
          refine n_iadd C dL_law_688 ?_
          refine va_sld C.1.1 C.1.2.1 hX hbl hbA hS (vp_in_nI (show k + 1 < L by omega) (by omega)) dL_law_689 ?_
          refine w_topi (y := xs (k + 1)) (by rw [nI_clamp (by omega)]) ?_
          refine lv_aload_n hx hb dL_law_690 rfl (lv_at hl 0 rfl) ?_
          refine lv_iload_n hx hb dL_law_691 rfl (lv_at hl 3 rfl) ?_
          refine lv_iconst (v := nI 2) hx hb dL_law_692 (by decide) ?_
          refine n_iadd C dL_law_693 ?_
          refine va_sld C.1.1 C.1.2.1 hX hbl hbA hS (vp_in_nI (show k + 2 < L by omega) (by omega)) dL_law_694 ?_
          refine w_topi (y := xs (k + 2)) (by rw [nI_clamp (by omega)]) ?_
          refine lv_aload_n hx hb dL_law_695 rfl (lv_at hl 0 rfl) ?_
          refine lv_iload_n hx hb dL_law_696 rfl (lv_at hl 3 rfl) ?_
          refine lv_iconst (v := nI 3) hx hb dL_law_697 (by decide) ?_
          refine n_iadd C dL_law_698 ?_
          refine va_sld C.1.1 C.1.2.1 hX hbl hbA hS (vp_in_nI (show k + 3 < L by omega) (by omega)) dL_law_699 ?_
          refine w_topi (y := xs (k + 3)) (by rw [nI_clamp (by omega)]) ?_
          refine lv_aload_n hx hb dL_law_700 rfl (lv_at hl 0 rfl) ?_
          refine lv_iload_n hx hb dL_law_701 rfl (lv_at hl 3 rfl) ?_
          refine lv_iconst (v := nI 4) hx hb dL_law_702 (by decide) ?_
          refine n_iadd C dL_law_703 ?_
          refine va_sld C.1.1 C.1.2.1 hX hbl hbA hS (vp_in_nI (show k + 4 < L by omega) (by omega)) dL_law_704 ?_
          refine w_topi (y := xs (k + 4)) (by rw [nI_clamp (by omega)]) ?_
          refine lv_aload_n hx hb dL_law_705 rfl (lv_at hl 0 rfl) ?_
          refine lv_iload_n hx hb dL_law_706 rfl (lv_at hl 3 rfl) ?_
          refine lv_iconst (v := nI 5) hx hb dL_law_707 (by decide) ?_
          refine n_iadd C dL_law_708 ?_
          refine va_sld C.1.1 C.1.2.1 hX hbl hbA hS (vp_in_nI (show k + 5 < L by omega) (by omega)) dL_law_709 ?_
          refine w_topi (y := xs (k + 5)) (by rw [nI_clamp (by omega)]) ?_
          refine lv_aload_n hx hb dL_law_710 rfl (lv_at hl 0 rfl) ?_
          refine lv_iload_n hx hb dL_law_711 rfl (lv_at hl 3 rfl) ?_
          refine lv_bipush (v := nI 6) hx hb dL_law_712 (by decide) ?_
          refine n_iadd C dL_law_714 ?_
          refine va_sld C.1.1 C.1.2.1 hX hbl hbA hS (vp_in_nI (show k + 6 < L by omega) (by omega)) dL_law_715 ?_
          refine w_topi (y := xs (k + 6)) (by rw [nI_clamp (by omega)]) ?_
          refine k_w (c_V (As := [.int (xs (k + 1)), .int (xs (k + 2)), .int (xs (k + 3)), .int (xs (k + 4)), .int (xs (k + 5)), .int (xs (k + 6))]) (rest := [.int (sureT τ (xs (k + 1)) (xs (k + 2)) (xs (k + 3)) (xs (k + 4)) (xs (k + 5)) (xs (k + 6)))]) C v_L_76 (c5_sure l g h ad τ hG.1 hD (xs (k + 1)) (xs (k + 2)) (xs (k + 3)) (xs (k + 4)) (xs (k + 5)) (xs (k + 6))) ⟨Nat.le_of_ble_eq_true rfl, Nat.le_of_ble_eq_true rfl⟩ (md_recv C hM) (hM) hl.1 rfl rfl (Nat.le_of_ble_eq_true rfl) dL_law_716 ⟨by show nc + 0 ≤ 600000; omega, by show ns + 0 ≤ 7302250; omega⟩) hS (fun q hq => hge q (Or.inr hq)) (fun r716 H1 locs q716 hz716 hk716 hS => ?_)
          obtain ⟨rfl, hM⟩ := q716
          have hB := hB.keep hz716 hk716 (fun q _ hq hq2 => hap q hq hq2) (fun q _ hq => Or.inr hq)
          have hZs : ∀ q, ZZ g bb h ad q → q < H1.size := fun q hq => Nat.lt_of_lt_of_le (hZs q hq) hz716
          refine W.eq (g2 := F0 m 719 ls [.int (sureT τ (xs (k + 1)) (xs (k + 2)) (xs (k + 3)) (xs (k + 4)) (xs (k + 5)) (xs (k + 6))), .int (sureT τ (xs (k + 1)) (xs (k + 2)) (xs (k + 3)) (xs (k + 4)) (xs (k + 5)) (xs (k + 6)))]) rfl ?_
          refine W.cs (cells' := nc) (slots' := ns) rfl rfl ?_
          refine lv_icmp_eq (tgt := 942) hx hb dL_law_719 (by decide) (fun c719 => ?_) (fun c719 => by exfalso; exact c719 rfl)
          refine n_iinc (d := 7) (lv' := [(3, .int (nI (k + 7))), (0, .ref (b)), (1, .ref (bb 0)), (2, .ref (h))]) C dL_law_942 (by decide) hl (k := 3) rfl (by decide) rfl (fun ls hl => ?_)
          refine lv_goto (tgt := 18) hx hb dL_law_945 (by decide) ?_
          exact ih_lp (k + 7) (nc) (ns) (τ) (H1) (locs) ls (by omega) (by omega) (by omega) (by omega) (hG) (hM) (hB) (hZs) (hS) (lv_sub hl [1, 2, 3, 0] rfl)
        by_cases k33_14 : ((xs (k)) &&& (31 : Int32)) = 14
        · skip
          refine n_tabIn (tgt := 724) (off := 691) C (14) (k33_14) dL_law_33 (by decide) (by decide) (by decide) (by decide) ?_
          refine lv_aload_n hx hb dL_law_724 rfl (lv_at hl 1 rfl) ?_
          refine lv_aload_n hx hb dL_law_725 rfl (lv_at hl 0 rfl) ?_
          refine lv_iload_n hx hb dL_law_726 rfl (lv_at hl 3 rfl) ?_
          refine lv_iconst (v := nI 1) hx hb dL_law_727 (by decide) ?_
          refine n_iadd C dL_law_728 ?_
          refine va_sld C.1.1 C.1.2.1 hX hbl hbA hS (vp_in_nI (show k + 1 < L by omega) (by omega)) dL_law_729 ?_
          refine w_topi (y := xs (k + 1)) (by rw [nI_clamp (by omega)]) ?_
          refine lv_aload_n hx hb dL_law_730 rfl (lv_at hl 0 rfl) ?_
          refine lv_iload_n hx hb dL_law_731 rfl (lv_at hl 3 rfl) ?_
          refine lv_iconst (v := nI 2) hx hb dL_law_732 (by decide) ?_
          refine n_iadd C dL_law_733 ?_
          refine va_sld C.1.1 C.1.2.1 hX hbl hbA hS (vp_in_nI (show k + 2 < L by omega) (by omega)) dL_law_734 ?_
          refine w_topi (y := xs (k + 2)) (by rw [nI_clamp (by omega)]) ?_
          refine lv_aload_n hx hb dL_law_735 rfl (lv_at hl 0 rfl) ?_
          refine lv_iload_n hx hb dL_law_736 rfl (lv_at hl 3 rfl) ?_
          refine lv_iconst (v := nI 3) hx hb dL_law_737 (by decide) ?_
          refine n_iadd C dL_law_738 ?_
          refine va_sld C.1.1 C.1.2.1 hX hbl hbA hS (vp_in_nI (show k + 3 < L by omega) (by omega)) dL_law_739 ?_
          refine w_topi (y := xs (k + 3)) (by rw [nI_clamp (by omega)]) ?_
          refine k_i (c_V (As := [.int (xs (k + 1)), .int (xs (k + 2)), .int (xs (k + 3))]) (rest := []) C v_L_77 (c4_best l g bb (ZZ g bb h ad) τ hG.1 (xs (k + 1)) (xs (k + 2)) (xs (k + 3))) ⟨Nat.le_of_ble_eq_true rfl, Nat.le_of_ble_eq_true rfl⟩ (bk_recv C hB) (hB) hl.1 rfl rfl (Nat.le_of_ble_eq_true rfl) dL_law_740 ⟨by show nc + 0 ≤ 600000; omega, by show ns + 0 ≤ 7302250; omega⟩) (fun r740 q740 => ?_)
          subst q740
          refine lv_aload_n hx hb dL_law_743 rfl (lv_at hl 2 rfl) ?_
          refine lv_aload_n hx hb dL_law_744 rfl (lv_at hl 0 rfl) ?_
          refine lv_iload_n hx hb dL_law_745 rfl (lv_at hl 3 rfl) ?_
          refine lv_iconst (v := nI 1) hx hb dL_law_746 (by decide) ?_
          refine n_iadd C dL_law_747 ?_
          refine va_sld C.1.1 C.1.2.1 hX hbl hbA hS (vp_in_nI (show k + 1 < L by omega) (by omega)) dL_law_748 ?_
          refine w_topi (y := xs (k + 1)) (by rw [nI_clamp (by omega)]) ?_
          refine lv_aload_n hx hb dL_law_749 rfl (lv_at hl 0 rfl) ?_
          refine lv_iload_n hx hb dL_law_750 rfl (lv_at hl 3 rfl) ?_
          refine lv_iconst (v := nI 2) hx hb dL_law_751 (by decide) ?_
          refine n_iadd C dL_law_752 ?_
          refine va_sld C.1.1 C.1.2.1 hX hbl hbA hS (vp_in_nI (show k + 2 < L by omega) (by omega)) dL_law_753 ?_
          refine w_topi (y := xs (k + 2)) (by rw [nI_clamp (by omega)]) ?_
          refine lv_aload_n hx hb dL_law_754 rfl (lv_at hl 0 rfl) ?_
          refine lv_iload_n hx hb dL_law_755 rfl (lv_at hl 3 rfl) ?_
          refine lv_iconst (v := nI 3) hx hb dL_law_756 (by decide) ?_
          refine n_iadd C dL_law_757 ?_
          refine va_sld C.1.1 C.1.2.1 hX hbl hbA hS (vp_in_nI (show k + 3 < L by omega) (by omega)) dL_law_758 ?_
          refine w_topi (y := xs (k + 3)) (by rw [nI_clamp (by omega)]) ?_
          refine k_w (c_V (As := [.int (xs (k + 1)), .int (xs (k + 2)), .int (xs (k + 3))]) (rest := [.int (bestT τ (xs (k + 1)) (xs (k + 2)) (xs (k + 3)))]) C v_L_81 (c5_best l g h ad τ hG.1 hD (xs (k + 1)) (xs (k + 2)) (xs (k + 3))) ⟨Nat.le_of_ble_eq_true rfl, Nat.le_of_ble_eq_true rfl⟩ (md_recv C hM) (hM) hl.1 rfl rfl (Nat.le_of_ble_eq_true rfl) dL_law_759 ⟨by show nc + 0 ≤ 600000; omega, by show ns + 0 ≤ 7302250; omega⟩) hS (fun q hq => hge q (Or.inr hq)) (fun r759 H1 locs q759 hz759 hk759 hS => ?_)
          obtain ⟨rfl, hM⟩ := q759
          have hB := hB.keep hz759 hk759 (fun q _ hq hq2 => hap q hq hq2) (fun q _ hq => Or.inr hq)
          have hZs : ∀ q, ZZ g bb h ad q → q < H1.size := fun q hq => Nat.lt_of_lt_of_le (hZs q hq) hz759
          refine W.eq (g2 := F0 m 762 ls [.int (bestT τ (xs (k + 1)) (xs (k + 2)) (xs (k + 3))), .int (bestT τ (xs (k + 1)) (xs (k + 2)) (xs (k + 3)))]) rfl ?_
          refine W.cs (cells' := nc) (slots' := ns) rfl rfl ?_
          refine lv_icmp_eq (tgt := 942) hx hb dL_law_762 (by decide) (fun c762 => ?_) (fun c762 => by exfalso; exact c762 rfl)
          refine n_iinc (d := 7) (lv' := [(3, .int (nI (k + 7))), (0, .ref (b)), (1, .ref (bb 0)), (2, .ref (h))]) C dL_law_942 (by decide) hl (k := 3) rfl (by decide) rfl (fun ls hl => ?_)
          refine lv_goto (tgt := 18) hx hb dL_law_945 (by decide) ?_
          exact ih_lp (k + 7) (nc) (ns) (τ) (H1) (locs) ls (by omega) (by omega) (by omega) (by omega) (hG) (hM) (hB) (hZs) (hS) (lv_sub hl [1, 2, 3, 0] rfl)
        by_cases k33_15 : ((xs (k)) &&& (31 : Int32)) = 15
        · skip
          refine n_tabIn (tgt := 767) (off := 734) C (15) (k33_15) dL_law_33 (by decide) (by decide) (by decide) (by decide) ?_
          refine lv_aload_n hx hb dL_law_767 rfl (lv_at hl 1 rfl) ?_
          refine lv_aload_n hx hb dL_law_768 rfl (lv_at hl 0 rfl) ?_
          refine lv_iload_n hx hb dL_law_769 rfl (lv_at hl 3 rfl) ?_
          refine lv_iconst (v := nI 1) hx hb dL_law_770 (by decide) ?_
          refine n_iadd C dL_law_771 ?_
          refine va_sld C.1.1 C.1.2.1 hX hbl hbA hS (vp_in_nI (show k + 1 < L by omega) (by omega)) dL_law_772 ?_
          refine w_topi (y := xs (k + 1)) (by rw [nI_clamp (by omega)]) ?_
          refine lv_aload_n hx hb dL_law_773 rfl (lv_at hl 0 rfl) ?_
          refine lv_iload_n hx hb dL_law_774 rfl (lv_at hl 3 rfl) ?_
          refine lv_iconst (v := nI 2) hx hb dL_law_775 (by decide) ?_
          refine n_iadd C dL_law_776 ?_
          refine va_sld C.1.1 C.1.2.1 hX hbl hbA hS (vp_in_nI (show k + 2 < L by omega) (by omega)) dL_law_777 ?_
          refine w_topi (y := xs (k + 2)) (by rw [nI_clamp (by omega)]) ?_
          refine lv_aload_n hx hb dL_law_778 rfl (lv_at hl 0 rfl) ?_
          refine lv_iload_n hx hb dL_law_779 rfl (lv_at hl 3 rfl) ?_
          refine lv_iconst (v := nI 3) hx hb dL_law_780 (by decide) ?_
          refine n_iadd C dL_law_781 ?_
          refine va_sld C.1.1 C.1.2.1 hX hbl hbA hS (vp_in_nI (show k + 3 < L by omega) (by omega)) dL_law_782 ?_
          refine w_topi (y := xs (k + 3)) (by rw [nI_clamp (by omega)]) ?_
          refine k_w (c_V (As := [.int (xs (k + 1)), .int (xs (k + 2)), .int (xs (k + 3))]) (rest := []) C v_L_82 (c4_holes l g bb (ZZ g bb h ad) τ hG.1 hbi (fun q hq => Or.inl hq) (xs (k + 1)) (xs (k + 2)) (xs (k + 3))) ⟨Nat.le_of_ble_eq_true rfl, Nat.le_of_ble_eq_true rfl⟩ (bk_recv C hB) (hB) hl.1 rfl rfl (Nat.le_of_ble_eq_true rfl) dL_law_783 ⟨by show nc + 0 ≤ 600000; omega, by show ns + 0 ≤ 7302250; omega⟩) hS (fun q hq => hge q (Or.inl hq)) (fun r783 H1 locs q783 hz783 hk783 hS => ?_)
          obtain ⟨rfl, hB⟩ := q783
          have hM := hM.keep hk783 (fun q hq hq2 => hap q hq2 hq)
          have hZs : ∀ q, ZZ g bb h ad q → q < H1.size := fun q hq => Nat.lt_of_lt_of_le (hZs q hq) hz783
          refine W.eq (g2 := F0 m 786 ls [.int (holesT τ (xs (k + 1)) (xs (k + 2)) (xs (k + 3)))]) rfl ?_
          refine lv_aload_n hx hb dL_law_786 rfl (lv_at hl 2 rfl) ?_
          refine lv_aload_n hx hb dL_law_787 rfl (lv_at hl 0 rfl) ?_
          refine lv_iload_n hx hb dL_law_788 rfl (lv_at hl 3 rfl) ?_
          refine lv_iconst (v := nI 1) hx hb dL_law_789 (by decide) ?_
          refine n_iadd C dL_law_790 ?_
          refine va_sld C.1.1 C.1.2.1 hX hbl hbA hS (vp_in_nI (show k + 1 < L by omega) (by omega)) dL_law_791 ?_
          refine w_topi (y := xs (k + 1)) (by rw [nI_clamp (by omega)]) ?_
          refine lv_aload_n hx hb dL_law_792 rfl (lv_at hl 0 rfl) ?_
          refine lv_iload_n hx hb dL_law_793 rfl (lv_at hl 3 rfl) ?_
          refine lv_iconst (v := nI 2) hx hb dL_law_794 (by decide) ?_
          refine n_iadd C dL_law_795 ?_
          refine va_sld C.1.1 C.1.2.1 hX hbl hbA hS (vp_in_nI (show k + 2 < L by omega) (by omega)) dL_law_796 ?_
          refine w_topi (y := xs (k + 2)) (by rw [nI_clamp (by omega)]) ?_
          refine lv_aload_n hx hb dL_law_797 rfl (lv_at hl 0 rfl) ?_
          refine lv_iload_n hx hb dL_law_798 rfl (lv_at hl 3 rfl) ?_
          refine lv_iconst (v := nI 3) hx hb dL_law_799 (by decide) ?_
          refine n_iadd C dL_law_800 ?_
          refine va_sld C.1.1 C.1.2.1 hX hbl hbA hS (vp_in_nI (show k + 3 < L by omega) (by omega)) dL_law_801 ?_
          refine w_topi (y := xs (k + 3)) (by rw [nI_clamp (by omega)]) ?_
          refine k_w (c_V (As := [.int (xs (k + 1)), .int (xs (k + 2)), .int (xs (k + 3))]) (rest := [.int (holesT τ (xs (k + 1)) (xs (k + 2)) (xs (k + 3)))]) C v_L_85 (c5_holes l g h ad τ hG.1 hD (xs (k + 1)) (xs (k + 2)) (xs (k + 3))) ⟨Nat.le_of_ble_eq_true rfl, Nat.le_of_ble_eq_true rfl⟩ (md_recv C hM) (hM) hl.1 rfl rfl (Nat.le_of_ble_eq_true rfl) dL_law_802 ⟨by show nc + 0 ≤ 600000; omega, by show ns + 0 ≤ 7302250; omega⟩) hS (fun q hq => hge q (Or.inr hq)) (fun r802 H1 locs q802 hz802 hk802 hS => ?_)
          obtain ⟨rfl, hM⟩ := q802
          have hB := hB.keep hz802 hk802 (fun q _ hq hq2 => hap q hq hq2) (fun q _ hq => Or.inr hq)
          have hZs : ∀ q, ZZ g bb h ad q → q < H1.size := fun q hq => Nat.lt_of_lt_of_le (hZs q hq) hz802
          refine W.eq (g2 := F0 m 805 ls [.int (holesT τ (xs (k + 1)) (xs (k + 2)) (xs (k + 3))), .int (holesT τ (xs (k + 1)) (xs (k + 2)) (xs (k + 3)))]) rfl ?_
          refine W.cs (cells' := nc) (slots' := ns) rfl rfl ?_
          refine lv_icmp_eq (tgt := 942) hx hb dL_law_805 (by decide) (fun c805 => ?_) (fun c805 => by exfalso; exact c805 rfl)
          refine n_iinc (d := 7) (lv' := [(3, .int (nI (k + 7))), (0, .ref (b)), (1, .ref (bb 0)), (2, .ref (h))]) C dL_law_942 (by decide) hl (k := 3) rfl (by decide) rfl (fun ls hl => ?_)
          refine lv_goto (tgt := 18) hx hb dL_law_945 (by decide) ?_
          exact ih_lp (k + 7) (nc) (ns) (τ) (H1) (locs) ls (by omega) (by omega) (by omega) (by omega) (hG) (hM) (hB) (hZs) (hS) (lv_sub hl [1, 2, 3, 0] rfl)
        by_cases k33_16 : ((xs (k)) &&& (31 : Int32)) = 16
        · skip
          refine n_tabIn (tgt := 810) (off := 777) C (16) (k33_16) dL_law_33 (by decide) (by decide) (by decide) (by decide) ?_
          refine lv_aload_n hx hb dL_law_810 rfl (lv_at hl 1 rfl) ?_
          refine lv_aload_n hx hb dL_law_811 rfl (lv_at hl 0 rfl) ?_
          refine lv_iload_n hx hb dL_law_812 rfl (lv_at hl 3 rfl) ?_
          refine lv_iconst (v := nI 1) hx hb dL_law_813 (by decide) ?_
          refine n_iadd C dL_law_814 ?_
          refine va_sld C.1.1 C.1.2.1 hX hbl hbA hS (vp_in_nI (show k + 1 < L by omega) (by omega)) dL_law_815 ?_
          refine w_topi (y := xs (k + 1)) (by rw [nI_clamp (by omega)]) ?_
          refine lv_aload_n hx hb dL_law_816 rfl (lv_at hl 0 rfl) ?_
          refine lv_iload_n hx hb dL_law_817 rfl (lv_at hl 3 rfl) ?_
          refine lv_iconst (v := nI 2) hx hb dL_law_818 (by decide) ?_
          refine n_iadd C dL_law_819 ?_
          refine va_sld C.1.1 C.1.2.1 hX hbl hbA hS (vp_in_nI (show k + 2 < L by omega) (by omega)) dL_law_820 ?_
          refine w_topi (y := xs (k + 2)) (by rw [nI_clamp (by omega)]) ?_
          refine lv_aload_n hx hb dL_law_821 rfl (lv_at hl 0 rfl) ?_
          refine lv_iload_n hx hb dL_law_822 rfl (lv_at hl 3 rfl) ?_
          refine lv_iconst (v := nI 3) hx hb dL_law_823 (by decide) ?_
          refine n_iadd C dL_law_824 ?_
          refine va_sld C.1.1 C.1.2.1 hX hbl hbA hS (vp_in_nI (show k + 3 < L by omega) (by omega)) dL_law_825 ?_
          refine w_topi (y := xs (k + 3)) (by rw [nI_clamp (by omega)]) ?_
          refine lv_aload_n hx hb dL_law_826 rfl (lv_at hl 0 rfl) ?_
          refine lv_iload_n hx hb dL_law_827 rfl (lv_at hl 3 rfl) ?_
          refine lv_iconst (v := nI 4) hx hb dL_law_828 (by decide) ?_
          refine n_iadd C dL_law_829 ?_
          refine va_sld C.1.1 C.1.2.1 hX hbl hbA hS (vp_in_nI (show k + 4 < L by omega) (by omega)) dL_law_830 ?_
          refine w_topi (y := xs (k + 4)) (by rw [nI_clamp (by omega)]) ?_
          refine lv_aload_n hx hb dL_law_831 rfl (lv_at hl 0 rfl) ?_
          refine lv_iload_n hx hb dL_law_832 rfl (lv_at hl 3 rfl) ?_
          refine lv_iconst (v := nI 5) hx hb dL_law_833 (by decide) ?_
          refine n_iadd C dL_law_834 ?_
          refine va_sld C.1.1 C.1.2.1 hX hbl hbA hS (vp_in_nI (show k + 5 < L by omega) (by omega)) dL_law_835 ?_
          refine w_topi (y := xs (k + 5)) (by rw [nI_clamp (by omega)]) ?_
          refine k_w (c_V (As := [.int (xs (k + 1)), .int (xs (k + 2)), .int (xs (k + 3)), .int (xs (k + 4)), .int (xs (k + 5))]) (rest := []) C v_L_86 (c4_hole l g bb (ZZ g bb h ad) τ hG.1 hbi (fun q hq => Or.inl hq) (xs (k + 1)) (xs (k + 2)) (xs (k + 3)) (xs (k + 4)) (xs (k + 5))) ⟨Nat.le_of_ble_eq_true rfl, Nat.le_of_ble_eq_true rfl⟩ (bk_recv C hB) (hB) hl.1 rfl rfl (Nat.le_of_ble_eq_true rfl) dL_law_836 ⟨by show nc + 0 ≤ 600000; omega, by show ns + 0 ≤ 7302250; omega⟩) hS (fun q hq => hge q (Or.inl hq)) (fun r836 H1 locs q836 hz836 hk836 hS => ?_)
          obtain ⟨rfl, hB⟩ := q836
          have hM := hM.keep hk836 (fun q hq hq2 => hap q hq2 hq)
          have hZs : ∀ q, ZZ g bb h ad q → q < H1.size := fun q hq => Nat.lt_of_lt_of_le (hZs q hq) hz836
          refine W.eq (g2 := F0 m 839 ls [.int (holeT τ (xs (k + 1)) (xs (k + 2)) (xs (k + 3)) (xs (k + 4)) (xs (k + 5)))]) rfl ?_
          refine lv_aload_n hx hb dL_law_839 rfl (lv_at hl 2 rfl) ?_
          refine lv_aload_n hx hb dL_law_840 rfl (lv_at hl 0 rfl) ?_
          refine lv_iload_n hx hb dL_law_841 rfl (lv_at hl 3 rfl) ?_
          refine lv_iconst (v := nI 1) hx hb dL_law_842 (by decide) ?_
          refine n_iadd C dL_law_843 ?_
          refine va_sld C.1.1 C.1.2.1 hX hbl hbA hS (vp_in_nI (show k + 1 < L by omega) (by omega)) dL_law_844 ?_
          refine w_topi (y := xs (k + 1)) (by rw [nI_clamp (by omega)]) ?_
          refine lv_aload_n hx hb dL_law_845 rfl (lv_at hl 0 rfl) ?_
          refine lv_iload_n hx hb dL_law_846 rfl (lv_at hl 3 rfl) ?_
          refine lv_iconst (v := nI 2) hx hb dL_law_847 (by decide) ?_
          refine n_iadd C dL_law_848 ?_
          refine va_sld C.1.1 C.1.2.1 hX hbl hbA hS (vp_in_nI (show k + 2 < L by omega) (by omega)) dL_law_849 ?_
          refine w_topi (y := xs (k + 2)) (by rw [nI_clamp (by omega)]) ?_
          refine lv_aload_n hx hb dL_law_850 rfl (lv_at hl 0 rfl) ?_
          refine lv_iload_n hx hb dL_law_851 rfl (lv_at hl 3 rfl) ?_
          refine lv_iconst (v := nI 3) hx hb dL_law_852 (by decide) ?_
          refine n_iadd C dL_law_853 ?_
          refine va_sld C.1.1 C.1.2.1 hX hbl hbA hS (vp_in_nI (show k + 3 < L by omega) (by omega)) dL_law_854 ?_
          refine w_topi (y := xs (k + 3)) (by rw [nI_clamp (by omega)]) ?_
          refine lv_aload_n hx hb dL_law_855 rfl (lv_at hl 0 rfl) ?_
          refine lv_iload_n hx hb dL_law_856 rfl (lv_at hl 3 rfl) ?_
          refine lv_iconst (v := nI 4) hx hb dL_law_857 (by decide) ?_
          refine n_iadd C dL_law_858 ?_
          refine va_sld C.1.1 C.1.2.1 hX hbl hbA hS (vp_in_nI (show k + 4 < L by omega) (by omega)) dL_law_859 ?_
          refine w_topi (y := xs (k + 4)) (by rw [nI_clamp (by omega)]) ?_
          refine lv_aload_n hx hb dL_law_860 rfl (lv_at hl 0 rfl) ?_
          refine lv_iload_n hx hb dL_law_861 rfl (lv_at hl 3 rfl) ?_
          refine lv_iconst (v := nI 5) hx hb dL_law_862 (by decide) ?_
          refine n_iadd C dL_law_863 ?_
          refine va_sld C.1.1 C.1.2.1 hX hbl hbA hS (vp_in_nI (show k + 5 < L by omega) (by omega)) dL_law_864 ?_
          refine w_topi (y := xs (k + 5)) (by rw [nI_clamp (by omega)]) ?_
          refine k_w (c_V (As := [.int (xs (k + 1)), .int (xs (k + 2)), .int (xs (k + 3)), .int (xs (k + 4)), .int (xs (k + 5))]) (rest := [.int (holeT τ (xs (k + 1)) (xs (k + 2)) (xs (k + 3)) (xs (k + 4)) (xs (k + 5)))]) C v_L_89 (c5_hole l g h ad τ hG.1 hD (xs (k + 1)) (xs (k + 2)) (xs (k + 3)) (xs (k + 4)) (xs (k + 5))) ⟨Nat.le_of_ble_eq_true rfl, Nat.le_of_ble_eq_true rfl⟩ (md_recv C hM) (hM) hl.1 rfl rfl (Nat.le_of_ble_eq_true rfl) dL_law_865 ⟨by show nc + 0 ≤ 600000; omega, by show ns + 0 ≤ 7302250; omega⟩) hS (fun q hq => hge q (Or.inr hq)) (fun r865 H1 locs q865 hz865 hk865 hS => ?_)
          obtain ⟨rfl, hM⟩ := q865
          have hB := hB.keep hz865 hk865 (fun q _ hq hq2 => hap q hq hq2) (fun q _ hq => Or.inr hq)
          have hZs : ∀ q, ZZ g bb h ad q → q < H1.size := fun q hq => Nat.lt_of_lt_of_le (hZs q hq) hz865
          refine W.eq (g2 := F0 m 868 ls [.int (holeT τ (xs (k + 1)) (xs (k + 2)) (xs (k + 3)) (xs (k + 4)) (xs (k + 5))), .int (holeT τ (xs (k + 1)) (xs (k + 2)) (xs (k + 3)) (xs (k + 4)) (xs (k + 5)))]) rfl ?_
          refine W.cs (cells' := nc) (slots' := ns) rfl rfl ?_
          refine lv_icmp_eq (tgt := 942) hx hb dL_law_868 (by decide) (fun c868 => ?_) (fun c868 => by exfalso; exact c868 rfl)
          refine n_iinc (d := 7) (lv' := [(3, .int (nI (k + 7))), (0, .ref (b)), (1, .ref (bb 0)), (2, .ref (h))]) C dL_law_942 (by decide) hl (k := 3) rfl (by decide) rfl (fun ls hl => ?_)
          refine lv_goto (tgt := 18) hx hb dL_law_945 (by decide) ?_
          exact ih_lp (k + 7) (nc) (ns) (τ) (H1) (locs) ls (by omega) (by omega) (by omega) (by omega) (hG) (hM) (hB) (hZs) (hS) (lv_sub hl [1, 2, 3, 0] rfl)
        by_cases k33_17 : ((xs (k)) &&& (31 : Int32)) = 17
        · skip
          refine n_tabIn (tgt := 873) (off := 840) C (17) (k33_17) dL_law_33 (by decide) (by decide) (by decide) (by decide) ?_
          refine lv_aload_n hx hb dL_law_873 rfl (lv_at hl 1 rfl) ?_
          refine k_i (c_V (As := []) (rest := []) C v_L_90 (c4_idle l g bb (ZZ g bb h ad) τ hG.1 ) ⟨Nat.le_of_ble_eq_true rfl, Nat.le_of_ble_eq_true rfl⟩ (bk_recv C hB) (hB) hl.1 rfl rfl (Nat.le_of_ble_eq_true rfl) dL_law_874 ⟨by show nc + 0 ≤ 600000; omega, by show ns + 0 ≤ 7302250; omega⟩) (fun r874 q874 => ?_)
          subst q874
          refine lv_aload_n hx hb dL_law_877 rfl (lv_at hl 2 rfl) ?_
          refine k_w (c_V (As := []) (rest := [.int (idleM τ (tN τ))]) C v_L_93 (c5_idle l g h ad τ hG.1 hD ) ⟨Nat.le_of_ble_eq_true rfl, Nat.le_of_ble_eq_true rfl⟩ (md_recv C hM) (hM) hl.1 rfl rfl (Nat.le_of_ble_eq_true rfl) dL_law_878 ⟨by show nc + 0 ≤ 600000; omega, by show ns + 0 ≤ 7302250; omega⟩) hS (fun q hq => hge q (Or.inr hq)) (fun r878 H1 locs q878 hz878 hk878 hS => ?_)
          obtain ⟨rfl, hM⟩ := q878
          have hB := hB.keep hz878 hk878 (fun q _ hq hq2 => hap q hq hq2) (fun q _ hq => Or.inr hq)
          have hZs : ∀ q, ZZ g bb h ad q → q < H1.size := fun q hq => Nat.lt_of_lt_of_le (hZs q hq) hz878
          refine W.eq (g2 := F0 m 881 ls [.int (idleM τ (tN τ)), .int (idleM τ (tN τ))]) rfl ?_
          refine W.cs (cells' := nc) (slots' := ns) rfl rfl ?_
          refine lv_icmp_eq (tgt := 942) hx hb dL_law_881 (by decide) (fun c881 => ?_) (fun c881 => by exfalso; exact c881 rfl)
          refine n_iinc (d := 7) (lv' := [(3, .int (nI (k + 7))), (0, .ref (b)), (1, .ref (bb 0)), (2, .ref (h))]) C dL_law_942 (by decide) hl (k := 3) rfl (by decide) rfl (fun ls hl => ?_)
          refine lv_goto (tgt := 18) hx hb dL_law_945 (by decide) ?_
          exact ih_lp (k + 7) (nc) (ns) (τ) (H1) (locs) ls (by omega) (by omega) (by omega) (by omega) (hG) (hM) (hB) (hZs) (hS) (lv_sub hl [1, 2, 3, 0] rfl)
        by_cases k33_18 : ((xs (k)) &&& (31 : Int32)) = 18
        · skip
          refine n_tabIn (tgt := 886) (off := 853) C (18) (k33_18) dL_law_33 (by decide) (by decide) (by decide) (by decide) ?_
          refine lv_aload_n hx hb dL_law_886 rfl (lv_at hl 1 rfl) ?_
          refine lv_aload_n hx hb dL_law_887 rfl (lv_at hl 0 rfl) ?_
          refine lv_iload_n hx hb dL_law_888 rfl (lv_at hl 3 rfl) ?_
          refine lv_iconst (v := nI 1) hx hb dL_law_889 (by decide) ?_
          refine n_iadd C dL_law_890 ?_
          refine va_sld C.1.1 C.1.2.1 hX hbl hbA hS (vp_in_nI (show k + 1 < L by omega) (by omega)) dL_law_891 ?_
          refine w_topi (y := xs (k + 1)) (by rw [nI_clamp (by omega)]) ?_
          refine k_w (c_V (As := [.int (xs (k + 1))]) (rest := []) C v_L_94 (c4_claim l g bb (ZZ g bb h ad) τ hG.1 hbi (fun q hq => Or.inl hq) (xs (k + 1))) ⟨Nat.le_of_ble_eq_true rfl, Nat.le_of_ble_eq_true rfl⟩ (bk_recv C hB) (hB) hl.1 rfl rfl (Nat.le_of_ble_eq_true rfl) dL_law_892 ⟨by show nc + 0 ≤ 600000; omega, by show ns + 0 ≤ 7302250; omega⟩) hS (fun q hq => hge q (Or.inl hq)) (fun r892 H1 locs q892 hz892 hk892 hS => ?_)
          obtain ⟨rfl, hB⟩ := q892
          have hM := hM.keep hk892 (fun q hq hq2 => hap q hq2 hq)
          have hZs : ∀ q, ZZ g bb h ad q → q < H1.size := fun q hq => Nat.lt_of_lt_of_le (hZs q hq) hz892
          refine W.eq (g2 := F0 m 895 ls [.int (clmA τ (xs (k + 1)))]) rfl ?_
          refine lv_aload_n hx hb dL_law_895 rfl (lv_at hl 2 rfl) ?_
          refine lv_aload_n hx hb dL_law_896 rfl (lv_at hl 0 rfl) ?_
          refine lv_iload_n hx hb dL_law_897 rfl (lv_at hl 3 rfl) ?_
          refine lv_iconst (v := nI 1) hx hb dL_law_898 (by decide) ?_
          refine n_iadd C dL_law_899 ?_
          refine va_sld C.1.1 C.1.2.1 hX hbl hbA hS (vp_in_nI (show k + 1 < L by omega) (by omega)) dL_law_900 ?_
          refine w_topi (y := xs (k + 1)) (by rw [nI_clamp (by omega)]) ?_
          refine k_w (c_V (As := [.int (xs (k + 1))]) (rest := [.int (clmA τ (xs (k + 1)))]) C v_L_97 (c5_claim l g h ad τ hG.1 hD (xs (k + 1))) ⟨Nat.le_of_ble_eq_true rfl, Nat.le_of_ble_eq_true rfl⟩ (md_recv C hM) (hM) hl.1 rfl rfl (Nat.le_of_ble_eq_true rfl) dL_law_901 ⟨by show nc + 0 ≤ 600000; omega, by show ns + 0 ≤ 7302250; omega⟩) hS (fun q hq => hge q (Or.inr hq)) (fun r901 H1 locs q901 hz901 hk901 hS => ?_)
          obtain ⟨rfl, hM⟩ := q901
          have hB := hB.keep hz901 hk901 (fun q _ hq hq2 => hap q hq hq2) (fun q _ hq => Or.inr hq)
          have hZs : ∀ q, ZZ g bb h ad q → q < H1.size := fun q hq => Nat.lt_of_lt_of_le (hZs q hq) hz901
          refine W.eq (g2 := F0 m 904 ls [.int (clmA τ (xs (k + 1))), .int (clmA τ (xs (k + 1)))]) rfl ?_
          refine W.cs (cells' := nc) (slots' := ns) rfl rfl ?_
          refine lv_icmp_eq (tgt := 942) hx hb dL_law_904 (by decide) (fun c904 => ?_) (fun c904 => by exfalso; exact c904 rfl)
          refine n_iinc (d := 7) (lv' := [(3, .int (nI (k + 7))), (0, .ref (b)), (1, .ref (bb 0)), (2, .ref (h))]) C dL_law_942 (by decide) hl (k := 3) rfl (by decide) rfl (fun ls hl => ?_)
          refine lv_goto (tgt := 18) hx hb dL_law_945 (by decide) ?_
          exact ih_lp (k + 7) (nc) (ns) (clmT τ (xs (k + 1))) (H1) (locs) ls (by omega) (by omega) (by omega) (by omega) (hG.clm _) (hM) (hB) (hZs) (hS) (lv_sub hl [1, 2, 3, 0] rfl)
        by_cases k33_19 : ((xs (k)) &&& (31 : Int32)) = 19
        · skip
          refine n_tabIn (tgt := 909) (off := 876) C (19) (k33_19) dL_law_33 (by decide) (by decide) (by decide) (by decide) ?_
          refine lv_aload_n hx hb dL_law_909 rfl (lv_at hl 1 rfl) ?_
          refine lv_aload_n hx hb dL_law_910 rfl (lv_at hl 0 rfl) ?_
          refine lv_iload_n hx hb dL_law_911 rfl (lv_at hl 3 rfl) ?_
          refine lv_iconst (v := nI 1) hx hb dL_law_912 (by decide) ?_
          refine n_iadd C dL_law_913 ?_
          refine va_sld C.1.1 C.1.2.1 hX hbl hbA hS (vp_in_nI (show k + 1 < L by omega) (by omega)) dL_law_914 ?_
          refine w_topi (y := xs (k + 1)) (by rw [nI_clamp (by omega)]) ?_
          refine lv_aload_n hx hb dL_law_915 rfl (lv_at hl 0 rfl) ?_
          refine lv_iload_n hx hb dL_law_916 rfl (lv_at hl 3 rfl) ?_
          refine lv_iconst (v := nI 2) hx hb dL_law_917 (by decide) ?_
          refine n_iadd C dL_law_918 ?_
          refine va_sld C.1.1 C.1.2.1 hX hbl hbA hS (vp_in_nI (show k + 2 < L by omega) (by omega)) dL_law_919 ?_
          refine w_topi (y := xs (k + 2)) (by rw [nI_clamp (by omega)]) ?_
          refine k_i (c_V (As := [.int (xs (k + 1)), .int (xs (k + 2))]) (rest := []) C v_L_98 (c4_claimed l g bb (ZZ g bb h ad) τ hG.1 (xs (k + 1)) (xs (k + 2))) ⟨Nat.le_of_ble_eq_true rfl, Nat.le_of_ble_eq_true rfl⟩ (bk_recv C hB) (hB) hl.1 rfl rfl (Nat.le_of_ble_eq_true rfl) dL_law_920 ⟨by show nc + 0 ≤ 600000; omega, by show ns + 0 ≤ 7302250; omega⟩) (fun r920 q920 => ?_)
          subst q920
          refine lv_aload_n hx hb dL_law_923 rfl (lv_at hl 2 rfl) ?_
          refine lv_aload_n hx hb dL_law_924 rfl (lv_at hl 0 rfl) ?_
          refine lv_iload_n hx hb dL_law_925 rfl (lv_at hl 3 rfl) ?_
          refine lv_iconst (v := nI 1) hx hb dL_law_926 (by decide) ?_
          refine n_iadd C dL_law_927 ?_
          refine va_sld C.1.1 C.1.2.1 hX hbl hbA hS (vp_in_nI (show k + 1 < L by omega) (by omega)) dL_law_928 ?_
          refine w_topi (y := xs (k + 1)) (by rw [nI_clamp (by omega)]) ?_
          refine lv_aload_n hx hb dL_law_929 rfl (lv_at hl 0 rfl) ?_
          refine lv_iload_n hx hb dL_law_930 rfl (lv_at hl 3 rfl) ?_
          refine lv_iconst (v := nI 2) hx hb dL_law_931 (by decide) ?_
          refine n_iadd C dL_law_932 ?_
          refine va_sld C.1.1 C.1.2.1 hX hbl hbA hS (vp_in_nI (show k + 2 < L by omega) (by omega)) dL_law_933 ?_
          refine w_topi (y := xs (k + 2)) (by rw [nI_clamp (by omega)]) ?_
          refine k_w (c_V (As := [.int (xs (k + 1)), .int (xs (k + 2))]) (rest := [.int (claimedT τ (xs (k + 1)) (xs (k + 2)))]) C v_L_101 (c5_claimed l g h ad τ hG.1 hD (xs (k + 1)) (xs (k + 2))) ⟨Nat.le_of_ble_eq_true rfl, Nat.le_of_ble_eq_true rfl⟩ (md_recv C hM) (hM) hl.1 rfl rfl (Nat.le_of_ble_eq_true rfl) dL_law_934 ⟨by show nc + 0 ≤ 600000; omega, by show ns + 0 ≤ 7302250; omega⟩) hS (fun q hq => hge q (Or.inr hq)) (fun r934 H1 locs q934 hz934 hk934 hS => ?_)
          obtain ⟨rfl, hM⟩ := q934
          have hB := hB.keep hz934 hk934 (fun q _ hq hq2 => hap q hq hq2) (fun q _ hq => Or.inr hq)
          have hZs : ∀ q, ZZ g bb h ad q → q < H1.size := fun q hq => Nat.lt_of_lt_of_le (hZs q hq) hz934
          refine W.eq (g2 := F0 m 937 ls [.int (claimedT τ (xs (k + 1)) (xs (k + 2))), .int (claimedT τ (xs (k + 1)) (xs (k + 2)))]) rfl ?_
          refine W.cs (cells' := nc) (slots' := ns) rfl rfl ?_
          refine lv_icmp_eq (tgt := 942) hx hb dL_law_937 (by decide) (fun c937 => ?_) (fun c937 => by exfalso; exact c937 rfl)
          refine n_iinc (d := 7) (lv' := [(3, .int (nI (k + 7))), (0, .ref (b)), (1, .ref (bb 0)), (2, .ref (h))]) C dL_law_942 (by decide) hl (k := 3) rfl (by decide) rfl (fun ls hl => ?_)
          refine lv_goto (tgt := 18) hx hb dL_law_945 (by decide) ?_
          exact ih_lp (k + 7) (nc) (ns) (τ) (H1) (locs) ls (by omega) (by omega) (by omega) (by omega) (hG) (hM) (hB) (hZs) (hS) (lv_sub hl [1, 2, 3, 0] rfl)
        refine n_tabOut (tgt := 942) C dL_law_33 (by rcases Int.lt_or_le ((xs (k)) &&& (31 : Int32)).toInt 0 with hz | hz; exact Or.inl hz; refine Or.inr (Int.not_le.mp (fun hz2 => ?_)); have e20 : ((xs (k)) &&& (31 : Int32)).toInt = 0 ∨ ((xs (k)) &&& (31 : Int32)).toInt = 1 ∨ ((xs (k)) &&& (31 : Int32)).toInt = 2 ∨ ((xs (k)) &&& (31 : Int32)).toInt = 3 ∨ ((xs (k)) &&& (31 : Int32)).toInt = 4 ∨ ((xs (k)) &&& (31 : Int32)).toInt = 5 ∨ ((xs (k)) &&& (31 : Int32)).toInt = 6 ∨ ((xs (k)) &&& (31 : Int32)).toInt = 7 ∨ ((xs (k)) &&& (31 : Int32)).toInt = 8 ∨ ((xs (k)) &&& (31 : Int32)).toInt = 9 ∨ ((xs (k)) &&& (31 : Int32)).toInt = 10 ∨ ((xs (k)) &&& (31 : Int32)).toInt = 11 ∨ ((xs (k)) &&& (31 : Int32)).toInt = 12 ∨ ((xs (k)) &&& (31 : Int32)).toInt = 13 ∨ ((xs (k)) &&& (31 : Int32)).toInt = 14 ∨ ((xs (k)) &&& (31 : Int32)).toInt = 15 ∨ ((xs (k)) &&& (31 : Int32)).toInt = 16 ∨ ((xs (k)) &&& (31 : Int32)).toInt = 17 ∨ ((xs (k)) &&& (31 : Int32)).toInt = 18 ∨ ((xs (k)) &&& (31 : Int32)).toInt = 19 := (by omega); rcases e20 with e | e | e | e | e | e | e | e | e | e | e | e | e | e | e | e | e | e | e | e; exact k33_0 ((fa_eq _ _).mpr (by rw [e]; decide)); exact k33_1 ((fa_eq _ _).mpr (by rw [e]; decide)); exact k33_2 ((fa_eq _ _).mpr (by rw [e]; decide)); exact k33_3 ((fa_eq _ _).mpr (by rw [e]; decide)); exact k33_4 ((fa_eq _ _).mpr (by rw [e]; decide)); exact k33_5 ((fa_eq _ _).mpr (by rw [e]; decide)); exact k33_6 ((fa_eq _ _).mpr (by rw [e]; decide)); exact k33_7 ((fa_eq _ _).mpr (by rw [e]; decide)); exact k33_8 ((fa_eq _ _).mpr (by rw [e]; decide)); exact k33_9 ((fa_eq _ _).mpr (by rw [e]; decide)); exact k33_10 ((fa_eq _ _).mpr (by rw [e]; decide)); exact k33_11 ((fa_eq _ _).mpr (by rw [e]; decide)); exact k33_12 ((fa_eq _ _).mpr (by rw [e]; decide)); exact k33_13 ((fa_eq _ _).mpr (by rw [e]; decide)); exact k33_14 ((fa_eq _ _).mpr (by rw [e]; decide)); exact k33_15 ((fa_eq _ _).mpr (by rw [e]; decide)); exact k33_16 ((fa_eq _ _).mpr (by rw [e]; decide)); exact k33_17 ((fa_eq _ _).mpr (by rw [e]; decide)); exact k33_18 ((fa_eq _ _).mpr (by rw [e]; decide)); exact k33_19 ((fa_eq _ _).mpr (by rw [e]; decide))) (by decide) ?_
        refine n_iinc (d := 7) (lv' := [(3, .int (nI (k + 7))), (0, .ref (b)), (1, .ref (bb 0)), (2, .ref (h))]) C dL_law_942 (by decide) hl (k := 3) rfl (by decide) rfl (fun ls hl => ?_)
        refine lv_goto (tgt := 18) hx hb dL_law_945 (by decide) ?_
        exact ih_lp (k + 7) (nc) (ns) (τ) (H) (locs) ls (by omega) (by omega) (by omega) (by omega) (hG) (hM) (hB) (hZs) (hS) (lv_sub hl [1, 2, 3, 0] rfl)
  exact lp (600) (0) (36) (2077) (τ0) (H1) (locs) ls (by omega) (by omega) (by omega) (by omega) (good0) (hM) (hB) (hZs) (hS) (lv_sub hl [3, 2, 1, 0] rfl)

/-! THE REFERENCE: what can be -/
set_option maxHeartbeats 4000000 in
set_option maxRecDepth 100000 in
theorem c5_isCode (l : Launch) (g : GG) (h : Nat) (k : Int32) : Met l yX5_isCode (.code yX5_isCode cX5_isCode 2 (some .boolean) :: wsL_law) ({ frames := 0, cells := 0, slots := 0, locals := 0 } : Room) (mP g [.ref (h), .int (k)] (fun _ => True)) (vp_Si (fun v => v = bI (inR k 0 3))) 0 0 ((fun _ => False)) := by
  refine mMet (by decide) (Nat.le_of_ble_eq_true rfl) ?_
  intro p e s m below meth c C hr hlk hnm hP ls hl
  have hx := C.1.1
  have hb := C.1.2.1
  have hl : lv_has ls 2 [(0, .ref (h)), (1, .int (k))] := hl
  refine lv_iload_n hx hb dX5_isCode_0 rfl (lv_at hl 1 rfl) ?_
  refine lv_if_lt (tgt := 13) hx hb dX5_isCode_1 (by decide) (fun c1 => ?_) (fun c1 => ?_)
  · skip
    refine lv_iconst (v := 0) hx hb dX5_isCode_13 (by decide) ?_
    exact r_z C hr hlk (by first | exact Or.inl rfl | exact Or.inr rfl | exact bI_or _) (in0 (by simp only [fa_lt, fa_le, fa_eq, li_0, li_1, li_2, li_3, li_4, li_5, li_6, li_7, li_8, li_12, li_15, li_16, li_20, li_30, li_40, li_100, li_1000, li_65535, li_65536, li_1000000, li_m1] at c1; omega)) dX5_isCode_14
  · skip
    refine lv_iload_n hx hb dX5_isCode_4 rfl (lv_at hl 1 rfl) ?_
    refine lv_iconst (v := 4) hx hb dX5_isCode_5 (by decide) ?_
    refine lv_icmp_ge (tgt := 13) hx hb dX5_isCode_6 (by decide) (fun c6 => ?_) (fun c6 => ?_)
    · skip
      refine lv_iconst (v := 0) hx hb dX5_isCode_13 (by decide) ?_
      exact r_z C hr hlk (by first | exact Or.inl rfl | exact Or.inr rfl | exact bI_or _) (in0 (by simp only [fa_lt, fa_le, fa_eq, li_0, li_1, li_2, li_3, li_4, li_5, li_6, li_7, li_8, li_12, li_15, li_16, li_20, li_30, li_40, li_100, li_1000, li_65535, li_65536, li_1000000, li_m1] at c1 c6; omega)) dX5_isCode_14
    · skip
      refine lv_iconst (v := 1) hx hb dX5_isCode_9 (by decide) ?_
      refine lv_goto (tgt := 14) hx hb dX5_isCode_10 (by decide) ?_
      exact r_z C hr hlk (by first | exact Or.inl rfl | exact Or.inr rfl | exact bI_or _) (in1 (by simp only [fa_lt, fa_le, fa_eq, li_0, li_1, li_2, li_3, li_4, li_5, li_6, li_7, li_8, li_12, li_15, li_16, li_20, li_30, li_40, li_100, li_1000, li_65535, li_65536, li_1000000, li_m1] at c1 c6; omega)) dX5_isCode_14
set_option maxHeartbeats 4000000 in
set_option maxRecDepth 100000 in
theorem c5_isSeed (l : Launch) (g : GG) (h : Nat) (v : Int32) : Met l yX5_isSeed (.code yX5_isSeed cX5_isSeed 2 (some .boolean) :: wsL_law) ({ frames := 0, cells := 0, slots := 0, locals := 0 } : Room) (mP g [.ref (h), .int (v)] (fun _ => True)) (vp_Si (fun z => z = bI (inR v 0 99))) 0 0 ((fun _ => False)) := by
  refine mMet (by decide) (Nat.le_of_ble_eq_true rfl) ?_
  intro p e s m below meth c C hr hlk hnm hP ls hl
  have hx := C.1.1
  have hb := C.1.2.1
  have hl : lv_has ls 2 [(0, .ref (h)), (1, .int (v))] := hl
  refine lv_iload_n hx hb dX5_isSeed_0 rfl (lv_at hl 1 rfl) ?_
  refine lv_if_lt (tgt := 14) hx hb dX5_isSeed_1 (by decide) (fun c1 => ?_) (fun c1 => ?_)
  · skip
    refine lv_iconst (v := 0) hx hb dX5_isSeed_14 (by decide) ?_
    exact r_z C hr hlk (by first | exact Or.inl rfl | exact Or.inr rfl | exact bI_or _) (in0 (by simp only [fa_lt, fa_le, fa_eq, li_0, li_1, li_2, li_3, li_4, li_5, li_6, li_7, li_8, li_12, li_15, li_16, li_20, li_30, li_40, li_100, li_1000, li_65535, li_65536, li_1000000, li_m1] at c1; omega)) dX5_isSeed_15
  · skip
    refine lv_iload_n hx hb dX5_isSeed_4 rfl (lv_at hl 1 rfl) ?_
    refine lv_bipush (v := 100) hx hb dX5_isSeed_5 (by decide) ?_
    refine lv_icmp_ge (tgt := 14) hx hb dX5_isSeed_7 (by decide) (fun c7 => ?_) (fun c7 => ?_)
    · skip
      refine lv_iconst (v := 0) hx hb dX5_isSeed_14 (by decide) ?_
      exact r_z C hr hlk (by first | exact Or.inl rfl | exact Or.inr rfl | exact bI_or _) (in0 (by simp only [fa_lt, fa_le, fa_eq, li_0, li_1, li_2, li_3, li_4, li_5, li_6, li_7, li_8, li_12, li_15, li_16, li_20, li_30, li_40, li_100, li_1000, li_65535, li_65536, li_1000000, li_m1] at c1 c7; omega)) dX5_isSeed_15
    · skip
      refine lv_iconst (v := 1) hx hb dX5_isSeed_10 (by decide) ?_
      refine lv_goto (tgt := 15) hx hb dX5_isSeed_11 (by decide) ?_
      exact r_z C hr hlk (by first | exact Or.inl rfl | exact Or.inr rfl | exact bI_or _) (in1 (by simp only [fa_lt, fa_le, fa_eq, li_0, li_1, li_2, li_3, li_4, li_5, li_6, li_7, li_8, li_12, li_15, li_16, li_20, li_30, li_40, li_100, li_1000, li_65535, li_65536, li_1000000, li_m1] at c1 c7; omega)) dX5_isSeed_15
set_option maxHeartbeats 4000000 in
set_option maxRecDepth 100000 in
theorem c5_areTicks (l : Launch) (g : GG) (h : Nat) (t : Int32) : Met l yX5_areTicks (.code yX5_areTicks cX5_areTicks 2 (some .boolean) :: wsL_law) ({ frames := 0, cells := 0, slots := 0, locals := 0 } : Room) (mP g [.ref (h), .int (t)] (fun _ => True)) (vp_Si (fun z => z = bI (inR t 1 16))) 0 0 ((fun _ => False)) := by
  refine mMet (by decide) (Nat.le_of_ble_eq_true rfl) ?_
  intro p e s m below meth c C hr hlk hnm hP ls hl
  have hx := C.1.1
  have hb := C.1.2.1
  have hl : lv_has ls 2 [(0, .ref (h)), (1, .int (t))] := hl
  refine lv_iload_n hx hb dX5_areTicks_0 rfl (lv_at hl 1 rfl) ?_
  refine lv_iconst (v := 1) hx hb dX5_areTicks_1 (by decide) ?_
  refine lv_icmp_lt (tgt := 15) hx hb dX5_areTicks_2 (by decide) (fun c2 => ?_) (fun c2 => ?_)
  · skip
    refine lv_iconst (v := 0) hx hb dX5_areTicks_15 (by decide) ?_
    exact r_z C hr hlk (by first | exact Or.inl rfl | exact Or.inr rfl | exact bI_or _) (in0 (by simp only [fa_lt, fa_le, fa_eq, li_0, li_1, li_2, li_3, li_4, li_5, li_6, li_7, li_8, li_12, li_15, li_16, li_20, li_30, li_40, li_100, li_1000, li_65535, li_65536, li_1000000, li_m1] at c2; omega)) dX5_areTicks_16
  · skip
    refine lv_iload_n hx hb dX5_areTicks_5 rfl (lv_at hl 1 rfl) ?_
    refine lv_bipush (v := 16) hx hb dX5_areTicks_6 (by decide) ?_
    refine lv_icmp_gt (tgt := 15) hx hb dX5_areTicks_8 (by decide) (fun c8 => ?_) (fun c8 => ?_)
    · skip
      refine lv_iconst (v := 0) hx hb dX5_areTicks_15 (by decide) ?_
      exact r_z C hr hlk (by first | exact Or.inl rfl | exact Or.inr rfl | exact bI_or _) (in0 (by simp only [fa_lt, fa_le, fa_eq, li_0, li_1, li_2, li_3, li_4, li_5, li_6, li_7, li_8, li_12, li_15, li_16, li_20, li_30, li_40, li_100, li_1000, li_65535, li_65536, li_1000000, li_m1] at c2 c8; omega)) dX5_areTicks_16
    · skip
      refine lv_iconst (v := 1) hx hb dX5_areTicks_11 (by decide) ?_
      refine lv_goto (tgt := 16) hx hb dX5_areTicks_12 (by decide) ?_
      exact r_z C hr hlk (by first | exact Or.inl rfl | exact Or.inr rfl | exact bI_or _) (in1 (by simp only [fa_lt, fa_le, fa_eq, li_0, li_1, li_2, li_3, li_4, li_5, li_6, li_7, li_8, li_12, li_15, li_16, li_20, li_30, li_40, li_100, li_1000, li_65535, li_65536, li_1000000, li_m1] at c2 c8; omega)) dX5_areTicks_16
set_option maxHeartbeats 4000000 in
set_option maxRecDepth 100000 in
theorem c5_setting (l : Launch) (g : GG) (h : Nat) (all : Int32) (i : Nat) : Met l yX5_setting (.code yX5_setting cX5_setting 3 (some .int) :: wsL_law) ({ frames := 0, cells := 0, slots := 0, locals := 0 } : Room) (mP g [.ref (h), .int (all), .int (nI (i))] (fun _ => True)) (vp_Si (fun z => z = sett all i)) 0 0 ((fun _ => False)) := by
  refine mMet (by decide) (Nat.le_of_ble_eq_true rfl) ?_
  intro p e s m below meth c C hr hlk hnm hP ls hl
  have hx := C.1.1
  have hb := C.1.2.1
  have hl : lv_has ls 3 [(0, .ref (h)), (1, .int (all)), (2, .int (nI (i)))] := hl
  refine lv_iload_n hx hb dX5_setting_0 rfl (lv_at hl 1 rfl) ?_
  refine lv_iconst (v := nI 4) hx hb dX5_setting_1 (by decide) ?_
  refine lv_iload_n hx hb dX5_setting_2 rfl (lv_at hl 2 rfl) ?_
  refine n_imul C dX5_setting_3 ?_
  refine lv_ishr hx hb dX5_setting_4 ?_
  refine lv_bipush (v := 15) hx hb dX5_setting_5 (by decide) ?_
  refine lv_iand hx hb dX5_setting_7 ?_
  exact r_i C hr hlk (rfl) dX5_setting_8
set_option maxHeartbeats 4000000 in
set_option maxRecDepth 100000 in
theorem c5_isRun (l : Launch) (g : GG) (h : Nat) (ad : Nat → Nat) (φ : Nat → Int32) (α : Nat → Nat → Int32) (τ : TB) (hR : MdR φ α τ) (hT : TOK τ) (r : Int32) : Met l yX5_isRun (.code yX5_isRun cX5_isRun 2 (some .boolean) :: wsL_law) ({ frames := 0, cells := 0, slots := 0, locals := 0 } : Room) (mP g [.ref (h), .int (r)] (fun H => va_P g.1 vwCl (wM g h ad φ α) H)) (vp_Si (fun z => z = bI (inR r 0 (tN τ - 1)))) 0 0 ((fun _ => False)) := by
  refine mMet (by decide) (Nat.le_of_ble_eq_true rfl) ?_
  intro p e s m below meth c C hr hlk hnm hM ls hl
  have hx := C.1.1
  have hb := C.1.2.1
  have hl : lv_has ls 2 [(0, .ref (h)), (1, .int (r))] := hl
  refine lv_iload_n hx hb dX5_isRun_0 rfl (lv_at hl 1 rfl) ?_
  refine lv_if_lt (tgt := 16) hx hb dX5_isRun_1 (by decide) (fun c1 => ?_) (fun c1 => ?_)
  · skip
    refine lv_iconst (v := 0) hx hb dX5_isRun_16 (by decide) ?_
    exact r_z C hr hlk (by first | exact Or.inl rfl | exact Or.inr rfl | exact bI_or _) (in0 (by have hn := hT.2.2.1; simp only [fa_lt, fa_le, fa_eq, li_0, li_1, li_2, li_3, li_4, li_5, li_6, li_7, li_8, li_12, li_15, li_16, li_20, li_30, li_40, li_100, li_1000, li_65535, li_65536, li_1000000, li_m1, nI_toInt (show tN τ < 2 ^ 31 by omega)] at c1; omega)) dX5_isRun_17
  · skip
    refine lv_iload_n hx hb dX5_isRun_4 rfl (lv_at hl 1 rfl) ?_
    refine lv_aload_n hx hb dX5_isRun_5 rfl (lv_at hl 0 rfl) ?_
    refine q_get C f_X5_90 hM 0 rw_0 ro_6 dX5_isRun_6 ?_
    refine w_topi (y := (nI (tN τ))) (hR.n) ?_
    refine lv_icmp_ge (tgt := 16) hx hb dX5_isRun_9 (by decide) (fun c9 => ?_) (fun c9 => ?_)
    · skip
      refine lv_iconst (v := 0) hx hb dX5_isRun_16 (by decide) ?_
      exact r_z C hr hlk (by first | exact Or.inl rfl | exact Or.inr rfl | exact bI_or _) (in0 (by have hn := hT.2.2.1; simp only [fa_lt, fa_le, fa_eq, li_0, li_1, li_2, li_3, li_4, li_5, li_6, li_7, li_8, li_12, li_15, li_16, li_20, li_30, li_40, li_100, li_1000, li_65535, li_65536, li_1000000, li_m1, nI_toInt (show tN τ < 2 ^ 31 by omega)] at c1 c9; omega)) dX5_isRun_17
    · skip
      refine lv_iconst (v := 1) hx hb dX5_isRun_12 (by decide) ?_
      refine lv_goto (tgt := 17) hx hb dX5_isRun_13 (by decide) ?_
      exact r_z C hr hlk (by first | exact Or.inl rfl | exact Or.inr rfl | exact bI_or _) (in1 (by have hn := hT.2.2.1; simp only [fa_lt, fa_le, fa_eq, li_0, li_1, li_2, li_3, li_4, li_5, li_6, li_7, li_8, li_12, li_15, li_16, li_20, li_30, li_40, li_100, li_1000, li_65535, li_65536, li_1000000, li_m1, nI_toInt (show tN τ < 2 ^ 31 by omega)] at c1 c9; omega)) dX5_isRun_17
/-! THE CLASS: what can be -/
set_option maxHeartbeats 4000000 in
set_option maxRecDepth 100000 in
theorem c4_isSetting (l : Launch) (g : GG) (i : Int32) : Met l yX4_isSetting (.code yX4_isSetting cX4_isSetting 1 (some .boolean) :: wsL_law) ({ frames := 0, cells := 0, slots := 0, locals := 0 } : Room) (mP g [.int (i)] (fun _ => True)) (vp_Si (fun z => z = bI (inR i 0 3))) 0 0 ((fun _ => False)) := by
  refine mMet (by decide) (Nat.le_of_ble_eq_true rfl) ?_
  intro p e s m below meth c C hr hlk hnm hP ls hl
  have hx := C.1.1
  have hb := C.1.2.1
  have hl : lv_has ls 1 [(0, .int (i))] := hl
  refine lv_iload_n hx hb dX4_isSetting_0 rfl (lv_at hl 0 rfl) ?_
  refine lv_if_lt (tgt := 13) hx hb dX4_isSetting_1 (by decide) (fun c1 => ?_) (fun c1 => ?_)
  · skip
    refine lv_iconst (v := 0) hx hb dX4_isSetting_13 (by decide) ?_
    exact r_z C hr hlk (by first | exact Or.inl rfl | exact Or.inr rfl | exact bI_or _) (in0 (by simp only [fa_lt, fa_le, fa_eq, li_0, li_1, li_2, li_3, li_4, li_5, li_6, li_7, li_8, li_12, li_15, li_16, li_20, li_30, li_40, li_100, li_1000, li_65535, li_65536, li_1000000, li_m1] at c1; omega)) dX4_isSetting_14
  · skip
    refine lv_iload_n hx hb dX4_isSetting_4 rfl (lv_at hl 0 rfl) ?_
    refine lv_iconst (v := 4) hx hb dX4_isSetting_5 (by decide) ?_
    refine lv_icmp_ge (tgt := 13) hx hb dX4_isSetting_6 (by decide) (fun c6 => ?_) (fun c6 => ?_)
    · skip
      refine lv_iconst (v := 0) hx hb dX4_isSetting_13 (by decide) ?_
      exact r_z C hr hlk (by first | exact Or.inl rfl | exact Or.inr rfl | exact bI_or _) (in0 (by simp only [fa_lt, fa_le, fa_eq, li_0, li_1, li_2, li_3, li_4, li_5, li_6, li_7, li_8, li_12, li_15, li_16, li_20, li_30, li_40, li_100, li_1000, li_65535, li_65536, li_1000000, li_m1] at c1 c6; omega)) dX4_isSetting_14
    · skip
      refine lv_iconst (v := 1) hx hb dX4_isSetting_9 (by decide) ?_
      refine lv_goto (tgt := 14) hx hb dX4_isSetting_10 (by decide) ?_
      exact r_z C hr hlk (by first | exact Or.inl rfl | exact Or.inr rfl | exact bI_or _) (in1 (by simp only [fa_lt, fa_le, fa_eq, li_0, li_1, li_2, li_3, li_4, li_5, li_6, li_7, li_8, li_12, li_15, li_16, li_20, li_30, li_40, li_100, li_1000, li_65535, li_65536, li_1000000, li_m1] at c1 c6; omega)) dX4_isSetting_14
set_option maxHeartbeats 4000000 in
set_option maxRecDepth 100000 in
theorem c4_isValue (l : Launch) (g : GG) (v : Int32) : Met l yX4_isValue (.code yX4_isValue cX4_isValue 1 (some .boolean) :: wsL_law) ({ frames := 0, cells := 0, slots := 0, locals := 0 } : Room) (mP g [.int (v)] (fun _ => True)) (vp_Si (fun z => z = bI (inR v 0 5))) 0 0 ((fun _ => False)) := by
  refine mMet (by decide) (Nat.le_of_ble_eq_true rfl) ?_
  intro p e s m below meth c C hr hlk hnm hP ls hl
  have hx := C.1.1
  have hb := C.1.2.1
  have hl : lv_has ls 1 [(0, .int (v))] := hl
  refine lv_iload_n hx hb dX4_isValue_0 rfl (lv_at hl 0 rfl) ?_
  refine lv_if_lt (tgt := 14) hx hb dX4_isValue_1 (by decide) (fun c1 => ?_) (fun c1 => ?_)
  · skip
    refine lv_iconst (v := 0) hx hb dX4_isValue_14 (by decide) ?_
    exact r_z C hr hlk (by first | exact Or.inl rfl | exact Or.inr rfl | exact bI_or _) (in0 (by simp only [fa_lt, fa_le, fa_eq, li_0, li_1, li_2, li_3, li_4, li_5, li_6, li_7, li_8, li_12, li_15, li_16, li_20, li_30, li_40, li_100, li_1000, li_65535, li_65536, li_1000000, li_m1] at c1; omega)) dX4_isValue_15
  · skip
    refine lv_iload_n hx hb dX4_isValue_4 rfl (lv_at hl 0 rfl) ?_
    refine lv_bipush (v := 6) hx hb dX4_isValue_5 (by decide) ?_
    refine lv_icmp_ge (tgt := 14) hx hb dX4_isValue_7 (by decide) (fun c7 => ?_) (fun c7 => ?_)
    · skip
      refine lv_iconst (v := 0) hx hb dX4_isValue_14 (by decide) ?_
      exact r_z C hr hlk (by first | exact Or.inl rfl | exact Or.inr rfl | exact bI_or _) (in0 (by simp only [fa_lt, fa_le, fa_eq, li_0, li_1, li_2, li_3, li_4, li_5, li_6, li_7, li_8, li_12, li_15, li_16, li_20, li_30, li_40, li_100, li_1000, li_65535, li_65536, li_1000000, li_m1] at c1 c7; omega)) dX4_isValue_15
    · skip
      refine lv_iconst (v := 1) hx hb dX4_isValue_10 (by decide) ?_
      refine lv_goto (tgt := 15) hx hb dX4_isValue_11 (by decide) ?_
      exact r_z C hr hlk (by first | exact Or.inl rfl | exact Or.inr rfl | exact bI_or _) (in1 (by simp only [fa_lt, fa_le, fa_eq, li_0, li_1, li_2, li_3, li_4, li_5, li_6, li_7, li_8, li_12, li_15, li_16, li_20, li_30, li_40, li_100, li_1000, li_65535, li_65536, li_1000000, li_m1] at c1 c7; omega)) dX4_isValue_15
set_option maxHeartbeats 4000000 in
set_option maxRecDepth 100000 in
theorem c4_isSeed (l : Launch) (g : GG) (v : Int32) : Met l yX4_isSeed (.code yX4_isSeed cX4_isSeed 1 (some .boolean) :: wsL_law) ({ frames := 0, cells := 0, slots := 0, locals := 0 } : Room) (mP g [.int (v)] (fun _ => True)) (vp_Si (fun z => z = bI (inR v 0 99))) 0 0 ((fun _ => False)) := by
  refine mMet (by decide) (Nat.le_of_ble_eq_true rfl) ?_
  intro p e s m below meth c C hr hlk hnm hP ls hl
  have hx := C.1.1
  have hb := C.1.2.1
  have hl : lv_has ls 1 [(0, .int (v))] := hl
  refine lv_iload_n hx hb dX4_isSeed_0 rfl (lv_at hl 0 rfl) ?_
  refine lv_if_lt (tgt := 14) hx hb dX4_isSeed_1 (by decide) (fun c1 => ?_) (fun c1 => ?_)
  · skip
    refine lv_iconst (v := 0) hx hb dX4_isSeed_14 (by decide) ?_
    exact r_z C hr hlk (by first | exact Or.inl rfl | exact Or.inr rfl | exact bI_or _) (in0 (by simp only [fa_lt, fa_le, fa_eq, li_0, li_1, li_2, li_3, li_4, li_5, li_6, li_7, li_8, li_12, li_15, li_16, li_20, li_30, li_40, li_100, li_1000, li_65535, li_65536, li_1000000, li_m1] at c1; omega)) dX4_isSeed_15
  · skip
    refine lv_iload_n hx hb dX4_isSeed_4 rfl (lv_at hl 0 rfl) ?_
    refine lv_bipush (v := 100) hx hb dX4_isSeed_5 (by decide) ?_
    refine lv_icmp_ge (tgt := 14) hx hb dX4_isSeed_7 (by decide) (fun c7 => ?_) (fun c7 => ?_)
    · skip
      refine lv_iconst (v := 0) hx hb dX4_isSeed_14 (by decide) ?_
      exact r_z C hr hlk (by first | exact Or.inl rfl | exact Or.inr rfl | exact bI_or _) (in0 (by simp only [fa_lt, fa_le, fa_eq, li_0, li_1, li_2, li_3, li_4, li_5, li_6, li_7, li_8, li_12, li_15, li_16, li_20, li_30, li_40, li_100, li_1000, li_65535, li_65536, li_1000000, li_m1] at c1 c7; omega)) dX4_isSeed_15
    · skip
      refine lv_iconst (v := 1) hx hb dX4_isSeed_10 (by decide) ?_
      refine lv_goto (tgt := 15) hx hb dX4_isSeed_11 (by decide) ?_
      exact r_z C hr hlk (by first | exact Or.inl rfl | exact Or.inr rfl | exact bI_or _) (in1 (by simp only [fa_lt, fa_le, fa_eq, li_0, li_1, li_2, li_3, li_4, li_5, li_6, li_7, li_8, li_12, li_15, li_16, li_20, li_30, li_40, li_100, li_1000, li_65535, li_65536, li_1000000, li_m1] at c1 c7; omega)) dX4_isSeed_15
set_option maxHeartbeats 4000000 in
set_option maxRecDepth 100000 in
theorem c4_areTicks (l : Launch) (g : GG) (t : Int32) : Met l yX4_areTicks (.code yX4_areTicks cX4_areTicks 1 (some .boolean) :: wsL_law) ({ frames := 0, cells := 0, slots := 0, locals := 0 } : Room) (mP g [.int (t)] (fun _ => True)) (vp_Si (fun z => z = bI (inR t 1 16))) 0 0 ((fun _ => False)) := by
  refine mMet (by decide) (Nat.le_of_ble_eq_true rfl) ?_
  intro p e s m below meth c C hr hlk hnm hP ls hl
  have hx := C.1.1
  have hb := C.1.2.1
  have hl : lv_has ls 1 [(0, .int (t))] := hl
  refine lv_iload_n hx hb dX4_areTicks_0 rfl (lv_at hl 0 rfl) ?_
  refine lv_iconst (v := 1) hx hb dX4_areTicks_1 (by decide) ?_
  refine lv_icmp_lt (tgt := 15) hx hb dX4_areTicks_2 (by decide) (fun c2 => ?_) (fun c2 => ?_)
  · skip
    refine lv_iconst (v := 0) hx hb dX4_areTicks_15 (by decide) ?_
    exact r_z C hr hlk (by first | exact Or.inl rfl | exact Or.inr rfl | exact bI_or _) (in0 (by simp only [fa_lt, fa_le, fa_eq, li_0, li_1, li_2, li_3, li_4, li_5, li_6, li_7, li_8, li_12, li_15, li_16, li_20, li_30, li_40, li_100, li_1000, li_65535, li_65536, li_1000000, li_m1] at c2; omega)) dX4_areTicks_16
  · skip
    refine lv_iload_n hx hb dX4_areTicks_5 rfl (lv_at hl 0 rfl) ?_
    refine lv_bipush (v := 16) hx hb dX4_areTicks_6 (by decide) ?_
    refine lv_icmp_gt (tgt := 15) hx hb dX4_areTicks_8 (by decide) (fun c8 => ?_) (fun c8 => ?_)
    · skip
      refine lv_iconst (v := 0) hx hb dX4_areTicks_15 (by decide) ?_
      exact r_z C hr hlk (by first | exact Or.inl rfl | exact Or.inr rfl | exact bI_or _) (in0 (by simp only [fa_lt, fa_le, fa_eq, li_0, li_1, li_2, li_3, li_4, li_5, li_6, li_7, li_8, li_12, li_15, li_16, li_20, li_30, li_40, li_100, li_1000, li_65535, li_65536, li_1000000, li_m1] at c2 c8; omega)) dX4_areTicks_16
    · skip
      refine lv_iconst (v := 1) hx hb dX4_areTicks_11 (by decide) ?_
      refine lv_goto (tgt := 16) hx hb dX4_areTicks_12 (by decide) ?_
      exact r_z C hr hlk (by first | exact Or.inl rfl | exact Or.inr rfl | exact bI_or _) (in1 (by simp only [fa_lt, fa_le, fa_eq, li_0, li_1, li_2, li_3, li_4, li_5, li_6, li_7, li_8, li_12, li_15, li_16, li_20, li_30, li_40, li_100, li_1000, li_65535, li_65536, li_1000000, li_m1] at c2 c8; omega)) dX4_areTicks_16
set_option maxHeartbeats 4000000 in
set_option maxRecDepth 100000 in
theorem c4_areGridSeeds (l : Launch) (g : GG) (w : Int32) : Met l yX4_areGridSeeds (.code yX4_areGridSeeds cX4_areGridSeeds 1 (some .boolean) :: wsL_law) ({ frames := 0, cells := 0, slots := 0, locals := 0 } : Room) (mP g [.int (w)] (fun _ => True)) (vp_Si (fun z => z = bI (inR w 1 8))) 0 0 ((fun _ => False)) := by
  refine mMet (by decide) (Nat.le_of_ble_eq_true rfl) ?_
  intro p e s m below meth c C hr hlk hnm hP ls hl
  have hx := C.1.1
  have hb := C.1.2.1
  have hl : lv_has ls 1 [(0, .int (w))] := hl
  refine lv_iload_n hx hb dX4_areGridSeeds_0 rfl (lv_at hl 0 rfl) ?_
  refine lv_iconst (v := 1) hx hb dX4_areGridSeeds_1 (by decide) ?_
  refine lv_icmp_lt (tgt := 15) hx hb dX4_areGridSeeds_2 (by decide) (fun c2 => ?_) (fun c2 => ?_)
  · skip
    refine lv_iconst (v := 0) hx hb dX4_areGridSeeds_15 (by decide) ?_
    exact r_z C hr hlk (by first | exact Or.inl rfl | exact Or.inr rfl | exact bI_or _) (in0 (by simp only [fa_lt, fa_le, fa_eq, li_0, li_1, li_2, li_3, li_4, li_5, li_6, li_7, li_8, li_12, li_15, li_16, li_20, li_30, li_40, li_100, li_1000, li_65535, li_65536, li_1000000, li_m1] at c2; omega)) dX4_areGridSeeds_16
  · skip
    refine lv_iload_n hx hb dX4_areGridSeeds_5 rfl (lv_at hl 0 rfl) ?_
    refine lv_bipush (v := 8) hx hb dX4_areGridSeeds_6 (by decide) ?_
    refine lv_icmp_gt (tgt := 15) hx hb dX4_areGridSeeds_8 (by decide) (fun c8 => ?_) (fun c8 => ?_)
    · skip
      refine lv_iconst (v := 0) hx hb dX4_areGridSeeds_15 (by decide) ?_
      exact r_z C hr hlk (by first | exact Or.inl rfl | exact Or.inr rfl | exact bI_or _) (in0 (by simp only [fa_lt, fa_le, fa_eq, li_0, li_1, li_2, li_3, li_4, li_5, li_6, li_7, li_8, li_12, li_15, li_16, li_20, li_30, li_40, li_100, li_1000, li_65535, li_65536, li_1000000, li_m1] at c2 c8; omega)) dX4_areGridSeeds_16
    · skip
      refine lv_iconst (v := 1) hx hb dX4_areGridSeeds_11 (by decide) ?_
      refine lv_goto (tgt := 16) hx hb dX4_areGridSeeds_12 (by decide) ?_
      exact r_z C hr hlk (by first | exact Or.inl rfl | exact Or.inr rfl | exact bI_or _) (in1 (by simp only [fa_lt, fa_le, fa_eq, li_0, li_1, li_2, li_3, li_4, li_5, li_6, li_7, li_8, li_12, li_15, li_16, li_20, li_30, li_40, li_100, li_1000, li_65535, li_65536, li_1000000, li_m1] at c2 c8; omega)) dX4_areGridSeeds_16
set_option maxHeartbeats 4000000 in
set_option maxRecDepth 100000 in
theorem c4_areOdds (l : Launch) (g : GG) (r : Int32) : Met l yX4_areOdds (.code yX4_areOdds cX4_areOdds 1 (some .boolean) :: wsL_law) ({ frames := 0, cells := 0, slots := 0, locals := 0 } : Room) (mP g [.int (r)] (fun _ => True)) (vp_Si (fun z => z = bI (inR r 1 1000000))) 0 0 ((fun _ => False)) := by
  refine mMet (by decide) (Nat.le_of_ble_eq_true rfl) ?_
  intro p e s m below meth c C hr hlk hnm hP ls hl
  have hx := C.1.1
  have hb := C.1.2.1
  have hl : lv_has ls 1 [(0, .int (r))] := hl
  refine lv_iload_n hx hb dX4_areOdds_0 rfl (lv_at hl 0 rfl) ?_
  refine lv_iconst (v := 1) hx hb dX4_areOdds_1 (by decide) ?_
  refine lv_icmp_lt (tgt := 16) hx hb dX4_areOdds_2 (by decide) (fun c2 => ?_) (fun c2 => ?_)
  · skip
    refine lv_iconst (v := 0) hx hb dX4_areOdds_16 (by decide) ?_
    exact r_z C hr hlk (by first | exact Or.inl rfl | exact Or.inr rfl | exact bI_or _) (in0 (by simp only [fa_lt, fa_le, fa_eq, li_0, li_1, li_2, li_3, li_4, li_5, li_6, li_7, li_8, li_12, li_15, li_16, li_20, li_30, li_40, li_100, li_1000, li_65535, li_65536, li_1000000, li_m1] at c2; omega)) dX4_areOdds_17
  · skip
    refine lv_iload_n hx hb dX4_areOdds_5 rfl (lv_at hl 0 rfl) ?_
    refine lv_ldcw (v := 1000000) hx hb C.1.2.2.2.1 (C.1.2.2.2.2 _ (inr_21 _ (List.mem_of_getElem? (i := 21) rfl))) dX4_areOdds_6 ?_
    refine lv_icmp_gt (tgt := 16) hx hb dX4_areOdds_9 (by decide) (fun c9 => ?_) (fun c9 => ?_)
    · skip
      refine lv_iconst (v := 0) hx hb dX4_areOdds_16 (by decide) ?_
      exact r_z C hr hlk (by first | exact Or.inl rfl | exact Or.inr rfl | exact bI_or _) (in0 (by simp only [fa_lt, fa_le, fa_eq, li_0, li_1, li_2, li_3, li_4, li_5, li_6, li_7, li_8, li_12, li_15, li_16, li_20, li_30, li_40, li_100, li_1000, li_65535, li_65536, li_1000000, li_m1] at c2 c9; omega)) dX4_areOdds_17
    · skip
      refine lv_iconst (v := 1) hx hb dX4_areOdds_12 (by decide) ?_
      refine lv_goto (tgt := 17) hx hb dX4_areOdds_13 (by decide) ?_
      exact r_z C hr hlk (by first | exact Or.inl rfl | exact Or.inr rfl | exact bI_or _) (in1 (by simp only [fa_lt, fa_le, fa_eq, li_0, li_1, li_2, li_3, li_4, li_5, li_6, li_7, li_8, li_12, li_15, li_16, li_20, li_30, li_40, li_100, li_1000, li_65535, li_65536, li_1000000, li_m1] at c2 c9; omega)) dX4_areOdds_17
set_option maxHeartbeats 4000000 in
set_option maxRecDepth 100000 in
theorem c4_asNumber (l : Launch) (g : GG) (b : Bool) : Met l yX4_asNumber (.code yX4_asNumber cX4_asNumber 1 (some .int) :: wsL_law) ({ frames := 0, cells := 0, slots := 0, locals := 0 } : Room) (mP g [.int (bI (b))] (fun _ => True)) (vp_Si (fun z => z = bI b)) 0 0 ((fun _ => False)) := by
  refine mMet (by decide) (Nat.le_of_ble_eq_true rfl) ?_
  intro p e s m below meth c C hr hlk hnm hP ls hl
  have hx := C.1.1
  have hb := C.1.2.1
  have hl : lv_has ls 1 [(0, .int (bI (b)))] := hl
  refine lv_iload_n hx hb dX4_asNumber_0 rfl (lv_at hl 0 rfl) ?_
  refine b_ifeq (tgt := 8) C dX4_asNumber_1 (by decide) (fun c1 => ?_) (fun c1 => ?_)
  · skip
    refine lv_iconst (v := 0) hx hb dX4_asNumber_8 (by decide) ?_
    exact r_i C hr hlk (bif0 (by assumption)) dX4_asNumber_9
  · skip
    refine lv_iconst (v := 1) hx hb dX4_asNumber_4 (by decide) ?_
    refine lv_goto (tgt := 9) hx hb dX4_asNumber_5 (by decide) ?_
    exact r_i C hr hlk (bit1 (by assumption)) dX4_asNumber_9
set_option maxHeartbeats 4000000 in
set_option maxRecDepth 100000 in
theorem c4_settingOf (l : Launch) (g : GG) (all : Int32) (i : Nat) : Met l yX4_settingOf (.code yX4_settingOf cX4_settingOf 2 (some .int) :: wsL_law) ({ frames := 0, cells := 0, slots := 0, locals := 0 } : Room) (mP g [.int (all), .int (nI (i))] (fun _ => True)) (vp_Si (fun z => z = sett all i)) 0 0 ((fun _ => False)) := by
  refine mMet (by decide) (Nat.le_of_ble_eq_true rfl) ?_
  intro p e s m below meth c C hr hlk hnm hP ls hl
  have hx := C.1.1
  have hb := C.1.2.1
  have hl : lv_has ls 2 [(0, .int (all)), (1, .int (nI (i)))] := hl
  refine lv_iload_n hx hb dX4_settingOf_0 rfl (lv_at hl 0 rfl) ?_
  refine lv_iconst (v := nI 4) hx hb dX4_settingOf_1 (by decide) ?_
  refine lv_iload_n hx hb dX4_settingOf_2 rfl (lv_at hl 1 rfl) ?_
  refine n_imul C dX4_settingOf_3 ?_
  refine lv_ishr hx hb dX4_settingOf_4 ?_
  refine lv_bipush (v := 15) hx hb dX4_settingOf_5 (by decide) ?_
  refine lv_iand hx hb dX4_settingOf_7 ?_
  exact r_i C hr hlk (rfl) dX4_settingOf_8
set_option maxHeartbeats 4000000 in
set_option maxRecDepth 100000 in
theorem c4_isIn (l : Launch) (g : GG) (i : Nat) (x : Int32) : Met l yX4_isIn (.code yX4_isIn cX4_isIn 2 (some .boolean) :: wsL_law) ({ frames := 0, cells := 0, slots := 0, locals := 0 } : Room) (mP g [.int (nI (i)), .int (x)] (fun _ => True)) (vp_Si (fun z => z = bI (hasB x i))) 0 0 ((fun _ => False)) := by
  refine mMet (by decide) (Nat.le_of_ble_eq_true rfl) ?_
  intro p e s m below meth c C hr hlk hnm hP ls hl
  have hx := C.1.1
  have hb := C.1.2.1
  have hl : lv_has ls 2 [(0, .int (nI (i))), (1, .int (x))] := hl
  refine lv_iload_n hx hb dX4_isIn_0 rfl (lv_at hl 1 rfl) ?_
  refine lv_iload_n hx hb dX4_isIn_1 rfl (lv_at hl 0 rfl) ?_
  refine lv_ishr hx hb dX4_isIn_2 ?_
  refine lv_iconst (v := 1) hx hb dX4_isIn_3 (by decide) ?_
  refine lv_iand hx hb dX4_isIn_4 ?_
  refine lv_iconst (v := 1) hx hb dX4_isIn_5 (by decide) ?_
  refine lv_icmp_ne (tgt := 13) hx hb dX4_isIn_6 (by decide) (fun c6 => ?_) (fun c6 => ?_)
  · skip
    refine lv_iconst (v := 0) hx hb dX4_isIn_13 (by decide) ?_
    exact r_z C hr hlk (by first | exact Or.inl rfl | exact Or.inr rfl | exact bI_or _) (bif0 (by simp only [hasB, decide_eq_false_iff_not]; exact c6)) dX4_isIn_14
  · skip
    refine lv_iconst (v := 1) hx hb dX4_isIn_9 (by decide) ?_
    refine lv_goto (tgt := 14) hx hb dX4_isIn_10 (by decide) ?_
    exact r_z C hr hlk (by first | exact Or.inl rfl | exact Or.inr rfl | exact bI_or _) (bit1 (by simp only [hasB, decide_eq_true_eq]; exact c6)) dX4_isIn_14
set_option maxHeartbeats 4000000 in
set_option maxRecDepth 100000 in
theorem c4_remainder (l : Launch) (g : GG) (x y : Int32) (hy : ¬ y = 0) : Met l yX4_remainder (.code yX4_remainder cX4_remainder 2 (some .int) :: wsL_law) ({ frames := 0, cells := 0, slots := 0, locals := 0 } : Room) (mP g [.int (x), .int (y)] (fun _ => True)) (vp_Si (fun z => z = jrem x y)) 0 0 ((fun _ => False)) := by
  refine mMet (by decide) (Nat.le_of_ble_eq_true rfl) ?_
  intro p e s m below meth c C hr hlk hnm hP ls hl
  have hx := C.1.1
  have hb := C.1.2.1
  have hl : lv_has ls 2 [(0, .int (x)), (1, .int (y))] := hl
  refine lv_iload_n hx hb dX4_remainder_0 rfl (lv_at hl 1 rfl) ?_
  refine lv_if_ne (tgt := 8) hx hb dX4_remainder_1 (by decide) (fun c1 => ?_) (fun c1 => by exfalso; exact absurd (by assumption) hy)
  refine lv_iload_n hx hb dX4_remainder_8 rfl (lv_at hl 0 rfl) ?_
  refine lv_iload_n hx hb dX4_remainder_9 rfl (lv_at hl 1 rfl) ?_
  refine lv_irem hx hb dX4_remainder_10 (hy) ?_
  exact r_i C hr hlk (rfl) dX4_remainder_11

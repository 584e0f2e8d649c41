/-! the class's words, undo, tape, roads -/
section CC
variable {X : az_X} {d : Nat} {mem : az_M} {Q : Option az_V → az_M → Prop} {N T C : Nat}
theorem s_X7_word {p v : Int32} {wd : Nat} (hn : mem 1 0 = nI N) (hN : N ≤ 16) (hw : mem 1 6 = nI wd) (hw2 : wd < 65536) (hH : zc_H mem T C) (hZ : zc_Z mem 1) (hQ0 : ¬ ((0 ≤ p ∧ p < nI N) ∧ wd.testBit p.toNatClampNeg = false) → Q (some (.inl (-1))) mem) (hQ1 : ((0 ≤ p ∧ p < nI N) ∧ wd.testBit p.toNatClampNeg = false) → ∀ m', zc_act T C mem m' → m' 1 = upd (mem 1) 6 (nI (wd ||| 2 ^ p.toNatClampNeg)) → m' 6 = upd (mem 6) p.toNatClampNeg v → (∀ k, 2 ≤ k → k ≤ 5 → m' k = mem k) → Q (some (.inl (nI (zn_pc (wd ||| 2 ^ p.toNatClampNeg))))) m') : az_Sp X (d + 5) mX7_word [.inr 0, .inl p, .inl v] mem Q := by
  refine az_body (by decide +kernel) (Nat.le_of_ble_eq_true rfl) ?_
  show az_Ev X _ mX7_word 0 [some (.inr 0), some (.inl p), some (.inl v)] [] mem Q
  refine az_aloadn dX7_word_0 rfl ?_
  refine az_getr dX7_word_1 flX7_12 sh_0 rfl ?_
  refine az_iloadn dX7_word_4 rfl ?_
  refine az_inv1 (N := mX2_isPost) dX7_word_5 lkX7_80 okX2_isPost sh_1 rfl (Nat.le_of_ble_eq_true rfl) ?_
  refine s_X2_isPost ?_
  rw [hn]
  try dsimp only [az_ps]
  refine az_ifeq (t := 22) dX7_word_8 (by decide) (fun h8 => ?_) (fun h8 => ?_)
  · replace h8 := zb_z h8
    have hq := hQ0 (fun h => h8 h.1)
    refine az_iconst (v := -1) dX7_word_22 (by decide) ?_
    refine az_iret dX7_word_23 rfl ?_
    exact hq
  · replace h8 := zb_n h8
    have hq0 := hQ0
    obtain ⟨P, hP, rfl⟩ := zi_ex (by omega) h8
    rw [nI_clamp (by omega)] at hQ0 hQ1
    have hor : wd ||| 2 ^ P < 65536 := Nat.or_lt_two_pow (n := 16) hw2 (Nat.pow_lt_pow_right (by decide) (by omega))
    refine az_aloadn dX7_word_11 rfl ?_
    refine az_getr dX7_word_12 flX7_12 sh_0 rfl ?_
    refine az_iloadn dX7_word_15 rfl ?_
    refine az_inv1 (N := mX2_hasWord) dX7_word_16 lkX7_198 okX2_hasWord sh_1 rfl (Nat.le_of_ble_eq_true rfl) ?_
    refine s_X2_hasWord ?_
    rw [hw]
    try dsimp only [az_ps]
    refine az_ifeq (t := 24) dX7_word_19 (by decide) (fun h19 => ?_) (fun h19 => ?_)
    · replace h19 := zb_z h19
      rw [zb_bit1 (by omega) (by omega)] at h19
      have hQ1 := hQ1 ⟨h8, by simpa using h19⟩
      refine az_aloadn dX7_word_24 rfl ?_
      refine az_inv0 (N := mX7_beforeAct) dX7_word_25 lkX7_69 okX7_beforeAct sh_0 rfl (Nat.le_of_ble_eq_true rfl) ?_
      refine s_X7_beforeAct hH hZ (fun m1 hA => ?_)
      have e1 : m1 1 = mem 1 := zc_net_of hA (by omega)
      try dsimp only [az_ps]
      refine az_aloadn dX7_word_28 rfl ?_
      refine az_getr dX7_word_29 flX7_12 sh_0 rfl ?_
      refine az_dup dX7_word_32 ?_
      refine az_geti dX7_word_33 flX7_201 sh_1 rfl ?_
      refine az_iconst (v := 1) dX7_word_36 (by decide) ?_
      refine az_iloadn dX7_word_37 rfl ?_
      refine az_ishl dX7_word_38 ?_
      refine az_ior dX7_word_39 ?_
      rw [e1, hw, zb_shl1 P (by omega), fa_or]
      refine az_puti dX7_word_40 plX7_201 sh_1 rfl ?_
      refine az_aloadn dX7_word_43 rfl ?_
      refine az_getr dX7_word_44 flX7_12 sh_0 rfl ?_
      refine az_pc 47 (by decide) ?_
      refine az_getr dX7_word_47 flX7_204 sh_1 rfl ?_
      refine az_iloadn dX7_word_50 rfl ?_
      refine az_iloadn dX7_word_51 rfl ?_
      refine az_iast (P) dX7_word_52 sh_6 (by omega) (by decide) (by simp only [az_lit, nI_add, pk_mul, Nat.add_assoc]) ?_
      refine az_aloadn dX7_word_53 rfl ?_
      refine az_getr dX7_word_54 flX7_12 sh_0 rfl ?_
      refine az_geti dX7_word_57 flX7_201 sh_1 rfl ?_
      rw [az_w_ne _ (by decide), az_w_eq, if_pos ⟨rfl, rfl⟩]
      refine az_ins1 (N := mJ6_bitCount_0f7a4) dX7_word_60 lsX7_141 okJ6_bitCount_0f7a4 (Nat.le_of_ble_eq_true rfl) ?_
      refine s_bitCount hor ?_
      try dsimp only [az_ps]
      refine az_iret dX7_word_63 rfl ?_
      exact hQ1 _ ⟨m1, hA, fun k hk => by rw [az_w_ne _ (by omega), az_w_ne _ (by omega)]⟩ (by rw [az_w_ne _ (by decide), az_w_same, e1]) (by rw [az_w_same, az_w_ne _ (by decide), zc_net_of hA (by omega)]) (fun k k1 k2 => by rw [az_w_ne _ (by omega), az_w_ne _ (by omega)]; exact zc_net_of hA (by omega))
    · replace h19 := zb_n h19
      rw [zb_bit1 (by omega) (by omega)] at h19
      have hq := hQ0 (fun h => by rw [h19] at h; cases h.2)
      refine az_iconst (v := -1) dX7_word_22 (by decide) ?_
      refine az_iret dX7_word_23 rfl ?_
      exact hq
theorem s_X7_clear {wd : Nat} (hw : mem 1 6 = nI wd) (hw2 : wd < 65536) (hH : zc_H mem T C) (hZ : zc_Z mem 1) (hQ1 : ∀ m', zc_act T C mem m' → m' 1 = upd (mem 1) 6 0 → (∀ k, 2 ≤ k → k ≤ 6 → m' k = mem k) → Q (some (.inl (nI (zn_pc wd)))) m') : az_Sp X (d + 5) mX7_clear [.inr 0] mem Q := by
  refine az_body (by decide +kernel) (Nat.le_of_ble_eq_true rfl) ?_
  show az_Ev X _ mX7_clear 0 [some (.inr 0), none] [] mem Q
  refine az_aloadn dX7_clear_0 rfl ?_
  refine az_getr dX7_clear_1 flX7_12 sh_0 rfl ?_
  refine az_geti dX7_clear_4 flX7_201 sh_1 rfl ?_
  rw [hw]
  refine az_ins1 (N := mJ6_bitCount_0f7a4) dX7_clear_7 lsX7_141 okJ6_bitCount_0f7a4 (Nat.le_of_ble_eq_true rfl) ?_
  refine s_bitCount hw2 ?_
  try dsimp only [az_ps]
  refine az_istoren dX7_clear_10 (by decide) ?_
  dsimp only [List.set]
  refine az_aloadn dX7_clear_11 rfl ?_
  refine az_inv0 (N := mX7_beforeAct) dX7_clear_12 lkX7_69 okX7_beforeAct sh_0 rfl (Nat.le_of_ble_eq_true rfl) ?_
  refine s_X7_beforeAct hH hZ (fun m1 hA => ?_)
  try dsimp only [az_ps]
  refine az_aloadn dX7_clear_15 rfl ?_
  refine az_getr dX7_clear_16 flX7_12 sh_0 rfl ?_
  refine az_iconst (v := 0) dX7_clear_19 (by decide) ?_
  refine az_puti dX7_clear_20 plX7_201 sh_1 rfl ?_
  refine az_iloadn dX7_clear_23 rfl ?_
  refine az_iret dX7_clear_24 rfl ?_
  exact hQ1 _ ⟨m1, hA, fun k hk => by rw [az_w_ne _ (by omega)]⟩ (by rw [az_w_same, zc_net_of hA (by omega)]) (fun k k1 k2 => by rw [az_w_ne _ (by omega)]; exact zc_net_of hA (by omega))
theorem s_X7_undo {n : Int32} {K : Nat} (hH : zc_H mem T C) (hK : (0 ≤ n ∧ n ≤ nI C) → n = nI K) (hK2 : K ≤ C) (hZ : zc_Z mem (9 + 6 * ((T + 60 - K) % 60))) (hQ0 : ¬ (0 ≤ n ∧ n ≤ nI C) → Q (some (.inl (-1))) mem) (hQz : (0 ≤ n ∧ n ≤ nI C) → K = 0 → Q (some (.inl n)) mem)
    (hQ1 : (0 ≤ n ∧ n ≤ nI C) → 0 < K → ∀ m', (∀ k, k ≠ 0 → k ≠ 7 → (k < 1 ∨ 7 ≤ k) → m' k = mem k) → (∀ j, m' 0 j = if j = 7 then 1 else mem 0 j) → (∀ j, m' 7 j = if j = 1 then nI ((T + 60 - K) % 60) else if j = 2 then nI (C - K) else mem 7 j) → zc_as 1 (9 + 6 * ((T + 60 - K) % 60)) mem m' → Q (some (.inl n)) m') : az_Sp X (d + 4) mX7_undo [.inr 0, .inl n] mem Q := by
  have hc60 := hH.2.2.2
  refine az_body (by decide +kernel) (Nat.le_of_ble_eq_true rfl) ?_
  show az_Ev X _ mX7_undo 0 [some (.inr 0), some (.inl n)] [] mem Q
  refine az_iloadn dX7_undo_0 rfl ?_
  refine az_iflt (t := 15) dX7_undo_1 (by decide) (fun h1 => ?_) (fun h1 => ?_)
  · have hq := hQ0 (fun h => absurd h1 (Int32.not_lt.mpr h.1))
    refine az_iconst (v := -1) dX7_undo_15 (by decide) ?_
    refine az_iret dX7_undo_16 rfl ?_
    exact hq
  · refine az_iloadn dX7_undo_4 rfl ?_
    refine az_aloadn dX7_undo_5 rfl ?_
    refine az_getr dX7_undo_6 flX7_19 sh_0 rfl ?_
    refine az_geti dX7_undo_9 flX7_236 sh_7 rfl ?_
    rw [hH.2.2.1]
    refine az_icmple (t := 17) dX7_undo_12 (by decide) (fun h12 => ?_) (fun h12 => ?_)
    · have hv : 0 ≤ n ∧ n ≤ nI C := ⟨Int32.not_lt.mp h1, h12⟩
      have hQ1 := hQ1 hv
      have hQz := hQz hv
      have eK := hK hv
      subst eK
      refine az_iloadn dX7_undo_17 rfl ?_
      refine az_ifle (t := 38) dX7_undo_18 (by decide) (fun h18 => ?_) (fun h18 => ?_)
      · have hq : Q (some (.inl (nI K))) mem := hQz (by rcases Nat.eq_zero_or_pos K with q | q; exact q; exact absurd h18 (nI_nle q (by omega)))
        refine az_iloadn dX7_undo_38 rfl ?_
        refine az_iret dX7_undo_39 rfl ?_
        exact hq
      · have h0 : 0 < K := by rcases Nat.eq_zero_or_pos K with q | q; exact absurd (by rw [q]; decide) h18; exact q
        refine az_aloadn dX7_undo_21 rfl ?_
        refine az_getr dX7_undo_22 flX7_19 sh_0 rfl ?_
        refine az_aloadn dX7_undo_25 rfl ?_
        refine az_getr dX7_undo_26 flX7_12 sh_0 rfl ?_
        refine az_iloadn dX7_undo_29 rfl ?_
        refine az_inv2 (N := mX3_goBack) dX7_undo_30 lkX7_237 okX3_goBack sh_7 rfl (Nat.le_of_ble_eq_true rfl) ?_
        refine s_X3_goBack hH hK2 hZ (fun m1 f1 g1 a1 => ?_)
        have hq : Q (some (.inl (nI K))) (az_w m1 0 7 1) := by
          refine hQ1 h0 _ (fun k k0 k7 hk => by rw [az_w_ne _ k0]; exact f1 k k7 hk) (fun j => by rw [az_w_same, zm_upd_eq, f1 0 (by decide) (by omega)]) (fun j => by rw [az_w_ne _ (by decide)]; exact g1 j) ?_
          obtain ⟨x1, x2, x3⟩ := a1
          exact ⟨fun j hj => by rw [az_w_ne _ (by decide)]; exact x1 j hj, fun i hi => by rw [az_w_ne _ (by decide)]; exact x2 i hi, fun q i y1 y2 y3 => by rw [az_w_ne _ (by omega)]; exact x3 q i y1 y2 y3⟩
        try dsimp only [az_ps]
        refine az_aloadn dX7_undo_33 rfl ?_
        refine az_iconst (v := 1) dX7_undo_34 (by decide) ?_
        refine az_putz dX7_undo_35 plX7_58 sh_0 rfl (by first | exact Or.inl rfl | exact Or.inr rfl | assumption) ?_
        refine az_iloadn dX7_undo_38 rfl ?_
        refine az_iret dX7_undo_39 rfl ?_
        exact hq
    · have hq := hQ0 (fun h => h12 h.2)
      refine az_iconst (v := -1) dX7_undo_15 (by decide) ?_
      refine az_iret dX7_undo_16 rfl ?_
      exact hq
theorem s_X6_hasRoomFor {m : Int32} (hQ : Q (some (.inl (if mem 369 1 + m ≤ 400 then 1 else 0))) mem) : az_Sp X d mX6_hasRoomFor [.inr 369, .inl m] mem Q := by
  refine az_body (by decide +kernel) (Nat.le_of_ble_eq_true rfl) ?_
  show az_Ev X _ mX6_hasRoomFor 0 [some (.inr 369), some (.inl m)] [] mem Q
  refine az_aloadn dX6_hasRoomFor_0 rfl ?_
  refine az_geti dX6_hasRoomFor_1 flX6_15 sh_369 rfl ?_
  refine az_iloadn dX6_hasRoomFor_4 rfl ?_
  refine az_iadd dX6_hasRoomFor_5 ?_
  refine az_sipush (v := 400) dX6_hasRoomFor_6 (by decide) ?_
  refine az_icmpgt (t := 16) dX6_hasRoomFor_9 (by decide) (fun h9 => ?_) (fun h9 => ?_)
  · rw [if_neg (fun h => absurd h9 (Int32.not_lt.mpr h))] at hQ
    refine az_iconst (v := 0) dX6_hasRoomFor_16 (by decide) ?_
    refine az_zret dX6_hasRoomFor_17 rfl (by first | exact Or.inl rfl | exact Or.inr rfl | assumption) ?_
    exact hQ
  · rw [if_pos (Int32.not_lt.mp h9)] at hQ
    refine az_iconst (v := 1) dX6_hasRoomFor_12 (by decide) ?_
    refine az_goto (t := 17) dX6_hasRoomFor_13 (by decide) ?_
    refine az_zret dX6_hasRoomFor_17 rfl (by first | exact Or.inl rfl | exact Or.inr rfl | assumption) ?_
    exact hQ
theorem x_tf1 {v : Int32} {k U : Nat} (hk : k ≤ 24) (hU : mem 369 1 = nI U) (hU2 : U < 400) (ih : az_Ev X d mX6_takeFour 3 [some (.inr 369), some (.inl v), some (.inl (nI k + (-8)))] [] (az_w (az_w mem 370 U ((v >>> (nI k &&& 31)) &&& 255)) 369 1 (nI (U + 1))) Q) : az_Ev X d mX6_takeFour 3 [some (.inr 369), some (.inl v), some (.inl (nI k))] [] mem Q := by
  refine az_iloadn dX6_takeFour_3 rfl ?_
  refine az_iflt (t := 49) dX6_takeFour_4 (by decide) (fun h4 => ?_) (fun h4 => ?_)
  · exact absurd h4 (nI_pos (by omega))
  refine az_aloadn dX6_takeFour_7 rfl ?_
  refine az_geti dX6_takeFour_8 flX6_15 sh_369 rfl ?_
  refine az_sipush (v := 400) dX6_takeFour_11 (by decide) ?_
  rw [hU]
  refine az_icmpge (t := 49) dX6_takeFour_14 (by decide) (fun h14 => ?_) (fun h14 => ?_)
  · exact absurd h14 (nI_ge (b := 400) hU2 (by decide))
  refine az_aloadn dX6_takeFour_17 rfl ?_
  refine az_getr dX6_takeFour_18 flX6_9 sh_369 rfl ?_
  refine az_aloadn dX6_takeFour_21 rfl ?_
  refine az_geti dX6_takeFour_22 flX6_15 sh_369 rfl ?_
  refine az_iloadn dX6_takeFour_25 rfl ?_
  refine az_iloadn dX6_takeFour_26 rfl ?_
  refine az_iushr dX6_takeFour_27 ?_
  refine az_pc 28 (by decide) ?_
  refine az_sipush (v := 255) dX6_takeFour_28 (by decide) ?_
  refine az_iand dX6_takeFour_31 ?_
  rw [zy_ush v hk]
  refine az_iast (U) dX6_takeFour_32 sh_370 (by omega) (by decide) hU ?_
  refine az_aloadn dX6_takeFour_33 rfl ?_
  refine az_dup dX6_takeFour_34 ?_
  refine az_geti dX6_takeFour_35 flX6_15 sh_369 rfl ?_
  refine az_iconst (v := 1) dX6_takeFour_38 (by decide) ?_
  refine az_iadd dX6_takeFour_39 ?_
  refine az_puti dX6_takeFour_40 plX6_15 sh_369 rfl ?_
  refine az_iinc (w := -8) dX6_takeFour_43 rfl (by decide) (by decide) ?_
  dsimp only [List.set]
  refine az_goto (t := 3) dX6_takeFour_46 (by decide) ?_
  rw [az_w_ne _ (by decide), hU, nI_1]
  exact ih
theorem s_X6_takeFour {v : Int32} {U : Nat} (hU : mem 369 1 = nI U) (hU2 : U + 4 ≤ 400) (hQ : ∀ m', (∀ k, k ≠ 369 → k ≠ 370 → m' k = mem k) → (∀ j, m' 369 j = if j = 1 then nI (U + 4) else mem 369 j) → (∀ i, m' 370 i = if U ≤ i ∧ i < U + 4 then zy_byte v (i - U) else mem 370 i) → Q none m') : az_Sp X d mX6_takeFour [.inr 369, .inl v] mem Q := by
  refine az_body (by decide +kernel) (Nat.le_of_ble_eq_true rfl) ?_
  show az_Ev X _ mX6_takeFour 0 [some (.inr 369), some (.inl v), none] [] mem Q
  refine az_bipush (v := 24) dX6_takeFour_0 (by decide) ?_
  refine az_istoren dX6_takeFour_2 (by decide) ?_
  dsimp only [List.set]
  skip
  refine x_tf1 (k := 24) (U := U) (by decide) hU (by omega) ?_
  rw [show nI 24 + (-8 : Int32) = nI 16 by decide]
  refine x_tf1 (k := 16) (U := U + 1) (by decide) (by rw [az_w_same, upd_eq]) (by omega) ?_
  rw [show nI 16 + (-8 : Int32) = nI 8 by decide]
  refine x_tf1 (k := 8) (U := U + 2) (by decide) (by rw [az_w_same, upd_eq]) (by omega) ?_
  rw [show nI 8 + (-8 : Int32) = nI 0 by decide]
  refine x_tf1 (k := 0) (U := U + 3) (by decide) (by rw [az_w_same, upd_eq]) (by omega) ?_
  refine az_iloadn dX6_takeFour_3 rfl ?_
  refine az_iflt (t := 49) dX6_takeFour_4 (by decide) (fun h4 => ?_) (fun h4 => ?_)
  rotate_left 1
  · exact absurd (by decide) h4
  refine az_vret dX6_takeFour_49 rfl ?_
  refine hQ _ (fun k k1 k2 => ?_) (fun j => ?_) (fun i => ?_)
  · rw [az_w_ne _ k1, az_w_ne _ k2, az_w_ne _ k1, az_w_ne _ k2, az_w_ne _ k1, az_w_ne _ k2, az_w_ne _ k1, az_w_ne _ k2]
  · simp only [az_w_eq]
    by_cases hj : j = 1
    · simp [hj]
    · simp [hj]
  · simp only [az_w_eq]
    by_cases c0 : i = U
    · subst c0; simp [zy_byte]
    · by_cases c1 : i = U + 1
      · subst c1; simp [zy_byte]
      · by_cases c2 : i = U + 2
        · subst c2; simp [zy_byte]
        · by_cases c3 : i = U + 3
          · subst c3; simp [zy_byte]
          · rw [if_neg (by omega), if_neg (by omega), if_neg (by omega), if_neg (by omega), if_neg (by omega), if_neg (by omega), if_neg (by omega), if_neg (by omega), if_neg (by omega)]
theorem s_X7_feed {a b c d' e : Int32} {U : Nat} (hU : mem 369 1 = nI U) (hU2 : U ≤ 400) (hQ0 : ¬ U + 20 ≤ 400 → Q (some (.inl (-1))) mem) (hQ1 : U + 20 ≤ 400 → ∀ m', (∀ k, k ≠ 369 → k ≠ 370 → m' k = mem k) → (∀ j, m' 369 j = if j = 1 then nI (U + 20) else mem 369 j) → (∀ i, m' 370 i = if U ≤ i ∧ i < U + 20 then zy_byte (zy_arg a b c d' e ((i - U) / 4)) ((i - U) % 4) else mem 370 i) → Q (some (.inl (nI (U + 20)))) m') : az_Sp X (d + 1) mX7_feed [.inr 0, .inl a, .inl b, .inl c, .inl d', .inl e] mem Q := by
  refine az_body (by decide +kernel) (Nat.le_of_ble_eq_true rfl) ?_
  show az_Ev X _ mX7_feed 0 [some (.inr 0), some (.inl a), some (.inl b), some (.inl c), some (.inl d'), some (.inl e)] [] mem Q
  refine az_aloadn dX7_feed_0 rfl ?_
  refine az_getr dX7_feed_1 flX7_26 sh_0 rfl ?_
  refine az_bipush (v := 20) dX7_feed_4 (by decide) ?_
  refine az_inv1 (N := mX6_hasRoomFor) dX7_feed_6 lkX7_88 okX6_hasRoomFor sh_369 rfl (Nat.le_of_ble_eq_true rfl) ?_
  refine s_X6_hasRoomFor ?_
  rw [hU, show nI U + 20 = nI (U + 20) from nI_add U 20]
  try dsimp only [az_ps]
  refine az_ifne (t := 14) dX7_feed_9 (by decide) (fun h9 => ?_) (fun h9 => ?_)
  · replace h9 := zb_n h9
    have h20 : U + 20 ≤ 400 := (nI_leI (a := U + 20) (b := 400) (by omega) (by decide)).mp h9
    refine az_aloadn dX7_feed_14 rfl ?_
    refine az_getr dX7_feed_15 flX7_26 sh_0 rfl ?_
    refine az_iloadn dX7_feed_18 rfl ?_
    refine az_inv1 (N := mX6_takeFour) dX7_feed_19 lkX7_91 okX6_takeFour sh_369 rfl (Nat.le_of_ble_eq_true rfl) ?_
    refine s_X6_takeFour hU (by omega) (fun m1 f1 g1 t1 => ?_)
    try dsimp only [az_ps]
    refine az_aloadn dX7_feed_22 rfl ?_
    refine az_getr dX7_feed_23 flX7_26 sh_0 rfl ?_
    refine az_iloadn dX7_feed_26 rfl ?_
    refine az_inv1 (N := mX6_takeFour) dX7_feed_27 lkX7_91 okX6_takeFour sh_369 rfl (Nat.le_of_ble_eq_true rfl) ?_
    refine s_X6_takeFour (U := U + 4) (by rw [g1, if_pos rfl]) (by omega) (fun m2 f2 g2 t2 => ?_)
    try dsimp only [az_ps]
    refine az_aloadn dX7_feed_30 rfl ?_
    refine az_getr dX7_feed_31 flX7_26 sh_0 rfl ?_
    refine az_iloadn dX7_feed_34 rfl ?_
    refine az_inv1 (N := mX6_takeFour) dX7_feed_35 lkX7_91 okX6_takeFour sh_369 rfl (Nat.le_of_ble_eq_true rfl) ?_
    refine s_X6_takeFour (U := U + 8) (by rw [g2, if_pos rfl]) (by omega) (fun m3 f3 g3 t3 => ?_)
    try dsimp only [az_ps]
    refine az_aloadn dX7_feed_38 rfl ?_
    refine az_pc 39 (by decide) ?_
    refine az_getr dX7_feed_39 flX7_26 sh_0 rfl ?_
    refine az_iload dX7_feed_42 rfl ?_
    refine az_inv1 (N := mX6_takeFour) dX7_feed_44 lkX7_91 okX6_takeFour sh_369 rfl (Nat.le_of_ble_eq_true rfl) ?_
    refine s_X6_takeFour (U := U + 12) (by rw [g3, if_pos rfl]) (by omega) (fun m4 f4 g4 t4 => ?_)
    try dsimp only [az_ps]
    refine az_aloadn dX7_feed_47 rfl ?_
    refine az_getr dX7_feed_48 flX7_26 sh_0 rfl ?_
    refine az_iload dX7_feed_51 rfl ?_
    refine az_inv1 (N := mX6_takeFour) dX7_feed_53 lkX7_91 okX6_takeFour sh_369 rfl (Nat.le_of_ble_eq_true rfl) ?_
    refine s_X6_takeFour (U := U + 16) (by rw [g4, if_pos rfl]) (by omega) (fun m5 f5 g5 t5 => ?_)
    try dsimp only [az_ps]
    refine az_aloadn dX7_feed_56 rfl ?_
    refine az_getr dX7_feed_57 flX7_26 sh_0 rfl ?_
    refine az_geti dX7_feed_60 flX7_95 sh_369 rfl ?_
    rw [g5, if_pos rfl]
    refine az_iret dX7_feed_63 rfl ?_
    refine hQ1 h20 m5 (fun k k1 k2 => by rw [f5 k k1 k2, f4 k k1 k2, f3 k k1 k2, f2 k k1 k2, f1 k k1 k2]) (fun j => ?_) (fun i => ?_)
    · rw [g5]
      by_cases hj : j = 1
      · rw [if_pos hj, if_pos hj]
      · rw [if_neg hj, if_neg hj, g4, if_neg hj, g3, if_neg hj, g2, if_neg hj, g1, if_neg hj]
    · rw [t5, t4, t3, t2, t1]
      by_cases c5 : U + 16 ≤ i ∧ i < U + 16 + 4
      · rw [if_pos c5, if_pos (by omega), show (i - U) / 4 = 4 by omega, show (i - U) % 4 = i - (U + 16) by omega]; rfl
      · by_cases c4 : U + 12 ≤ i ∧ i < U + 12 + 4
        · rw [if_neg c5, if_pos c4, if_pos (by omega), show (i - U) / 4 = 3 by omega, show (i - U) % 4 = i - (U + 12) by omega]; rfl
        · by_cases c3 : U + 8 ≤ i ∧ i < U + 8 + 4
          · rw [if_neg c5, if_neg c4, if_pos c3, if_pos (by omega), show (i - U) / 4 = 2 by omega, show (i - U) % 4 = i - (U + 8) by omega]; rfl
          · by_cases c2 : U + 4 ≤ i ∧ i < U + 4 + 4
            · rw [if_neg c5, if_neg c4, if_neg c3, if_pos c2, if_pos (by omega), show (i - U) / 4 = 1 by omega, show (i - U) % 4 = i - (U + 4) by omega]; rfl
            · by_cases c1 : U ≤ i ∧ i < U + 4
              · rw [if_neg c5, if_neg c4, if_neg c3, if_neg c2, if_pos c1, if_pos (by omega), show (i - U) / 4 = 0 by omega, show (i - U) % 4 = i - U by omega]; rfl
              · rw [if_neg c5, if_neg c4, if_neg c3, if_neg c2, if_neg c1, if_neg (by omega)]
  · replace h9 := zb_z h9
    have hq := hQ0 (fun h => h9 (nI_le (a := U + 20) (b := 400) h (by decide)))
    refine az_iconst (v := -1) dX7_feed_12 (by decide) ?_
    refine az_iret dX7_feed_13 rfl ?_
    exact hq
theorem s_X6_byteAt {i U : Nat} (hU : mem 369 1 = nI U) (hU2 : U ≤ 400) (hi : i < U) (hQ : Q (some (.inl (mem 370 i))) mem) : az_Sp X d mX6_byteAt [.inr 369, .inl (nI i)] mem Q := by
  refine az_body (by decide +kernel) (Nat.le_of_ble_eq_true rfl) ?_
  show az_Ev X _ mX6_byteAt 0 [some (.inr 369), some (.inl (nI i))] [] mem Q
  refine az_iloadn dX6_byteAt_0 rfl ?_
  refine az_iflt (t := 21) dX6_byteAt_1 (by decide) (fun h1 => ?_) (fun h1 => ?_)
  · exact absurd h1 (nI_pos (by omega))
  refine az_iloadn dX6_byteAt_4 rfl ?_
  refine az_aloadn dX6_byteAt_5 rfl ?_
  refine az_geti dX6_byteAt_6 flX6_15 sh_369 rfl ?_
  rw [hU]
  refine az_icmpge (t := 21) dX6_byteAt_9 (by decide) (fun h9 => ?_) (fun h9 => ?_)
  · exact absurd h9 (nI_ge hi (by omega))
  refine az_aloadn dX6_byteAt_12 rfl ?_
  refine az_getr dX6_byteAt_13 flX6_9 sh_369 rfl ?_
  refine az_iloadn dX6_byteAt_16 rfl ?_
  refine az_iald (i) dX6_byteAt_17 sh_370 (by omega) (by decide) (by simp only [az_lit, nI_add, pk_mul, Nat.add_assoc]) ?_
  refine az_goto (t := 22) dX6_byteAt_18 (by decide) ?_
  refine az_iret dX6_byteAt_22 rfl ?_
  exact hQ
end CC

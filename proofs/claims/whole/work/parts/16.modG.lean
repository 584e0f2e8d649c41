/-! the model's acts, second half; tape; undo -/
theorem zF_act0 {mem m1 m2 : az_M} {N t c : Nat} (hN : N ≤ 16) (hF : zF mem N) (hA : zm_act0 t c mem m1) (hk : ∀ k, k ≠ 392 → m2 k = m1 k) (h1 : m2 392 1 = mem 392 1) (h2 : m2 392 2 = mem 392 2) (hl : ∀ i, i < 256 → m2 392 (7 + i) = mem 392 (7 + i)) (hr : ∀ i, i < 16 → m2 392 (263 + i) = mem 392 (263 + i)) : zF m2 N :=
  zF_keep hN hF (by rw [hk 395 (by decide), hA.1 395 (by decide) (by decide)]) (by rw [hk 396 (by decide), hA.1 396 (by decide) (by decide)]) h1 h2 hl hr
def zy_byte (v : Int32) (j : Nat) : Int32 := (v >>> (nI (24 - 8 * j) &&& 31)) &&& 255
section MG
variable {X : az_X} {d : Nat} {mem : az_M} {Q : Option az_V → az_M → Prop} {N t c : Nat}
theorem s_X8_may {f l : Int32} (hl : l = 0 ∨ l = 1) (hn : mem 392 0 = nI N) (hN : N ≤ 16) (hH : zm_H mem t c) (hF : zF mem N) (hQ0 : ¬ (0 ≤ f ∧ f ≤ 3) → Q (some (.inl (-1))) mem) (hQ1 : (0 ≤ f ∧ f ≤ 3) → ∀ m', zm_act t c mem m' → m' 392 = upd (upd (mem 392) 3 f) 4 l → zF m' N → Q (some (.inl (zm_need f l))) m') : az_Sp X (d + 2) mX8_may [.inr 391, .inl f, .inl l] mem Q := by
  refine az_body (by decide +kernel) (Nat.le_of_ble_eq_true rfl) ?_
  show az_Ev X _ mX8_may 0 [some (.inr 391), some (.inl f), some (.inl l)] [] mem Q
  refine az_iloadn dX8_may_0 rfl ?_
  refine az_iflt (t := 9) dX8_may_1 (by decide) (fun h1 => ?_) (fun h1 => ?_)
  · have hq := hQ0 (fun h => absurd h1 (Int32.not_lt.mpr h.1))
    refine az_iconst (v := -1) dX8_may_9 (by decide) ?_
    refine az_iret dX8_may_10 rfl ?_
    exact hq
  · refine az_iloadn dX8_may_4 rfl ?_
    refine az_iconst (v := 3) dX8_may_5 (by decide) ?_
    refine az_icmple (t := 11) dX8_may_6 (by decide) (fun h6 => ?_) (fun h6 => ?_)
    · have hQ1 := hQ1 ⟨Int32.not_lt.mp h1, h6⟩
      refine az_aloadn dX8_may_11 rfl ?_
      refine az_inv0 (N := mX8_act) dX8_may_12 lkX8_78 okX8_act sh_391 rfl (Nat.le_of_ble_eq_true rfl) ?_
      refine t_X8_act hH (fun m1 hA => ?_)
      have e2 : m1 392 = mem 392 := hA.1 392 (by decide) (by decide)
      try dsimp only [az_ps]
      refine az_aloadn dX8_may_15 rfl ?_
      refine az_getr dX8_may_16 flX8_7 sh_391 rfl ?_
      refine az_iconst (v := 3) dX8_may_19 (by decide) ?_
      refine az_iloadn dX8_may_20 rfl ?_
      refine az_iast (3) dX8_may_21 sh_392 (by omega) (by decide) (by simp only [az_lit, nI_add, pk_mul, Nat.add_assoc]) ?_
      refine az_aloadn dX8_may_22 rfl ?_
      refine az_getr dX8_may_23 flX8_7 sh_391 rfl ?_
      refine az_iconst (v := 4) dX8_may_26 (by decide) ?_
      refine az_iloadn dX8_may_27 rfl ?_
      refine az_ifeq (t := 35) dX8_may_28 (by decide) (fun h28 => ?_) (fun h28 => ?_)
      · subst h28
        refine az_iconst (v := 0) dX8_may_35 (by decide) ?_
        refine az_iast (4) dX8_may_36 sh_392 (by omega) (by decide) (by simp only [az_lit, nI_add, pk_mul, Nat.add_assoc]) ?_
        refine az_aloadn dX8_may_37 rfl ?_
        refine az_inv0 (N := mX8_need) dX8_may_38 lkX8_95 okX8_need sh_391 rfl (Nat.le_of_ble_eq_true rfl) ?_
        refine s_X8_need ?_
        rw [az_w_same, upd_ne (by decide), upd_eq, az_w_same, upd_eq]
        try dsimp only [az_ps]
        refine az_iret dX8_may_41 rfl ?_
        refine hQ1 _ ⟨m1, hA, fun k k1 k2 k3 => by rw [az_w_ne _ k1, az_w_ne _ k1]⟩ (by rw [az_w_same, az_w_same, e2]) (zF_act0 hN hF hA (fun k hk => by rw [az_w_ne _ hk, az_w_ne _ hk]) ?_ ?_ ?_ ?_)
        · rw [az_w_same, upd_ne (by omega), az_w_same, upd_ne (by omega), e2]
        · rw [az_w_same, upd_ne (by omega), az_w_same, upd_ne (by omega), e2]
        · exact fun i hi => by rw [az_w_same, upd_ne (by omega), az_w_same, upd_ne (by omega), e2]
        · exact fun i hi => by rw [az_w_same, upd_ne (by omega), az_w_same, upd_ne (by omega), e2]
      · have hl1 : l = 1 := hl.elim (fun h => absurd h h28) id
        subst hl1
        refine az_iconst (v := 1) dX8_may_31 (by decide) ?_
        refine az_goto (t := 36) dX8_may_32 (by decide) ?_
        refine az_iast (4) dX8_may_36 sh_392 (by omega) (by decide) (by simp only [az_lit, nI_add, pk_mul, Nat.add_assoc]) ?_
        refine az_aloadn dX8_may_37 rfl ?_
        refine az_inv0 (N := mX8_need) dX8_may_38 lkX8_95 okX8_need sh_391 rfl (Nat.le_of_ble_eq_true rfl) ?_
        refine s_X8_need ?_
        rw [az_w_same, upd_ne (by decide), upd_eq, az_w_same, upd_eq]
        try dsimp only [az_ps]
        refine az_iret dX8_may_41 rfl ?_
        refine hQ1 _ ⟨m1, hA, fun k k1 k2 k3 => by rw [az_w_ne _ k1, az_w_ne _ k1]⟩ (by rw [az_w_same, az_w_same, e2]) (zF_act0 hN hF hA (fun k hk => by rw [az_w_ne _ hk, az_w_ne _ hk]) ?_ ?_ ?_ ?_)
        · rw [az_w_same, upd_ne (by omega), az_w_same, upd_ne (by omega), e2]
        · rw [az_w_same, upd_ne (by omega), az_w_same, upd_ne (by omega), e2]
        · exact fun i hi => by rw [az_w_same, upd_ne (by omega), az_w_same, upd_ne (by omega), e2]
        · exact fun i hi => by rw [az_w_same, upd_ne (by omega), az_w_same, upd_ne (by omega), e2]
    · have hq := hQ0 (fun h => h6 h.2)
      refine az_iconst (v := -1) dX8_may_9 (by decide) ?_
      refine az_iret dX8_may_10 rfl ?_
      exact hq
theorem s_X8_want {l : Int32} (hl : l = 0 ∨ l = 1) (hn : mem 392 0 = nI N) (hN : N ≤ 16) (hH : zm_H mem t c) (hF : zF mem N) (hQ1 : ∀ m', zm_act t c mem m' → m' 392 = upd (mem 392) 5 l → zF m' N → Q none m') : az_Sp X (d + 2) mX8_want [.inr 391, .inl l] mem Q := by
  refine az_body (by decide +kernel) (Nat.le_of_ble_eq_true rfl) ?_
  show az_Ev X _ mX8_want 0 [some (.inr 391), some (.inl l)] [] mem Q
  refine az_aloadn dX8_want_0 rfl ?_
  refine az_inv0 (N := mX8_act) dX8_want_1 lkX8_78 okX8_act sh_391 rfl (Nat.le_of_ble_eq_true rfl) ?_
  refine t_X8_act hH (fun m1 hA => ?_)
  have e2 : m1 392 = mem 392 := hA.1 392 (by decide) (by decide)
  try dsimp only [az_ps]
  refine az_aloadn dX8_want_4 rfl ?_
  refine az_getr dX8_want_5 flX8_7 sh_391 rfl ?_
  refine az_iconst (v := 5) dX8_want_8 (by decide) ?_
  refine az_iloadn dX8_want_9 rfl ?_
  refine az_ifeq (t := 17) dX8_want_10 (by decide) (fun h10 => ?_) (fun h10 => ?_)
  · subst h10
    refine az_iconst (v := 0) dX8_want_17 (by decide) ?_
    refine az_iast (5) dX8_want_18 sh_392 (by omega) (by decide) (by simp only [az_lit, nI_add, pk_mul, Nat.add_assoc]) ?_
    refine az_vret dX8_want_19 rfl ?_
    refine hQ1 _ ⟨m1, hA, fun k k1 k2 k3 => by rw [az_w_ne _ k1]⟩ (by rw [az_w_same, e2]) (zF_act0 hN hF hA (fun k hk => by rw [az_w_ne _ hk]) ?_ ?_ ?_ ?_)
    · rw [az_w_same, upd_ne (by omega), e2]
    · rw [az_w_same, upd_ne (by omega), e2]
    · exact fun i hi => by rw [az_w_same, upd_ne (by omega), e2]
    · exact fun i hi => by rw [az_w_same, upd_ne (by omega), e2]
  · have hl1 : l = 1 := hl.elim (fun h => absurd h h10) id
    subst hl1
    refine az_iconst (v := 1) dX8_want_13 (by decide) ?_
    refine az_goto (t := 18) dX8_want_14 (by decide) ?_
    refine az_iast (5) dX8_want_18 sh_392 (by omega) (by decide) (by simp only [az_lit, nI_add, pk_mul, Nat.add_assoc]) ?_
    refine az_vret dX8_want_19 rfl ?_
    refine hQ1 _ ⟨m1, hA, fun k k1 k2 k3 => by rw [az_w_ne _ k1]⟩ (by rw [az_w_same, e2]) (zF_act0 hN hF hA (fun k hk => by rw [az_w_ne _ hk]) ?_ ?_ ?_ ?_)
    · rw [az_w_same, upd_ne (by omega), e2]
    · rw [az_w_same, upd_ne (by omega), e2]
    · exact fun i hi => by rw [az_w_same, upd_ne (by omega), e2]
    · exact fun i hi => by rw [az_w_same, upd_ne (by omega), e2]
theorem s_X8_word {p v : Int32} (hn : mem 392 0 = nI N) (hN : N ≤ 16) (hH : zm_H mem t c) (hF : zF mem N) (hQ0 : ¬ ((0 ≤ p ∧ p < nI N) ∧ mem 392 (311 + p.toNatClampNeg) ≠ 1) → Q (some (.inl (-1))) mem) (hQ1 : ((0 ≤ p ∧ p < nI N) ∧ mem 392 (311 + p.toNatClampNeg) ≠ 1) → ∀ m', zm_act t c mem m' → m' 392 = upd (upd (upd (mem 392) (311 + p.toNatClampNeg) 1) (327 + p.toNatClampNeg) v) 6 (mem 392 6 + 1) → zF m' N → Q (some (.inl (mem 392 6 + 1))) m') : az_Sp X (d + 2) mX8_word [.inr 391, .inl p, .inl v] mem Q := by
  refine az_body (by decide +kernel) (Nat.le_of_ble_eq_true rfl) ?_
  show az_Ev X _ mX8_word 0 [some (.inr 391), some (.inl p), some (.inl v)] [] mem Q
  refine az_aloadn dX8_word_0 rfl ?_
  refine az_iloadn dX8_word_1 rfl ?_
  refine az_inv1 (N := mX8_isPost) dX8_word_2 lkX8_66 okX8_isPost sh_391 rfl (Nat.le_of_ble_eq_true rfl) ?_
  refine s_X8_isPost ?_
  rw [hn]
  try dsimp only [az_ps]
  refine az_ifeq (t := 22) dX8_word_5 (by decide) (fun h5 => ?_) (fun h5 => ?_)
  · replace h5 := zb_z h5
    have hq := hQ0 (fun h => h5 h.1)
    refine az_iconst (v := -1) dX8_word_22 (by decide) ?_
    refine az_iret dX8_word_23 rfl ?_
    exact hq
  · replace h5 := zb_n h5
    have hq0 := hQ0
    obtain ⟨P, hP, rfl⟩ := zi_ex (by omega) h5
    rw [nI_clamp (by omega)] at hQ0 hQ1
    refine az_aloadn dX8_word_8 rfl ?_
    refine az_getr dX8_word_9 flX8_7 sh_391 rfl ?_
    refine az_sipush (v := 311) dX8_word_12 (by decide) ?_
    refine az_iloadn dX8_word_15 rfl ?_
    refine az_iadd dX8_word_16 ?_
    refine az_iald (311 + P) dX8_word_17 sh_392 (by omega) (by decide) (by simp only [az_lit, nI_add, pk_mul, Nat.add_assoc]) ?_
    refine az_iconst (v := 1) dX8_word_18 (by decide) ?_
    refine az_icmpne (t := 24) dX8_word_19 (by decide) (fun h19 => ?_) (fun h19 => ?_)
    · have hQ1 := hQ1 ⟨h5, h19⟩
      refine az_aloadn dX8_word_24 rfl ?_
      refine az_inv0 (N := mX8_act) dX8_word_25 lkX8_78 okX8_act sh_391 rfl (Nat.le_of_ble_eq_true rfl) ?_
      refine t_X8_act hH (fun m1 hA => ?_)
      have e2 : m1 392 = mem 392 := hA.1 392 (by decide) (by decide)
      try dsimp only [az_ps]
      refine az_aloadn dX8_word_28 rfl ?_
      refine az_getr dX8_word_29 flX8_7 sh_391 rfl ?_
      refine az_sipush (v := 311) dX8_word_32 (by decide) ?_
      refine az_iloadn dX8_word_35 rfl ?_
      refine az_iadd dX8_word_36 ?_
      refine az_iconst (v := 1) dX8_word_37 (by decide) ?_
      refine az_iast (311 + P) dX8_word_38 sh_392 (by omega) (by decide) (by simp only [az_lit, nI_add, pk_mul, Nat.add_assoc]) ?_
      refine az_aloadn dX8_word_39 rfl ?_
      refine az_getr dX8_word_40 flX8_7 sh_391 rfl ?_
      refine az_sipush (v := 327) dX8_word_43 (by decide) ?_
      refine az_iloadn dX8_word_46 rfl ?_
      refine az_iadd dX8_word_47 ?_
      refine az_iloadn dX8_word_48 rfl ?_
      refine az_iast (327 + P) dX8_word_49 sh_392 (by omega) (by decide) (by simp only [az_lit, nI_add, pk_mul, Nat.add_assoc]) ?_
      refine az_aloadn dX8_word_50 rfl ?_
      refine az_getr dX8_word_51 flX8_7 sh_391 rfl ?_
      refine az_bipush (v := 6) dX8_word_54 (by decide) ?_
      refine az_dup2 dX8_word_56 ?_
      refine az_iald (6) dX8_word_57 sh_392 (by omega) (by decide) (by simp only [az_lit, nI_add, pk_mul, Nat.add_assoc]) ?_
      rw [show az_w (az_w m1 392 (311 + P) 1) 392 (327 + P) v 392 6 = mem 392 6 by rw [az_w_same, upd_ne (by omega), az_w_same, upd_ne (by omega), e2]]
      refine az_iconst (v := 1) dX8_word_58 (by decide) ?_
      refine az_iadd dX8_word_59 ?_
      refine az_iast (6) dX8_word_60 sh_392 (by omega) (by decide) (by simp only [az_lit, nI_add, pk_mul, Nat.add_assoc]) ?_
      refine az_aloadn dX8_word_61 rfl ?_
      refine az_getr dX8_word_62 flX8_7 sh_391 rfl ?_
      refine az_bipush (v := 6) dX8_word_65 (by decide) ?_
      refine az_iald (6) dX8_word_67 sh_392 (by omega) (by decide) (by simp only [az_lit, nI_add, pk_mul, Nat.add_assoc]) ?_
      rw [show ∀ (m : az_M) x, az_w m 392 6 x 392 6 = x from fun m x => by rw [az_w_same, upd_eq]]
      refine az_iret dX8_word_68 rfl ?_
      refine hQ1 _ ⟨m1, hA, fun k k1 k2 k3 => by rw [az_w_ne _ k1, az_w_ne _ k1, az_w_ne _ k1]⟩ (by rw [az_w_same, az_w_same, az_w_same, e2]) (zF_act0 hN hF hA (fun k hk => by rw [az_w_ne _ hk, az_w_ne _ hk, az_w_ne _ hk]) ?_ ?_ ?_ ?_)
      · rw [az_w_same, upd_ne (by omega), az_w_same, upd_ne (by omega), az_w_same, upd_ne (by omega), e2]
      · rw [az_w_same, upd_ne (by omega), az_w_same, upd_ne (by omega), az_w_same, upd_ne (by omega), e2]
      · exact fun i hi => by rw [az_w_same, upd_ne (by omega), az_w_same, upd_ne (by omega), az_w_same, upd_ne (by omega), e2]
      · exact fun i hi => by rw [az_w_same, upd_ne (by omega), az_w_same, upd_ne (by omega), az_w_same, upd_ne (by omega), e2]
    · have hq := hQ0 (fun h => h.2 h19)
      refine az_iconst (v := -1) dX8_word_22 (by decide) ?_
      refine az_iret dX8_word_23 rfl ?_
      exact hq
theorem s_X8_clear (hn : mem 392 0 = nI N) (hN : N ≤ 16) (hH : zm_H mem t c) (hF : zF mem N) (hQ1 : ∀ m', zm_act t c mem m' → (∀ i, m' 392 i = if i = 6 ∨ (311 ≤ i ∧ i < 343) then 0 else mem 392 i) → zF m' N → Q (some (.inl (mem 392 6))) m') : az_Sp X (d + 2) mX8_clear [.inr 391] mem Q := by
  refine az_body (by decide +kernel) (Nat.le_of_ble_eq_true rfl) ?_
  show az_Ev X _ mX8_clear 0 [some (.inr 391), none, none] [] mem Q
  refine az_aloadn dX8_clear_0 rfl ?_
  refine az_getr dX8_clear_1 flX8_7 sh_391 rfl ?_
  refine az_bipush (v := 6) dX8_clear_4 (by decide) ?_
  refine az_iald (6) dX8_clear_6 sh_392 (by omega) (by decide) (by simp only [az_lit, nI_add, pk_mul, Nat.add_assoc]) ?_
  refine az_istoren dX8_clear_7 (by decide) ?_
  dsimp only [List.set]
  refine az_aloadn dX8_clear_8 rfl ?_
  refine az_inv0 (N := mX8_act) dX8_clear_9 lkX8_78 okX8_act sh_391 rfl (Nat.le_of_ble_eq_true rfl) ?_
  refine t_X8_act hH (fun m1 hA => ?_)
  try dsimp only [az_ps]
  refine az_iconst (v := 0) dX8_clear_12 (by decide) ?_
  refine az_istoren dX8_clear_13 (by decide) ?_
  dsimp only [List.set]
  skip
  have e2 : m1 392 = mem 392 := hA.1 392 (by decide) (by decide)
  refine az_up (fun i => ∀ m2, (∀ k, k ≠ 392 → m2 k = m1 k) → (∀ j, m2 392 j = if (311 ≤ j ∧ j < 311 + i) ∨ (327 ≤ j ∧ j < 327 + i) then 0 else mem 392 j) → az_Ev X (d + 2) mX8_clear 14 [some (.inr 391), some (.inl (mem 392 6)), some (.inl (nI i))] [] m2 Q) 16 0 (by omega) (fun i _ hi ih m2 hf h1 => ?_) (fun m2 hf h1 => ?_) m1 (fun _ _ => rfl) (fun j => by rw [if_neg (by omega), e2])
  · refine az_iloadn dX8_clear_14 rfl ?_
    refine az_bipush (v := 16) dX8_clear_15 (by decide) ?_
    refine az_icmpge (t := 48) dX8_clear_17 (by decide) (fun h17 => ?_) (fun h17 => ?_)
    · exact absurd h17 (nI_ge (b := 16) hi (by decide))
    refine az_aloadn dX8_clear_20 rfl ?_
    refine az_getr dX8_clear_21 flX8_7 sh_391 rfl ?_
    refine az_sipush (v := 311) dX8_clear_24 (by decide) ?_
    refine az_iloadn dX8_clear_27 rfl ?_
    refine az_iadd dX8_clear_28 ?_
    refine az_iconst (v := 0) dX8_clear_29 (by decide) ?_
    refine az_iast (311 + i) dX8_clear_30 sh_392 (by omega) (by decide) (by simp only [az_lit, nI_add, pk_mul, Nat.add_assoc]) ?_
    refine az_aloadn dX8_clear_31 rfl ?_
    refine az_getr dX8_clear_32 flX8_7 sh_391 rfl ?_
    refine az_sipush (v := 327) dX8_clear_35 (by decide) ?_
    refine az_iloadn dX8_clear_38 rfl ?_
    refine az_iadd dX8_clear_39 ?_
    refine az_iconst (v := 0) dX8_clear_40 (by decide) ?_
    refine az_iast (327 + i) dX8_clear_41 sh_392 (by omega) (by decide) (by simp only [az_lit, nI_add, pk_mul, Nat.add_assoc]) ?_
    refine az_iinc (w := 1) dX8_clear_42 rfl (by decide) (by decide) ?_
    dsimp only [List.set]
    refine az_goto (t := 14) dX8_clear_45 (by decide) ?_
    rw [nI_1]
    refine ih _ (fun k hk => by rw [az_w_ne _ hk, az_w_ne _ hk]; exact hf k hk) (fun j => ?_)
    rw [az_w_same, az_w_same, zm_upd_eq, zm_upd_eq, h1]
    by_cases c1 : j = 327 + i
    · rw [if_pos c1, if_pos (by omega)]
    · by_cases c2 : j = 311 + i
      · rw [if_neg c1, if_pos c2, if_pos (by omega)]
      · rw [if_neg c1, if_neg c2]
        by_cases c3 : (311 ≤ j ∧ j < 311 + i) ∨ (327 ≤ j ∧ j < 327 + i)
        · rw [if_pos c3, if_pos (by omega)]
        · rw [if_neg c3, if_neg (by omega)]
  · have hS : ∀ j, az_w m2 392 6 0 392 j = if j = 6 ∨ (311 ≤ j ∧ j < 343) then 0 else mem 392 j := by
      intro j
      rw [az_w_same, zm_upd_eq, h1]
      by_cases c1 : j = 6
      · rw [if_pos c1, if_pos (Or.inl c1)]
      · rw [if_neg c1]
        by_cases c3 : (311 ≤ j ∧ j < 311 + 16) ∨ (327 ≤ j ∧ j < 327 + 16)
        · rw [if_pos c3, if_pos (by omega)]
        · rw [if_neg c3, if_neg (by omega)]
    refine az_iloadn dX8_clear_14 rfl ?_
    refine az_bipush (v := 16) dX8_clear_15 (by decide) ?_
    refine az_icmpge (t := 48) dX8_clear_17 (by decide) (fun h17 => ?_) (fun h17 => ?_)
    rotate_left 1
    · exact absurd (Int32.le_refl _) h17
    refine az_aloadn dX8_clear_48 rfl ?_
    refine az_getr dX8_clear_49 flX8_7 sh_391 rfl ?_
    refine az_bipush (v := 6) dX8_clear_52 (by decide) ?_
    refine az_iconst (v := 0) dX8_clear_54 (by decide) ?_
    refine az_iast (6) dX8_clear_55 sh_392 (by omega) (by decide) (by simp only [az_lit, nI_add, pk_mul, Nat.add_assoc]) ?_
    refine az_iloadn dX8_clear_56 rfl ?_
    refine az_iret dX8_clear_57 rfl ?_
    refine hQ1 _ ⟨m1, hA, fun k k1 k2 k3 => by rw [az_w_ne _ k1]; exact hf k k1⟩ hS (zF_act0 hN hF hA (fun k hk => by rw [az_w_ne _ hk]; exact hf k hk) ?_ ?_ ?_ ?_)
    · rw [hS, if_neg (by omega)]
    · rw [hS, if_neg (by omega)]
    · exact fun i hi => by rw [hS, if_neg (by omega)]
    · exact fun i hi => by rw [hS, if_neg (by omega)]
theorem x_four1 {v k : Int32} {T : Nat} (hk : ¬ k < 0) (hT : mem 391 5 = nI T) (hT2 : T < 400) (ih : az_Ev X d mX8_four 3 [some (.inr 391), some (.inl v), some (.inl (k + (-8)))] [] (az_w (az_w mem 394 T ((v >>> (k &&& 31)) &&& 255)) 391 5 (nI (T + 1))) Q) : az_Ev X d mX8_four 3 [some (.inr 391), some (.inl v), some (.inl k)] [] mem Q := by
  refine az_iloadn dX8_four_3 rfl ?_
  refine az_iflt (t := 39) dX8_four_4 (by decide) (fun h4 => ?_) (fun h4 => ?_)
  · exact absurd h4 hk
  refine az_aloadn dX8_four_7 rfl ?_
  refine az_getr dX8_four_8 flX8_17 sh_391 rfl ?_
  refine az_aloadn dX8_four_11 rfl ?_
  refine az_geti dX8_four_12 flX8_89 sh_391 rfl ?_
  refine az_iloadn dX8_four_15 rfl ?_
  refine az_iloadn dX8_four_16 rfl ?_
  refine az_ishr dX8_four_17 ?_
  refine az_sipush (v := 255) dX8_four_18 (by decide) ?_
  refine az_iand dX8_four_21 ?_
  refine az_iast (T) dX8_four_22 sh_394 (by omega) (by decide) hT ?_
  refine az_aloadn dX8_four_23 rfl ?_
  refine az_dup dX8_four_24 ?_
  refine az_geti dX8_four_25 flX8_89 sh_391 rfl ?_
  refine az_iconst (v := 1) dX8_four_28 (by decide) ?_
  refine az_iadd dX8_four_29 ?_
  refine az_puti dX8_four_30 plX8_89 sh_391 rfl ?_
  refine az_iinc (w := -8) dX8_four_33 rfl (by decide) (by decide) ?_
  dsimp only [List.set]
  refine az_goto (t := 3) dX8_four_36 (by decide) ?_
  rw [az_w_ne _ (by decide), hT, nI_1]
  exact ih
theorem s_X8_four {v : Int32} {T : Nat} (hT : mem 391 5 = nI T) (hT2 : T + 4 ≤ 400) (hQ : ∀ m', (∀ k, k ≠ 391 → k ≠ 394 → m' k = mem k) → (∀ j, m' 391 j = if j = 5 then nI (T + 4) else mem 391 j) → (∀ i, m' 394 i = if T ≤ i ∧ i < T + 4 then zy_byte v (i - T) else mem 394 i) → Q none m') : az_Sp X d mX8_four [.inr 391, .inl v] mem Q := by
  refine az_body (by decide +kernel) (Nat.le_of_ble_eq_true rfl) ?_
  show az_Ev X _ mX8_four 0 [some (.inr 391), some (.inl v), none] [] mem Q
  refine az_bipush (v := 24) dX8_four_0 (by decide) ?_
  refine az_istoren dX8_four_2 (by decide) ?_
  dsimp only [List.set]
  skip
  refine x_four1 (T := T) (by decide) hT (by omega) ?_
  refine x_four1 (T := T + 1) (by decide) (by rw [az_w_same, upd_eq]) (by omega) ?_
  refine x_four1 (T := T + 2) (by decide) (by rw [az_w_same, upd_eq]) (by omega) ?_
  refine x_four1 (T := T + 3) (by decide) (by rw [az_w_same, upd_eq]) (by omega) ?_
  refine az_iloadn dX8_four_3 rfl ?_
  refine az_iflt (t := 39) dX8_four_4 (by decide) (fun h4 => ?_) (fun h4 => ?_)
  rotate_left 1
  · exact absurd (by decide) h4
  refine az_vret dX8_four_39 rfl ?_
  refine hQ _ (fun k k1 k2 => ?_) (fun j => ?_) (fun i => ?_)
  · rw [az_w_ne _ k1, az_w_ne _ k2, az_w_ne _ k1, az_w_ne _ k2, az_w_ne _ k1, az_w_ne _ k2, az_w_ne _ k1, az_w_ne _ k2]
  · simp only [az_w_eq]
    by_cases hj : j = 5
    · simp [hj]
    · simp [hj]
  · simp only [az_w_eq]
    by_cases c0 : i = T
    · subst c0; simp [zy_byte]; rfl
    · by_cases c1 : i = T + 1
      · subst c1; simp [zy_byte]; rfl
      · by_cases c2 : i = T + 2
        · subst c2; simp [zy_byte]; rfl
        · by_cases c3 : i = T + 3
          · subst c3; simp [zy_byte]; rw [show nI 0 = (0 : Int32) from rfl, sb_shr0]
          · rw [if_neg (by omega), if_neg (by omega), if_neg (by omega), if_neg (by omega), if_neg (by omega), if_neg (by omega), if_neg (by omega), if_neg (by omega), if_neg (by omega)]
def zy_arg (a b c d e : Int32) (q : Nat) : Int32 := if q = 0 then a else if q = 1 then b else if q = 2 then c else if q = 3 then d else e
theorem s_X8_feed {a b c d' e : Int32} {T : Nat} (hT : mem 391 5 = nI T) (hT2 : T ≤ 400) (hQ0 : ¬ T + 20 ≤ 400 → Q (some (.inl (-1))) mem) (hQ1 : T + 20 ≤ 400 → ∀ m', (∀ k, k ≠ 391 → k ≠ 394 → m' k = mem k) → (∀ j, m' 391 j = if j = 5 then nI (T + 20) else mem 391 j) → (∀ i, m' 394 i = if T ≤ i ∧ i < T + 20 then zy_byte (zy_arg a b c d' e ((i - T) / 4)) ((i - T) % 4) else mem 394 i) → Q (some (.inl (nI (T + 20)))) m') : az_Sp X (d + 1) mX8_feed [.inr 391, .inl a, .inl b, .inl c, .inl d', .inl e] mem Q := by
  refine az_body (by decide +kernel) (Nat.le_of_ble_eq_true rfl) ?_
  show az_Ev X _ mX8_feed 0 [some (.inr 391), some (.inl a), some (.inl b), some (.inl c), some (.inl d'), some (.inl e)] [] mem Q
  refine az_aloadn dX8_feed_0 rfl ?_
  refine az_geti dX8_feed_1 flX8_89 sh_391 rfl ?_
  refine az_bipush (v := 20) dX8_feed_4 (by decide) ?_
  refine az_iadd dX8_feed_6 ?_
  refine az_sipush (v := 400) dX8_feed_7 (by decide) ?_
  rw [hT, show nI T + 20 = nI (T + 20) from nI_add T 20]
  refine az_icmple (t := 15) dX8_feed_10 (by decide) (fun h10 => ?_) (fun h10 => ?_)
  · have h20 : T + 20 ≤ 400 := (nI_leI (a := T + 20) (b := 400) (by omega) (by decide)).mp h10
    refine az_aloadn dX8_feed_15 rfl ?_
    refine az_iloadn dX8_feed_16 rfl ?_
    refine az_inv1 (N := mX8_four) dX8_feed_17 lkX8_92 okX8_four sh_391 rfl (Nat.le_of_ble_eq_true rfl) ?_
    refine s_X8_four hT (by omega) (fun m1 f1 g1 t1 => ?_)
    try dsimp only [az_ps]
    refine az_aloadn dX8_feed_20 rfl ?_
    refine az_iloadn dX8_feed_21 rfl ?_
    refine az_inv1 (N := mX8_four) dX8_feed_22 lkX8_92 okX8_four sh_391 rfl (Nat.le_of_ble_eq_true rfl) ?_
    refine s_X8_four (T := T + 4) (by rw [g1, if_pos rfl]) (by omega) (fun m2 f2 g2 t2 => ?_)
    try dsimp only [az_ps]
    refine az_aloadn dX8_feed_25 rfl ?_
    refine az_iloadn dX8_feed_26 rfl ?_
    refine az_inv1 (N := mX8_four) dX8_feed_27 lkX8_92 okX8_four sh_391 rfl (Nat.le_of_ble_eq_true rfl) ?_
    refine s_X8_four (T := T + 8) (by rw [g2, if_pos rfl]) (by omega) (fun m3 f3 g3 t3 => ?_)
    try dsimp only [az_ps]
    refine az_aloadn dX8_feed_30 rfl ?_
    refine az_iload dX8_feed_31 rfl ?_
    refine az_inv1 (N := mX8_four) dX8_feed_33 lkX8_92 okX8_four sh_391 rfl (Nat.le_of_ble_eq_true rfl) ?_
    refine s_X8_four (T := T + 12) (by rw [g3, if_pos rfl]) (by omega) (fun m4 f4 g4 t4 => ?_)
    try dsimp only [az_ps]
    refine az_aloadn dX8_feed_36 rfl ?_
    refine az_iload dX8_feed_37 rfl ?_
    refine az_inv1 (N := mX8_four) dX8_feed_39 lkX8_92 okX8_four sh_391 rfl (Nat.le_of_ble_eq_true rfl) ?_
    refine s_X8_four (T := T + 16) (by rw [g4, if_pos rfl]) (by omega) (fun m5 f5 g5 t5 => ?_)
    try dsimp only [az_ps]
    refine az_aloadn dX8_feed_42 rfl ?_
    refine az_geti dX8_feed_43 flX8_89 sh_391 rfl ?_
    rw [g5, if_pos rfl]
    refine az_iret dX8_feed_46 rfl ?_
    refine hQ1 h20 m5 (fun k k1 k2 => by rw [f5 k k1 k2, f4 k k1 k2, f3 k k1 k2, f2 k k1 k2, f1 k k1 k2]) (fun j => ?_) (fun i => ?_)
    · rw [g5]
      by_cases hj : j = 5
      · rw [if_pos hj, if_pos hj]
      · rw [if_neg hj, if_neg hj, g4, if_neg hj, g3, if_neg hj, g2, if_neg hj, g1, if_neg hj]
    · rw [t5, t4, t3, t2, t1]
      by_cases c5 : T + 16 ≤ i ∧ i < T + 16 + 4
      · rw [if_pos c5, if_pos (by omega), show (i - T) / 4 = 4 by omega, show (i - T) % 4 = i - (T + 16) by omega]; rfl
      · by_cases c4 : T + 12 ≤ i ∧ i < T + 12 + 4
        · rw [if_neg c5, if_pos c4, if_pos (by omega), show (i - T) / 4 = 3 by omega, show (i - T) % 4 = i - (T + 12) by omega]; rfl
        · by_cases c3 : T + 8 ≤ i ∧ i < T + 8 + 4
          · rw [if_neg c5, if_neg c4, if_pos c3, if_pos (by omega), show (i - T) / 4 = 2 by omega, show (i - T) % 4 = i - (T + 8) by omega]; rfl
          · by_cases c2 : T + 4 ≤ i ∧ i < T + 4 + 4
            · rw [if_neg c5, if_neg c4, if_neg c3, if_pos c2, if_pos (by omega), show (i - T) / 4 = 1 by omega, show (i - T) % 4 = i - (T + 4) by omega]; rfl
            · by_cases c1 : T ≤ i ∧ i < T + 4
              · rw [if_neg c5, if_neg c4, if_neg c3, if_neg c2, if_pos c1, if_pos (by omega), show (i - T) / 4 = 0 by omega, show (i - T) % 4 = i - T by omega]; rfl
              · rw [if_neg c5, if_neg c4, if_neg c3, if_neg c2, if_neg c1, if_neg (by omega)]
  · have hq := hQ0 (fun h => h10 (nI_le (a := T + 20) (b := 400) h (by decide)))
    refine az_iconst (v := -1) dX8_feed_13 (by decide) ?_
    refine az_iret dX8_feed_14 rfl ?_
    exact hq
theorem s_X8_undo {n : Int32} {N' K : Nat} (hn : mem 392 0 = nI N) (hN : N ≤ 16) (hH : zm_H mem t c) (hK : (0 ≤ n ∧ n ≤ nI c) → n = nI K) (hK2 : K ≤ c) (hrow : K ≠ 0 → mem 393 (600 * ((t + 60 - (K - 1)) % 60)) = nI N') (hrow0 : K = 0 → N' = N) (hN' : N' ≤ 16) (hQ0 : ¬ (0 ≤ n ∧ n ≤ nI c) → Q (some (.inl (-1))) mem)
    (hQ1 : (0 ≤ n ∧ n ≤ nI c) → ∀ m', (∀ k, k ≠ 391 → k ≠ 392 → k ≠ 395 → k ≠ 396 → m' k = mem k) → (∀ j, m' 391 j = if j = 3 then nI ((t + 60 - K) % 60) else if j = 2 then nI (c - K) else mem 391 j) → (∀ k, k < 600 → m' 392 k = if K = 0 then mem 392 k else mem 393 (600 * ((t + 60 - (K - 1)) % 60) + k)) → zF m' N' → Q (some (.inl n)) m') : az_Sp X (d + 3) mX8_undo [.inr 391, .inl n] mem Q := by
  refine az_body (by decide +kernel) (Nat.le_of_ble_eq_true rfl) ?_
  show az_Ev X _ mX8_undo 0 [some (.inr 391), some (.inl n), none, none] [] mem Q
  refine az_iloadn dX8_undo_0 rfl ?_
  refine az_iflt (t := 12) dX8_undo_1 (by decide) (fun h1 => ?_) (fun h1 => ?_)
  · have hq := hQ0 (fun h => absurd h1 (Int32.not_lt.mpr h.1))
    refine az_iconst (v := -1) dX8_undo_12 (by decide) ?_
    exact az_iret dX8_undo_13 rfl hq
  refine az_iloadn dX8_undo_4 rfl ?_
  refine az_aloadn dX8_undo_5 rfl ?_
  refine az_geti dX8_undo_6 flX8_59 sh_391 rfl ?_
  rw [hH.2.2.1]
  refine az_icmple (t := 14) dX8_undo_9 (by decide) (fun h9 => ?_) (fun h9 => ?_)
  rotate_left 1
  · have hq := hQ0 (fun h => h9 h.2)
    refine az_iconst (v := -1) dX8_undo_12 (by decide) ?_
    exact az_iret dX8_undo_13 rfl hq
  refine az_iconst (v := 0) dX8_undo_14 (by decide) ?_
  refine az_istoren dX8_undo_15 (by decide) ?_
  dsimp only [List.set]
  skip
  have hc60 := hH.2.2.2
  have ht60 := hH.2.1
  have hv : 0 ≤ n ∧ n ≤ nI c := ⟨Int32.not_lt.mp h1, h9⟩
  have hQ1 := hQ1 hv
  have eK := hK hv
  subst eK
  refine az_up (fun j => ∀ m' L3, (∀ k, k ≠ 391 → k ≠ 392 → m' k = mem k) → (∀ i, m' 391 i = if i = 3 then nI ((t + 60 - j) % 60) else if i = 2 then nI (c - j) else mem 391 i) → (∀ k, k < 600 → m' 392 k = if j = 0 then mem 392 k else mem 393 (600 * ((t + 60 - (j - 1)) % 60) + k)) → az_Ev X (d + 3) mX8_undo 16 [some (.inr 391), some (.inl (nI K)), some (.inl (nI j)), L3] [] m' Q) K 0 (by omega) (fun j _ hj ih m' L3 hf h1 h2 => ?_) (fun m' L3 hf h1 h2 => ?_) mem none (fun _ _ _ => rfl) (fun i => ?_) (fun k hk => by rw [if_pos rfl])
  · have hr : (t + 60 - j) % 60 < 60 := Nat.mod_lt _ (by decide)
    refine az_iloadn dX8_undo_16 rfl ?_
    refine az_iloadn dX8_undo_17 rfl ?_
    refine az_icmpge (t := 89) dX8_undo_18 (by decide) (fun h18 => ?_) (fun h18 => ?_)
    · exact absurd h18 (nI_ge (by omega) (by omega))
    refine az_iconst (v := 0) dX8_undo_21 (by decide) ?_
    refine az_istoren dX8_undo_22 (by decide) ?_
    dsimp only [List.set]
    skip
    refine az_up (fun q => ∀ m', (∀ k, k ≠ 391 → k ≠ 392 → m' k = mem k) → (∀ i, m' 391 i = if i = 3 then nI ((t + 60 - j) % 60) else if i = 2 then nI (c - j) else mem 391 i) → (∀ k, k < q → m' 392 k = mem 393 (600 * ((t + 60 - j) % 60) + k)) → az_Ev X (d + 3) mX8_undo 23 [some (.inr 391), some (.inl (nI K)), some (.inl (nI j)), some (.inl (nI q))] [] m' Q) 600 0 (by omega) (fun q _ hq ih2 m' hf h1 h2 => ?_) (fun m' hf h1 h2 => ?_) m' hf h1 (fun k hk => absurd hk (by omega))
    · refine az_iloadn dX8_undo_23 rfl ?_
      refine az_sipush (v := 600) dX8_undo_24 (by decide) ?_
      refine az_icmpge (t := 57) dX8_undo_27 (by decide) (fun h27 => ?_) (fun h27 => ?_)
      · exact absurd h27 (nI_ge (b := 600) hq (by decide))
      refine az_aloadn dX8_undo_30 rfl ?_
      refine az_getr dX8_undo_31 flX8_7 sh_391 rfl ?_
      refine az_iloadn dX8_undo_34 rfl ?_
      refine az_aloadn dX8_undo_35 rfl ?_
      refine az_getr dX8_undo_36 flX8_14 sh_391 rfl ?_
      refine az_sipush (v := 600) dX8_undo_39 (by decide) ?_
      refine az_aloadn dX8_undo_42 rfl ?_
      refine az_geti dX8_undo_43 flX8_55 sh_391 rfl ?_
      refine az_imul dX8_undo_46 ?_
      refine az_iloadn dX8_undo_47 rfl ?_
      refine az_iadd dX8_undo_48 ?_
      refine az_iald (600 * ((t + 60 - j) % 60) + q) dX8_undo_49 sh_393 (by omega) (by decide) (by rw [h1, if_pos rfl]; simp only [az_lit, nI_add, pk_mul]) ?_
      refine az_iast (q) dX8_undo_50 sh_392 (by omega) (by decide) (by simp only [az_lit, nI_add, pk_mul, Nat.add_assoc]) ?_
      refine az_iinc (w := 1) dX8_undo_51 rfl (by decide) (by decide) ?_
      dsimp only [List.set]
      refine az_goto (t := 23) dX8_undo_54 (by decide) ?_
      rw [nI_1]
      refine ih2 _ (fun k k1 k2 => by rw [az_w_ne _ k2]; exact hf k k1 k2) (fun i => by rw [az_w_ne _ (by decide)]; exact h1 i) (fun k hk => ?_)
      rw [az_w_eq]
      by_cases hkq : k = q
      · rw [if_pos ⟨rfl, hkq⟩, hkq, hf 393 (by decide) (by decide)]
      · rw [if_neg (fun h => hkq h.2)]; exact h2 k (by omega)
    · have e1 : m' 391 3 + 60 - 1 - (m' 391 3 + 60 - 1) / 60 * 60 = nI ((t + 60 - (j + 1)) % 60) := by
        rw [h1, if_pos rfl]
        rw [show nI ((t + 60 - j) % 60) + 60 - 1 = nI ((t + 60 - j) % 60 + 59) by rw [show nI ((t + 60 - j) % 60) + 60 = nI ((t + 60 - j) % 60 + 59 + 1) from nI_add _ 60, nI_pred]]
        rw [show (nI ((t + 60 - j) % 60 + 59) - nI ((t + 60 - j) % 60 + 59) / 60 * 60) = nI (((t + 60 - j) % 60 + 59) % 60) from pk_rem (d := 60) (by omega) (by decide) (by decide)]
        congr 1; omega
      have e2 : m' 391 2 - 1 = nI (c - (j + 1)) := by
        rw [h1, if_neg (by decide), if_pos rfl, show c - j = (c - (j + 1)) + 1 by omega, nI_pred]
      refine az_iloadn dX8_undo_23 rfl ?_
      refine az_sipush (v := 600) dX8_undo_24 (by decide) ?_
      refine az_icmpge (t := 57) dX8_undo_27 (by decide) (fun h27 => ?_) (fun h27 => ?_)
      rotate_left 1
      · exact absurd (Int32.le_refl _) h27
      refine az_aloadn dX8_undo_57 rfl ?_
      refine az_aloadn dX8_undo_58 rfl ?_
      refine az_geti dX8_undo_59 flX8_55 sh_391 rfl ?_
      refine az_bipush (v := 60) dX8_undo_62 (by decide) ?_
      refine az_iadd dX8_undo_64 ?_
      refine az_iconst (v := 1) dX8_undo_65 (by decide) ?_
      refine az_isub dX8_undo_66 ?_
      refine az_bipush (v := 60) dX8_undo_67 (by decide) ?_
      refine az_irem dX8_undo_69 (by decide) ?_
      rw [e1]
      refine az_puti dX8_undo_70 plX8_55 sh_391 rfl ?_
      refine az_aloadn dX8_undo_73 rfl ?_
      refine az_dup dX8_undo_74 ?_
      refine az_geti dX8_undo_75 flX8_59 sh_391 rfl ?_
      refine az_iconst (v := 1) dX8_undo_78 (by decide) ?_
      refine az_isub dX8_undo_79 ?_
      rw [az_w_eq, if_neg (by decide), e2]
      refine az_puti dX8_undo_80 plX8_59 sh_391 rfl ?_
      refine az_iinc (w := 1) dX8_undo_83 rfl (by decide) (by decide) ?_
      dsimp only [List.set]
      refine az_goto (t := 16) dX8_undo_86 (by decide) ?_
      rw [nI_1]
      refine ih _ _ (fun k k1 k2 => by rw [az_w_ne _ k1, az_w_ne _ k1]; exact hf k k1 k2) (fun i => ?_) (fun k hk => by rw [az_w_ne _ (by decide), az_w_ne _ (by decide), h2 k hk, if_neg (by omega)]; rfl)
      rw [az_w_same, az_w_same, zm_upd_eq, zm_upd_eq, h1]
      by_cases c2 : i = 2
      · rw [if_pos c2, if_neg (by omega), if_pos c2]
      · rw [if_neg c2, if_neg c2]
        by_cases c3 : i = 3
        · rw [if_pos c3, if_pos c3]
        · rw [if_neg c3, if_neg c3, if_neg c3]; simp [c2]
  · have hn' : m' 392 0 = nI N' := by
      rw [h2 0 (by decide)]
      by_cases hk0 : K = 0
      · rw [if_pos hk0, hrow0 hk0]; exact hn
      · rw [if_neg hk0]; exact hrow hk0
    refine az_iloadn dX8_undo_16 rfl ?_
    refine az_iloadn dX8_undo_17 rfl ?_
    refine az_icmpge (t := 89) dX8_undo_18 (by decide) (fun h18 => ?_) (fun h18 => ?_)
    rotate_left 1
    · exact absurd (Int32.le_refl _) h18
    refine az_aloadn dX8_undo_89 rfl ?_
    refine az_inv0 (N := mX8_walk) dX8_undo_90 lkX8_52 okX8_walk sh_391 rfl (Nat.le_of_ble_eq_true rfl) ?_
    refine t_X8_walk hn' hN' (fun m2 g1 hF => ?_)
    try dsimp only [az_ps]
    refine az_iloadn dX8_undo_93 rfl ?_
    refine az_iret dX8_undo_94 rfl ?_
    exact hQ1 m2 (fun k k1 k2 k3 k4 => by rw [g1 k k3 k4]; exact hf k k1 k2) (fun i => by rw [g1 391 (by decide) (by decide)]; exact h1 i) (fun k hk => by rw [g1 392 (by decide) (by decide)]; exact h2 k hk) hF
  · by_cases c3 : i = 3
    · rw [if_pos c3, c3, hH.1]; congr 1; omega
    · by_cases c2 : i = 2
      · rw [if_neg c3, if_pos c2, c2, hH.2.2.1]; rfl
      · rw [if_neg c3, if_neg c2]
end MG

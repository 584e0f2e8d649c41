/-! the model's simple questions, and the pairs that are shown -/
theorem zi_ex {x : Int32} {N : Nat} (hN : N < 2 ^ 31) (h : 0 ≤ x ∧ x < nI N) : ∃ P, P < N ∧ x = nI P := ⟨_, zi_of hN h⟩
theorem zi_yes {P N : Nat} (h : P < N) (hN : N < 2 ^ 31) : 0 ≤ nI P ∧ nI P < nI N := ⟨nI_pos' (by omega), nI_lt h hN⟩
def zm_reach (w : Nat → Int32) (N p : Nat) : Int32 := zm_sum (fun q => if w (16 * p + q) < 1000000 then 1 else 0) N
def zm_of (S w : Nat → Int32) (N : Nat) (p what : Int32) : Int32 :=
  if 0 ≤ p ∧ p < nI N then (if what = 0 then zm_many (zm_mask (zm_bf (zm_len S) p.toNatClampNeg) N) else if what = 1 then S (263 + p.toNatClampNeg) else if what = 2 then S (279 + p.toNatClampNeg) else if what = 3 then S (295 + p.toNatClampNeg) else if what = 4 then zm_mask (zm_bf (zm_len S) p.toNatClampNeg) N else if what = 5 then zm_reach w N p.toNatClampNeg else -1) else -1
def zm_ends (len : Nat → Int32) (N : Nat) : Int32 := zm_sum (fun p => zm_many (zm_mask (zm_bf len p) N)) N
def zm_about (S : Nat → Int32) (N : Nat) (un ta what : Int32) : Int32 :=
  if what = 0 then nI N else if what = 1 then zm_ends (zm_len S) N / 2 else if what = 2 then S 1 else if what = 3 then S 2 else if what = 4 then zm_need (S 3) (S 4) else if what = 5 then S 5 else if what = 6 then S 6 else if what = 7 then un else if what = 8 then ta else -1
section ME
variable {X : az_X} {d : Nat} {mem : az_M} {Q : Option az_V → az_M → Prop} {N : Nat}
theorem s_X8_parts {x a b : Int32} (hn : mem 392 0 = nI N) (hN : N ≤ 16) (hQ : Q (some (.inl (if (0 ≤ x ∧ x < nI (2 ^ N)) ∧ (0 ≤ a ∧ a < nI N) ∧ (0 ≤ b ∧ b < nI N) ∧ a ≠ b then zm_many (zm_mask (zm_pf (mem 396) a.toNatClampNeg b.toNatClampNeg) N &&& x) else -1))) mem) : az_Sp X (d + 3) mX8_parts [.inr 391, .inl x, .inl a, .inl b] mem Q := by
  refine az_body (by decide +kernel) (Nat.le_of_ble_eq_true rfl) ?_
  show az_Ev X _ mX8_parts 0 [some (.inr 391), some (.inl x), some (.inl a), some (.inl b)] [] mem Q
  refine az_aloadn dX8_parts_0 rfl ?_
  refine az_iloadn dX8_parts_1 rfl ?_
  refine az_inv1 (N := mX8_isSet) dX8_parts_2 lkX8_118 okX8_isSet sh_391 rfl (Nat.le_of_ble_eq_true rfl) ?_
  refine s_X8_isSet ?_
  rw [hn, zi_shl N (by omega)]
  try dsimp only [az_ps]
  refine az_ifeq (t := 43) dX8_parts_5 (by decide) (fun h5 => ?_) (fun h5 => ?_)
  · replace h5 := zb_z h5
    rw [if_neg (fun h => h5 h.1)] at hQ
    refine az_iconst (v := -1) dX8_parts_43 (by decide) ?_
    refine az_iret dX8_parts_44 rfl ?_
    exact hQ
  · replace h5 := zb_n h5
    refine az_aloadn dX8_parts_8 rfl ?_
    refine az_iloadn dX8_parts_9 rfl ?_
    refine az_inv1 (N := mX8_isPost) dX8_parts_10 lkX8_66 okX8_isPost sh_391 rfl (Nat.le_of_ble_eq_true rfl) ?_
    refine s_X8_isPost ?_
    rw [hn]
    try dsimp only [az_ps]
    refine az_ifeq (t := 43) dX8_parts_13 (by decide) (fun h13 => ?_) (fun h13 => ?_)
    · replace h13 := zb_z h13
      rw [if_neg (fun h => h13 h.2.1)] at hQ
      refine az_iconst (v := -1) dX8_parts_43 (by decide) ?_
      refine az_iret dX8_parts_44 rfl ?_
      exact hQ
    · replace h13 := zb_n h13
      refine az_aloadn dX8_parts_16 rfl ?_
      refine az_iloadn dX8_parts_17 rfl ?_
      refine az_inv1 (N := mX8_isPost) dX8_parts_18 lkX8_66 okX8_isPost sh_391 rfl (Nat.le_of_ble_eq_true rfl) ?_
      refine s_X8_isPost ?_
      rw [hn]
      try dsimp only [az_ps]
      refine az_ifeq (t := 43) dX8_parts_21 (by decide) (fun h21 => ?_) (fun h21 => ?_)
      · replace h21 := zb_z h21
        rw [if_neg (fun h => h21 h.2.2.1)] at hQ
        refine az_iconst (v := -1) dX8_parts_43 (by decide) ?_
        refine az_iret dX8_parts_44 rfl ?_
        exact hQ
      · replace h21 := zb_n h21
        refine az_iloadn dX8_parts_24 rfl ?_
        refine az_iloadn dX8_parts_25 rfl ?_
        refine az_icmpeq (t := 43) dX8_parts_26 (by decide) (fun h26 => ?_) (fun h26 => ?_)
        · rw [if_neg (fun h => h.2.2.2 h26)] at hQ
          refine az_iconst (v := -1) dX8_parts_43 (by decide) ?_
          refine az_iret dX8_parts_44 rfl ?_
          exact hQ
        · rw [if_pos ⟨h5, h13, h21, h26⟩] at hQ
          obtain ⟨A, hA, rfl⟩ := zi_ex (by omega) h13
          obtain ⟨B, hB, rfl⟩ := zi_ex (by omega) h21
          rw [nI_clamp (by omega), nI_clamp (by omega)] at hQ
          refine az_aloadn dX8_parts_29 rfl ?_
          refine az_iloadn dX8_parts_30 rfl ?_
          refine az_iloadn dX8_parts_31 rfl ?_
          refine az_inv2 (N := mX8_parting) dX8_parts_32 lkX8_111 okX8_parting sh_391 rfl (Nat.le_of_ble_eq_true rfl) ?_
          refine s_X8_parting hn hN (by omega) (by omega) ?_
          try dsimp only [az_ps]
          refine az_iloadn dX8_parts_35 rfl ?_
          refine az_iand dX8_parts_36 ?_
          refine az_ins1 (N := mX8_many) dX8_parts_37 lsX8_102 okX8_many (Nat.le_of_ble_eq_true rfl) ?_
          refine s_X8_many ?_
          try dsimp only [az_ps]
          refine az_goto (t := 44) dX8_parts_40 (by decide) ?_
          refine az_iret dX8_parts_44 rfl ?_
          exact hQ
theorem s_X8_way {a b : Int32} (hn : mem 392 0 = nI N) (hN : N ≤ 16) (hQ : Q (some (.inl (if (0 ≤ a ∧ a < nI N) ∧ (0 ≤ b ∧ b < nI N) then mem 395 (16 * a.toNatClampNeg + b.toNatClampNeg) else -1))) mem) : az_Sp X (d + 2) mX8_way [.inr 391, .inl a, .inl b] mem Q := by
  refine az_body (by decide +kernel) (Nat.le_of_ble_eq_true rfl) ?_
  show az_Ev X _ mX8_way 0 [some (.inr 391), some (.inl a), some (.inl b)] [] mem Q
  refine az_aloadn dX8_way_0 rfl ?_
  refine az_iloadn dX8_way_1 rfl ?_
  refine az_inv1 (N := mX8_isPost) dX8_way_2 lkX8_66 okX8_isPost sh_391 rfl (Nat.le_of_ble_eq_true rfl) ?_
  refine s_X8_isPost ?_
  rw [hn]
  try dsimp only [az_ps]
  refine az_ifeq (t := 30) dX8_way_5 (by decide) (fun h5 => ?_) (fun h5 => ?_)
  · replace h5 := zb_z h5
    rw [if_neg (fun h => h5 h.1)] at hQ
    refine az_iconst (v := -1) dX8_way_30 (by decide) ?_
    refine az_iret dX8_way_31 rfl ?_
    exact hQ
  · replace h5 := zb_n h5
    refine az_aloadn dX8_way_8 rfl ?_
    refine az_iloadn dX8_way_9 rfl ?_
    refine az_inv1 (N := mX8_isPost) dX8_way_10 lkX8_66 okX8_isPost sh_391 rfl (Nat.le_of_ble_eq_true rfl) ?_
    refine s_X8_isPost ?_
    rw [hn]
    try dsimp only [az_ps]
    refine az_ifeq (t := 30) dX8_way_13 (by decide) (fun h13 => ?_) (fun h13 => ?_)
    · replace h13 := zb_z h13
      rw [if_neg (fun h => h13 h.2)] at hQ
      refine az_iconst (v := -1) dX8_way_30 (by decide) ?_
      refine az_iret dX8_way_31 rfl ?_
      exact hQ
    · replace h13 := zb_n h13
      rw [if_pos ⟨h5, h13⟩] at hQ
      obtain ⟨A, hA, rfl⟩ := zi_ex (by omega) h5
      obtain ⟨B, hB, rfl⟩ := zi_ex (by omega) h13
      rw [nI_clamp (by omega), nI_clamp (by omega)] at hQ
      refine az_aloadn dX8_way_16 rfl ?_
      refine az_getr dX8_way_17 flX8_20 sh_391 rfl ?_
      refine az_bipush (v := 16) dX8_way_20 (by decide) ?_
      refine az_iloadn dX8_way_22 rfl ?_
      refine az_imul dX8_way_23 ?_
      refine az_iloadn dX8_way_24 rfl ?_
      refine az_iadd dX8_way_25 ?_
      refine az_iald (16 * A + B) dX8_way_26 sh_395 (by omega) (by decide) (by simp only [az_lit, nI_add, pk_mul, Nat.add_assoc]) ?_
      refine az_goto (t := 31) dX8_way_27 (by decide) ?_
      refine az_iret dX8_way_31 rfl ?_
      exact hQ
theorem s_X8_answer {a b : Int32} (hn : mem 392 0 = nI N) (hN : N ≤ 16) (hQ : Q (some (.inl (if (0 ≤ a ∧ a < nI N) ∧ (0 ≤ b ∧ b < nI N) then mem 396 (16 * a.toNatClampNeg + b.toNatClampNeg) else -1))) mem) : az_Sp X (d + 2) mX8_answer [.inr 391, .inl a, .inl b] mem Q := by
  refine az_body (by decide +kernel) (Nat.le_of_ble_eq_true rfl) ?_
  show az_Ev X _ mX8_answer 0 [some (.inr 391), some (.inl a), some (.inl b)] [] mem Q
  refine az_aloadn dX8_answer_0 rfl ?_
  refine az_iloadn dX8_answer_1 rfl ?_
  refine az_inv1 (N := mX8_isPost) dX8_answer_2 lkX8_66 okX8_isPost sh_391 rfl (Nat.le_of_ble_eq_true rfl) ?_
  refine s_X8_isPost ?_
  rw [hn]
  try dsimp only [az_ps]
  refine az_ifeq (t := 25) dX8_answer_5 (by decide) (fun h5 => ?_) (fun h5 => ?_)
  · replace h5 := zb_z h5
    rw [if_neg (fun h => h5 h.1)] at hQ
    refine az_iconst (v := -1) dX8_answer_25 (by decide) ?_
    refine az_iret dX8_answer_26 rfl ?_
    exact hQ
  · replace h5 := zb_n h5
    refine az_aloadn dX8_answer_8 rfl ?_
    refine az_iloadn dX8_answer_9 rfl ?_
    refine az_inv1 (N := mX8_isPost) dX8_answer_10 lkX8_66 okX8_isPost sh_391 rfl (Nat.le_of_ble_eq_true rfl) ?_
    refine s_X8_isPost ?_
    rw [hn]
    try dsimp only [az_ps]
    refine az_ifeq (t := 25) dX8_answer_13 (by decide) (fun h13 => ?_) (fun h13 => ?_)
    · replace h13 := zb_z h13
      rw [if_neg (fun h => h13 h.2)] at hQ
      refine az_iconst (v := -1) dX8_answer_25 (by decide) ?_
      refine az_iret dX8_answer_26 rfl ?_
      exact hQ
    · replace h13 := zb_n h13
      rw [if_pos ⟨h5, h13⟩] at hQ
      obtain ⟨A, hA, rfl⟩ := zi_ex (by omega) h5
      obtain ⟨B, hB, rfl⟩ := zi_ex (by omega) h13
      rw [nI_clamp (by omega), nI_clamp (by omega)] at hQ
      refine az_aloadn dX8_answer_16 rfl ?_
      refine az_iloadn dX8_answer_17 rfl ?_
      refine az_iloadn dX8_answer_18 rfl ?_
      refine az_inv2 (N := mX8_answerOf) dX8_answer_19 lkX8_105 okX8_answerOf sh_391 rfl (Nat.le_of_ble_eq_true rfl) ?_
      refine s_X8_answerOf (by omega) (by omega) ?_
      try dsimp only [az_ps]
      refine az_goto (t := 26) dX8_answer_22 (by decide) ?_
      refine az_iret dX8_answer_26 rfl ?_
      exact hQ
theorem s_X8_against {a : Int32} (hn : mem 392 0 = nI N) (hN : N ≤ 16) (hQ : Q (some (.inl (if 0 ≤ a ∧ a < nI N then zm_mask (zw_ag (mem 392) (mem 396) a.toNatClampNeg) N else -1))) mem) : az_Sp X (d + 2) mX8_against [.inr 391, .inl a] mem Q := by
  refine az_body (by decide +kernel) (Nat.le_of_ble_eq_true rfl) ?_
  show az_Ev X _ mX8_against 0 [some (.inr 391), some (.inl a)] [] mem Q
  refine az_aloadn dX8_against_0 rfl ?_
  refine az_iloadn dX8_against_1 rfl ?_
  refine az_inv1 (N := mX8_isPost) dX8_against_2 lkX8_66 okX8_isPost sh_391 rfl (Nat.le_of_ble_eq_true rfl) ?_
  refine s_X8_isPost ?_
  rw [hn]
  try dsimp only [az_ps]
  refine az_ifeq (t := 16) dX8_against_5 (by decide) (fun h5 => ?_) (fun h5 => ?_)
  · replace h5 := zb_z h5
    rw [if_neg h5] at hQ
    refine az_iconst (v := -1) dX8_against_16 (by decide) ?_
    refine az_iret dX8_against_17 rfl ?_
    exact hQ
  · replace h5 := zb_n h5
    rw [if_pos h5] at hQ
    obtain ⟨A, hA, rfl⟩ := zi_ex (by omega) h5
    rw [nI_clamp (by omega)] at hQ
    refine az_aloadn dX8_against_8 rfl ?_
    refine az_iloadn dX8_against_9 rfl ?_
    refine az_inv1 (N := mX8_againstBits) dX8_against_10 lkX8_149 okX8_againstBits sh_391 rfl (Nat.le_of_ble_eq_true rfl) ?_
    refine s_X8_againstBits hn hN (by omega) ?_
    try dsimp only [az_ps]
    refine az_goto (t := 17) dX8_against_13 (by decide) ?_
    refine az_iret dX8_against_17 rfl ?_
    exact hQ
theorem s_X8_set (hQ : Q (some (.inl (mem 391 6))) mem) : az_Sp X d mX8_set [.inr 391] mem Q := by
  refine az_body (by decide +kernel) (Nat.le_of_ble_eq_true rfl) ?_
  show az_Ev X _ mX8_set 0 [some (.inr 391)] [] mem Q
  refine az_aloadn dX8_set_0 rfl ?_
  refine az_geti dX8_set_1 flX8_140 sh_391 rfl ?_
  refine az_iret dX8_set_4 rfl ?_
  exact hQ
theorem x_of1 {A i : Nat} {what c : Int32} (hn : mem 392 0 = nI N) (hN : N ≤ 16) (hA : A < 16) (hi : i < N) (ih : az_Ev X (d + 2) mX8_of 101 [some (.inr 391), some (.inl (nI A)), some (.inl what), some (.inl (c + if mem 395 (16 * A + i) < 1000000 then 1 else 0)), some (.inl (nI (i + 1)))] [] mem Q) : az_Ev X (d + 2) mX8_of 101 [some (.inr 391), some (.inl (nI A)), some (.inl what), some (.inl c), some (.inl (nI i))] [] mem Q := by
  refine az_iload dX8_of_101 rfl ?_
  refine az_aloadn dX8_of_103 rfl ?_
  refine az_inv0 (N := mX8_n) dX8_of_104 lkX8_62 okX8_n sh_391 rfl (Nat.le_of_ble_eq_true rfl) ?_
  refine t_X8_n hn ?_
  try dsimp only [az_ps]
  refine az_icmpge (t := 141) dX8_of_107 (by decide) (fun h107 => ?_) (fun h107 => ?_)
  · exact absurd h107 (nI_ge (by omega) (by omega))
  refine az_iloadn dX8_of_110 rfl ?_
  refine az_aloadn dX8_of_111 rfl ?_
  refine az_getr dX8_of_112 flX8_20 sh_391 rfl ?_
  refine az_bipush (v := 16) dX8_of_115 (by decide) ?_
  refine az_iloadn dX8_of_117 rfl ?_
  refine az_imul dX8_of_118 ?_
  refine az_iload dX8_of_119 rfl ?_
  refine az_iadd dX8_of_121 ?_
  refine az_iald (16 * A + i) dX8_of_122 sh_395 (by omega) (by decide) (by simp only [az_lit, nI_add, pk_mul, Nat.add_assoc]) ?_
  refine az_ldc dX8_of_123 kcX8_74 ?_
  refine az_icmpge (t := 132) dX8_of_125 (by decide) (fun h125 => ?_) (fun h125 => ?_)
  · rw [if_neg (Int32.not_lt.mpr h125)] at ih
    refine az_iconst (v := 0) dX8_of_132 (by decide) ?_
    refine az_iadd dX8_of_133 ?_
    refine az_istoren dX8_of_134 (by decide) ?_
    dsimp only [List.set]
    refine az_iinc (w := 1) dX8_of_135 rfl (by decide) (by decide) ?_
    dsimp only [List.set]
    refine az_goto (t := 101) dX8_of_138 (by decide) ?_
    rw [nI_1]; exact ih
  · rw [if_pos (Int32.not_le.mp h125)] at ih
    refine az_iconst (v := 1) dX8_of_128 (by decide) ?_
    refine az_goto (t := 133) dX8_of_129 (by decide) ?_
    refine az_iadd dX8_of_133 ?_
    refine az_istoren dX8_of_134 (by decide) ?_
    dsimp only [List.set]
    refine az_iinc (w := 1) dX8_of_135 rfl (by decide) (by decide) ?_
    dsimp only [List.set]
    refine az_goto (t := 101) dX8_of_138 (by decide) ?_
    rw [nI_1]; exact ih
theorem x_of2 {A : Nat} {what c : Int32} (hn : mem 392 0 = nI N) (hQ : Q (some (.inl c)) mem) : az_Ev X (d + 2) mX8_of 101 [some (.inr 391), some (.inl (nI A)), some (.inl what), some (.inl c), some (.inl (nI N))] [] mem Q := by
  refine az_iload dX8_of_101 rfl ?_
  refine az_aloadn dX8_of_103 rfl ?_
  refine az_inv0 (N := mX8_n) dX8_of_104 lkX8_62 okX8_n sh_391 rfl (Nat.le_of_ble_eq_true rfl) ?_
  refine t_X8_n hn ?_
  try dsimp only [az_ps]
  refine az_icmpge (t := 141) dX8_of_107 (by decide) (fun h107 => ?_) (fun h107 => ?_)
  rotate_left 1
  · exact absurd (Int32.le_refl _) h107
  refine az_iloadn dX8_of_141 rfl ?_
  refine az_iret dX8_of_142 rfl ?_
  exact hQ
theorem x_ab1 {i : Nat} {what c : Int32} (hn : mem 392 0 = nI N) (hN : N ≤ 16) (hi : i < N) (ih : az_Ev X (d + 2) mX8_about 61 [some (.inr 391), some (.inl what), some (.inl (c + zm_many (zm_mask (zm_bf (zm_len (mem 392)) i) N))), some (.inl (nI (i + 1)))] [] mem Q) : az_Ev X (d + 2) mX8_about 61 [some (.inr 391), some (.inl what), some (.inl c), some (.inl (nI i))] [] mem Q := by
  refine az_iloadn dX8_about_61 rfl ?_
  refine az_aloadn dX8_about_62 rfl ?_
  refine az_inv0 (N := mX8_n) dX8_about_63 lkX8_62 okX8_n sh_391 rfl (Nat.le_of_ble_eq_true rfl) ?_
  refine t_X8_n hn ?_
  try dsimp only [az_ps]
  refine az_icmpge (t := 86) dX8_about_66 (by decide) (fun h66 => ?_) (fun h66 => ?_)
  · exact absurd h66 (nI_ge (by omega) (by omega))
  refine az_iloadn dX8_about_69 rfl ?_
  refine az_aloadn dX8_about_70 rfl ?_
  refine az_iloadn dX8_about_71 rfl ?_
  refine az_inv1 (N := mX8_besideBits) dX8_about_72 lkX8_98 okX8_besideBits sh_391 rfl (Nat.le_of_ble_eq_true rfl) ?_
  refine s_X8_besideBits hn hN (by omega) ?_
  try dsimp only [az_ps]
  refine az_ins1 (N := mX8_many) dX8_about_75 lsX8_102 okX8_many (Nat.le_of_ble_eq_true rfl) ?_
  refine s_X8_many ?_
  try dsimp only [az_ps]
  refine az_iadd dX8_about_78 ?_
  refine az_istoren dX8_about_79 (by decide) ?_
  dsimp only [List.set]
  refine az_iinc (w := 1) dX8_about_80 rfl (by decide) (by decide) ?_
  dsimp only [List.set]
  refine az_goto (t := 61) dX8_about_83 (by decide) ?_
  rw [nI_1]; exact ih
theorem x_ab2 {what c : Int32} (hn : mem 392 0 = nI N) (hQ : Q (some (.inl (c / 2))) mem) : az_Ev X (d + 2) mX8_about 61 [some (.inr 391), some (.inl what), some (.inl c), some (.inl (nI N))] [] mem Q := by
  refine az_iloadn dX8_about_61 rfl ?_
  refine az_aloadn dX8_about_62 rfl ?_
  refine az_inv0 (N := mX8_n) dX8_about_63 lkX8_62 okX8_n sh_391 rfl (Nat.le_of_ble_eq_true rfl) ?_
  refine t_X8_n hn ?_
  try dsimp only [az_ps]
  refine az_icmpge (t := 86) dX8_about_66 (by decide) (fun h66 => ?_) (fun h66 => ?_)
  rotate_left 1
  · exact absurd (Int32.le_refl _) h66
  refine az_iloadn dX8_about_86 rfl ?_
  refine az_iconst (v := 2) dX8_about_87 (by decide) ?_
  refine az_idiv dX8_about_88 (by decide) ?_
  refine az_iret dX8_about_89 rfl ?_
  exact hQ
theorem s_X8_of {p what : Int32} (hn : mem 392 0 = nI N) (hN : N ≤ 16) (hQ : Q (some (.inl (zm_of (mem 392) (mem 395) N p what))) mem) : az_Sp X (d + 2) mX8_of [.inr 391, .inl p, .inl what] mem Q := by
  unfold zm_of at hQ
  refine az_body (by decide +kernel) (Nat.le_of_ble_eq_true rfl) ?_
  show az_Ev X _ mX8_of 0 [some (.inr 391), some (.inl p), some (.inl what), none, none] [] mem Q
  refine az_aloadn dX8_of_0 rfl ?_
  refine az_iloadn dX8_of_1 rfl ?_
  refine az_inv1 (N := mX8_isPost) dX8_of_2 lkX8_66 okX8_isPost sh_391 rfl (Nat.le_of_ble_eq_true rfl) ?_
  refine s_X8_isPost ?_
  rw [hn]
  try dsimp only [az_ps]
  refine az_ifne (t := 10) dX8_of_5 (by decide) (fun h5 => ?_) (fun h5 => ?_)
  · replace h5 := zb_n h5
    rw [if_pos h5] at hQ
    obtain ⟨A, hA, rfl⟩ := zi_ex (by omega) h5
    rw [nI_clamp (by omega)] at hQ
    refine az_iloadn dX8_of_10 rfl ?_
    by_cases hs11_0 : what = 0
    · refine az_tin (off := 37) (t := 48) dX8_of_11 (by rw [hs11_0]; decide) (by rw [hs11_0]; decide) (by rw [hs11_0]; decide) (by decide) ?_
      rw [if_pos hs11_0] at hQ
      refine az_aloadn dX8_of_48 rfl ?_
      refine az_iloadn dX8_of_49 rfl ?_
      refine az_inv1 (N := mX8_besideBits) dX8_of_50 lkX8_98 okX8_besideBits sh_391 rfl (Nat.le_of_ble_eq_true rfl) ?_
      refine s_X8_besideBits hn hN (by omega) ?_
      try dsimp only [az_ps]
      refine az_ins1 (N := mX8_many) dX8_of_53 lsX8_102 okX8_many (Nat.le_of_ble_eq_true rfl) ?_
      refine s_X8_many ?_
      try dsimp only [az_ps]
      refine az_iret dX8_of_56 rfl ?_
      exact hQ
    by_cases hs11_1 : what = 1
    · refine az_tin (off := 46) (t := 57) dX8_of_11 (by rw [hs11_1]; decide) (by rw [hs11_1]; decide) (by rw [hs11_1]; decide) (by decide) ?_
      rw [if_neg hs11_0, if_pos hs11_1] at hQ
      refine az_aloadn dX8_of_57 rfl ?_
      refine az_getr dX8_of_58 flX8_7 sh_391 rfl ?_
      refine az_sipush (v := 263) dX8_of_61 (by decide) ?_
      refine az_iloadn dX8_of_64 rfl ?_
      refine az_iadd dX8_of_65 ?_
      refine az_iald (263 + A) dX8_of_66 sh_392 (by omega) (by decide) (by simp only [az_lit, nI_add, pk_mul, Nat.add_assoc]) ?_
      refine az_iret dX8_of_67 rfl ?_
      exact hQ
    by_cases hs11_2 : what = 2
    · refine az_tin (off := 57) (t := 68) dX8_of_11 (by rw [hs11_2]; decide) (by rw [hs11_2]; decide) (by rw [hs11_2]; decide) (by decide) ?_
      rw [if_neg hs11_0, if_neg hs11_1, if_pos hs11_2] at hQ
      refine az_aloadn dX8_of_68 rfl ?_
      refine az_getr dX8_of_69 flX8_7 sh_391 rfl ?_
      refine az_sipush (v := 279) dX8_of_72 (by decide) ?_
      refine az_iloadn dX8_of_75 rfl ?_
      refine az_iadd dX8_of_76 ?_
      refine az_iald (279 + A) dX8_of_77 sh_392 (by omega) (by decide) (by simp only [az_lit, nI_add, pk_mul, Nat.add_assoc]) ?_
      refine az_iret dX8_of_78 rfl ?_
      exact hQ
    by_cases hs11_3 : what = 3
    · refine az_tin (off := 68) (t := 79) dX8_of_11 (by rw [hs11_3]; decide) (by rw [hs11_3]; decide) (by rw [hs11_3]; decide) (by decide) ?_
      rw [if_neg hs11_0, if_neg hs11_1, if_neg hs11_2, if_pos hs11_3] at hQ
      refine az_aloadn dX8_of_79 rfl ?_
      refine az_getr dX8_of_80 flX8_7 sh_391 rfl ?_
      refine az_sipush (v := 295) dX8_of_83 (by decide) ?_
      refine az_iloadn dX8_of_86 rfl ?_
      refine az_iadd dX8_of_87 ?_
      refine az_iald (295 + A) dX8_of_88 sh_392 (by omega) (by decide) (by simp only [az_lit, nI_add, pk_mul, Nat.add_assoc]) ?_
      refine az_iret dX8_of_89 rfl ?_
      exact hQ
    by_cases hs11_4 : what = 4
    · refine az_tin (off := 79) (t := 90) dX8_of_11 (by rw [hs11_4]; decide) (by rw [hs11_4]; decide) (by rw [hs11_4]; decide) (by decide) ?_
      rw [if_neg hs11_0, if_neg hs11_1, if_neg hs11_2, if_neg hs11_3, if_pos hs11_4] at hQ
      refine az_aloadn dX8_of_90 rfl ?_
      refine az_iloadn dX8_of_91 rfl ?_
      refine az_inv1 (N := mX8_besideBits) dX8_of_92 lkX8_98 okX8_besideBits sh_391 rfl (Nat.le_of_ble_eq_true rfl) ?_
      refine s_X8_besideBits hn hN (by omega) ?_
      try dsimp only [az_ps]
      refine az_iret dX8_of_95 rfl ?_
      exact hQ
    by_cases hs11_5 : what = 5
    · refine az_tin (off := 85) (t := 96) dX8_of_11 (by rw [hs11_5]; decide) (by rw [hs11_5]; decide) (by rw [hs11_5]; decide) (by decide) ?_
      rw [if_neg hs11_0, if_neg hs11_1, if_neg hs11_2, if_neg hs11_3, if_neg hs11_4, if_pos hs11_5] at hQ
      refine az_iconst (v := 0) dX8_of_96 (by decide) ?_
      refine az_istoren dX8_of_97 (by decide) ?_
      dsimp only [List.set]
      refine az_iconst (v := 0) dX8_of_98 (by decide) ?_
      refine az_istore dX8_of_99 (by decide) ?_
      dsimp only [List.set]
      refine az_up (fun i => az_Ev X (d + 2) mX8_of 101 [some (.inr 391), some (.inl (nI A)), some (.inl what), some (.inl (zm_reach (mem 395) i A)), some (.inl (nI i))] [] mem Q) N 0 (by omega) (fun i _ hi ih => ?_) ?_
      · unfold zm_reach at ih ⊢
        rw [zm_sum] at ih
        exact x_of1 hn hN (by omega) hi ih
      · exact x_of2 hn hQ
    refine az_tout (t := 143) dX8_of_11 (by have g0 := zi_ne (k := 0) (by decide) hs11_0; have g1 := zi_ne (k := 1) (by decide) hs11_1; have g2 := zi_ne (k := 2) (by decide) hs11_2; have g3 := zi_ne (k := 3) (by decide) hs11_3; have g4 := zi_ne (k := 4) (by decide) hs11_4; have g5 := zi_ne (k := 5) (by decide) hs11_5; omega) (by decide) ?_
    rw [if_neg hs11_0, if_neg hs11_1, if_neg hs11_2, if_neg hs11_3, if_neg hs11_4, if_neg hs11_5] at hQ
    refine az_iconst (v := -1) dX8_of_143 (by decide) ?_
    refine az_iret dX8_of_144 rfl ?_
    exact hQ
  · replace h5 := zb_z h5
    rw [if_neg h5] at hQ
    refine az_iconst (v := -1) dX8_of_8 (by decide) ?_
    refine az_iret dX8_of_9 rfl ?_
    exact hQ
theorem s_X8_about {what : Int32} (hn : mem 392 0 = nI N) (hN : N ≤ 16) (hQ : Q (some (.inl (zm_about (mem 392) N (mem 391 2) (mem 391 5) what))) mem) : az_Sp X (d + 2) mX8_about [.inr 391, .inl what] mem Q := by
  unfold zm_about at hQ
  refine az_body (by decide +kernel) (Nat.le_of_ble_eq_true rfl) ?_
  show az_Ev X _ mX8_about 0 [some (.inr 391), some (.inl what), none, none] [] mem Q
  refine az_iloadn dX8_about_0 rfl ?_
  by_cases hs1_0 : what = 0
  · refine az_tin (off := 51) (t := 52) dX8_about_1 (by rw [hs1_0]; decide) (by rw [hs1_0]; decide) (by rw [hs1_0]; decide) (by decide) ?_
    rw [if_pos hs1_0] at hQ
    refine az_aloadn dX8_about_52 rfl ?_
    refine az_inv0 (N := mX8_n) dX8_about_53 lkX8_62 okX8_n sh_391 rfl (Nat.le_of_ble_eq_true rfl) ?_
    refine t_X8_n hn ?_
    try dsimp only [az_ps]
    refine az_iret dX8_about_56 rfl ?_
    exact hQ
  by_cases hs1_1 : what = 1
  · refine az_tin (off := 56) (t := 57) dX8_about_1 (by rw [hs1_1]; decide) (by rw [hs1_1]; decide) (by rw [hs1_1]; decide) (by decide) ?_
    rw [if_neg hs1_0, if_pos hs1_1] at hQ
    refine az_iconst (v := 0) dX8_about_57 (by decide) ?_
    refine az_istoren dX8_about_58 (by decide) ?_
    dsimp only [List.set]
    refine az_iconst (v := 0) dX8_about_59 (by decide) ?_
    refine az_istoren dX8_about_60 (by decide) ?_
    dsimp only [List.set]
    refine az_up (fun i => az_Ev X (d + 2) mX8_about 61 [some (.inr 391), some (.inl what), some (.inl (zm_sum (fun p => zm_many (zm_mask (zm_bf (zm_len (mem 392)) p) N)) i)), some (.inl (nI i))] [] mem Q) N 0 (by omega) (fun i _ hi ih => ?_) ?_
    · rw [zm_sum] at ih
      exact x_ab1 hn hN hi ih
    · exact x_ab2 hn hQ
  by_cases hs1_2 : what = 2
  · refine az_tin (off := 89) (t := 90) dX8_about_1 (by rw [hs1_2]; decide) (by rw [hs1_2]; decide) (by rw [hs1_2]; decide) (by decide) ?_
    rw [if_neg hs1_0, if_neg hs1_1, if_pos hs1_2] at hQ
    refine az_aloadn dX8_about_90 rfl ?_
    refine az_getr dX8_about_91 flX8_7 sh_391 rfl ?_
    refine az_iconst (v := 1) dX8_about_94 (by decide) ?_
    refine az_iald (1) dX8_about_95 sh_392 (by omega) (by decide) (by simp only [az_lit, nI_add, pk_mul, Nat.add_assoc]) ?_
    refine az_iret dX8_about_96 rfl ?_
    exact hQ
  by_cases hs1_3 : what = 3
  · refine az_tin (off := 96) (t := 97) dX8_about_1 (by rw [hs1_3]; decide) (by rw [hs1_3]; decide) (by rw [hs1_3]; decide) (by decide) ?_
    rw [if_neg hs1_0, if_neg hs1_1, if_neg hs1_2, if_pos hs1_3] at hQ
    refine az_aloadn dX8_about_97 rfl ?_
    refine az_getr dX8_about_98 flX8_7 sh_391 rfl ?_
    refine az_iconst (v := 2) dX8_about_101 (by decide) ?_
    refine az_iald (2) dX8_about_102 sh_392 (by omega) (by decide) (by simp only [az_lit, nI_add, pk_mul, Nat.add_assoc]) ?_
    refine az_iret dX8_about_103 rfl ?_
    exact hQ
  by_cases hs1_4 : what = 4
  · refine az_tin (off := 103) (t := 104) dX8_about_1 (by rw [hs1_4]; decide) (by rw [hs1_4]; decide) (by rw [hs1_4]; decide) (by decide) ?_
    rw [if_neg hs1_0, if_neg hs1_1, if_neg hs1_2, if_neg hs1_3, if_pos hs1_4] at hQ
    refine az_aloadn dX8_about_104 rfl ?_
    refine az_inv0 (N := mX8_need) dX8_about_105 lkX8_95 okX8_need sh_391 rfl (Nat.le_of_ble_eq_true rfl) ?_
    refine s_X8_need ?_
    try dsimp only [az_ps]
    refine az_iret dX8_about_108 rfl ?_
    exact hQ
  by_cases hs1_5 : what = 5
  · refine az_tin (off := 108) (t := 109) dX8_about_1 (by rw [hs1_5]; decide) (by rw [hs1_5]; decide) (by rw [hs1_5]; decide) (by decide) ?_
    rw [if_neg hs1_0, if_neg hs1_1, if_neg hs1_2, if_neg hs1_3, if_neg hs1_4, if_pos hs1_5] at hQ
    refine az_aloadn dX8_about_109 rfl ?_
    refine az_getr dX8_about_110 flX8_7 sh_391 rfl ?_
    refine az_iconst (v := 5) dX8_about_113 (by decide) ?_
    refine az_iald (5) dX8_about_114 sh_392 (by omega) (by decide) (by simp only [az_lit, nI_add, pk_mul, Nat.add_assoc]) ?_
    refine az_iret dX8_about_115 rfl ?_
    exact hQ
  by_cases hs1_6 : what = 6
  · refine az_tin (off := 115) (t := 116) dX8_about_1 (by rw [hs1_6]; decide) (by rw [hs1_6]; decide) (by rw [hs1_6]; decide) (by decide) ?_
    rw [if_neg hs1_0, if_neg hs1_1, if_neg hs1_2, if_neg hs1_3, if_neg hs1_4, if_neg hs1_5, if_pos hs1_6] at hQ
    refine az_aloadn dX8_about_116 rfl ?_
    refine az_getr dX8_about_117 flX8_7 sh_391 rfl ?_
    refine az_bipush (v := 6) dX8_about_120 (by decide) ?_
    refine az_iald (6) dX8_about_122 sh_392 (by omega) (by decide) (by simp only [az_lit, nI_add, pk_mul, Nat.add_assoc]) ?_
    refine az_iret dX8_about_123 rfl ?_
    exact hQ
  by_cases hs1_7 : what = 7
  · refine az_tin (off := 123) (t := 124) dX8_about_1 (by rw [hs1_7]; decide) (by rw [hs1_7]; decide) (by rw [hs1_7]; decide) (by decide) ?_
    rw [if_neg hs1_0, if_neg hs1_1, if_neg hs1_2, if_neg hs1_3, if_neg hs1_4, if_neg hs1_5, if_neg hs1_6, if_pos hs1_7] at hQ
    refine az_aloadn dX8_about_124 rfl ?_
    refine az_geti dX8_about_125 flX8_59 sh_391 rfl ?_
    refine az_iret dX8_about_128 rfl ?_
    exact hQ
  by_cases hs1_8 : what = 8
  · refine az_tin (off := 128) (t := 129) dX8_about_1 (by rw [hs1_8]; decide) (by rw [hs1_8]; decide) (by rw [hs1_8]; decide) (by decide) ?_
    rw [if_neg hs1_0, if_neg hs1_1, if_neg hs1_2, if_neg hs1_3, if_neg hs1_4, if_neg hs1_5, if_neg hs1_6, if_neg hs1_7, if_pos hs1_8] at hQ
    refine az_aloadn dX8_about_129 rfl ?_
    refine az_geti dX8_about_130 flX8_89 sh_391 rfl ?_
    refine az_iret dX8_about_133 rfl ?_
    exact hQ
  refine az_tout (t := 134) dX8_about_1 (by have g0 := zi_ne (k := 0) (by decide) hs1_0; have g1 := zi_ne (k := 1) (by decide) hs1_1; have g2 := zi_ne (k := 2) (by decide) hs1_2; have g3 := zi_ne (k := 3) (by decide) hs1_3; have g4 := zi_ne (k := 4) (by decide) hs1_4; have g5 := zi_ne (k := 5) (by decide) hs1_5; have g6 := zi_ne (k := 6) (by decide) hs1_6; have g7 := zi_ne (k := 7) (by decide) hs1_7; have g8 := zi_ne (k := 8) (by decide) hs1_8; omega) (by decide) ?_
  rw [if_neg hs1_0, if_neg hs1_1, if_neg hs1_2, if_neg hs1_3, if_neg hs1_4, if_neg hs1_5, if_neg hs1_6, if_neg hs1_7, if_neg hs1_8] at hQ
  refine az_iconst (v := -1) dX8_about_134 (by decide) ?_
  refine az_iret dX8_about_135 rfl ?_
  exact hQ
theorem s_X8_show (hn : mem 392 0 = nI N) (hN : N ≤ 16) (hQ : ∀ m', (∀ k, k ≠ 399 → m' k = mem k) → (∀ i, i < (zp_list (mem 396) N).length → m' 399 i = nI ((zp_list (mem 396) N).getD i 0)) → Q (some (.inl (nI (zp_list (mem 396) N).length))) m') : az_Sp X (d + 3) mX8_show [.inr 391] mem Q := by
  have htri : zp_tri N ≤ 120 := zp_tri_le N (by omega)
  refine az_body (by decide +kernel) (Nat.le_of_ble_eq_true rfl) ?_
  show az_Ev X _ mX8_show 0 [some (.inr 391), none, none, none, none, none] [] mem Q
  refine az_iconst (v := 0) dX8_show_0 (by decide) ?_
  refine az_istoren dX8_show_1 (by decide) ?_
  dsimp only [List.set]
  refine az_iconst (v := 0) dX8_show_2 (by decide) ?_
  refine az_istoren dX8_show_3 (by decide) ?_
  dsimp only [List.set]
  refine az_iconst (v := 0) dX8_show_4 (by decide) ?_
  refine az_istoren dX8_show_5 (by decide) ?_
  dsimp only [List.set]
  skip
  unfold zp_list at hQ
  generalize hR : zp_pr (zm_P (mem 396) N) N N 0 (0, []) = R at hQ
  refine az_up (fun i => ∀ m' (u : Int32) (l : List Nat) L4 L5, (∀ k, k ≠ 399 → m' k = mem k) → zp_pr (zm_P (mem 396) N) N (N - i) i (u, l) = R → (∀ i, i < l.length → m' 399 i = nI (l.getD i 0)) → l.length + zp_tri (N - i) ≤ 120 → az_Ev X (d + 3) mX8_show 6 [some (.inr 391), some (.inl (nI l.length)), some (.inl u), some (.inl (nI i)), L4, L5] [] m' Q) N 0 (by omega) (fun i _ hi ih m' u l L4 L5 hf h1 h2 h3 => ?_) (fun m' u l L4 L5 hf h1 h2 h3 => ?_) mem 0 [] none none (fun _ _ => rfl) hR (fun i h => absurd h (by simp)) (by simpa using htri)
  · have hn' : m' 392 0 = nI N := by rw [hf 392 (by decide)]; exact hn
    rw [zs_sub hi, zp_pr] at h1
    rw [zs_sub hi, zp_tri] at h3
    refine az_iloadn dX8_show_6 rfl ?_
    refine az_aloadn dX8_show_7 rfl ?_
    refine az_inv0 (N := mX8_n) dX8_show_8 lkX8_62 okX8_n sh_391 rfl (Nat.le_of_ble_eq_true rfl) ?_
    refine t_X8_n hn' ?_
    try dsimp only [az_ps]
    refine az_icmpge (t := 85) dX8_show_11 (by decide) (fun h11 => ?_) (fun h11 => ?_)
    · exact absurd h11 (nI_ge (by omega) (by omega))
    refine az_iloadn dX8_show_14 rfl ?_
    refine az_iconst (v := 1) dX8_show_15 (by decide) ?_
    refine az_iadd dX8_show_16 ?_
    refine az_istore dX8_show_17 (by decide) ?_
    dsimp only [List.set]
    rw [nI_1]
    generalize hR2 : zp_in (zm_P (mem 396) N) i (N - (i + 1)) (i + 1) (u, l) = R2 at h1
    refine az_up (fun j => ∀ m' (u : Int32) (l : List Nat) L5, (∀ k, k ≠ 399 → m' k = mem k) → zp_in (zm_P (mem 396) N) i (N - j) j (u, l) = R2 → (∀ i, i < l.length → m' 399 i = nI (l.getD i 0)) → l.length + (N - j) + zp_tri (N - (i + 1)) ≤ 120 → az_Ev X (d + 3) mX8_show 19 [some (.inr 391), some (.inl (nI l.length)), some (.inl u), some (.inl (nI i)), some (.inl (nI j)), L5] [] m' Q) N (i + 1) (by omega) (fun j hj1 hj ih2 m' u l L5 hf h1 h2 h3 => ?_) (fun m' u l L5 hf h1' h2 h3 => ?_) m' u l L5 hf hR2 h2 (by omega)
    · have hn' : m' 392 0 = nI N := by rw [hf 392 (by decide)]; exact hn
      rw [zs_sub hj, zp_in] at h1
      rw [zm_P_at (by omega)] at h1
      refine az_iload dX8_show_19 rfl ?_
      refine az_aloadn dX8_show_21 rfl ?_
      refine az_inv0 (N := mX8_n) dX8_show_22 lkX8_62 okX8_n sh_391 rfl (Nat.le_of_ble_eq_true rfl) ?_
      refine t_X8_n hn' ?_
      try dsimp only [az_ps]
      refine az_icmpge (t := 79) dX8_show_25 (by decide) (fun h25 => ?_) (fun h25 => ?_)
      · exact absurd h25 (nI_ge (by omega) (by omega))
      refine az_aloadn dX8_show_28 rfl ?_
      refine az_iloadn dX8_show_29 rfl ?_
      refine az_iload dX8_show_30 rfl ?_
      refine az_inv2 (N := mX8_parting) dX8_show_32 lkX8_111 okX8_parting sh_391 rfl (Nat.le_of_ble_eq_true rfl) ?_
      refine s_X8_parting hn' hN (by omega) (by omega) ?_
      rw [hf 396 (by decide)]
      try dsimp only [az_ps]
      refine az_istore dX8_show_35 (by decide) ?_
      dsimp only [List.set]
      refine az_iload dX8_show_37 rfl ?_
      refine az_ifeq (t := 73) dX8_show_39 (by decide) (fun h39 => ?_) (fun h39 => ?_)
      · rw [if_pos (Or.inl h39)] at h1
        refine az_iinc (w := 1) dX8_show_73 rfl (by decide) (by decide) ?_
        dsimp only [List.set]
        refine az_goto (t := 19) dX8_show_76 (by decide) ?_
        rw [nI_1]
        first
        | (rw [nI_1, show nI (l.length + 1) = nI (l ++ [16 * i + j]).length by rw [List.length_append, List.length_singleton]]
           refine ih2 _ _ _ _ (fun k hk => by rw [az_w_ne _ hk]; exact hf k hk) h1 (fun q hq => ?_) (by rw [List.length_append]; simp only [List.length_cons, List.length_nil]; omega)
           rw [List.length_append] at hq
           simp only [List.length_cons, List.length_nil] at hq
           rw [az_w_eq]
           by_cases hql : q = l.length
           · rw [if_pos ⟨rfl, hql⟩, hql]
             simp only [az_lit, nI_add, pk_mul, List.getD_eq_getElem?_getD, List.getElem?_concat_length, Option.getD_some]
           · rw [if_neg (fun h => hql h.2), h2 q (by omega)]
             rw [List.getD_eq_getElem?_getD, List.getD_eq_getElem?_getD, List.getElem?_append_left (by omega)])
        | exact ih2 _ _ _ _ hf h1 h2 (by omega)
      · refine az_iload dX8_show_42 rfl ?_
        refine az_iloadn dX8_show_44 rfl ?_
        refine az_iand dX8_show_45 ?_
        refine az_ifeq (t := 52) dX8_show_46 (by decide) (fun h46 => ?_) (fun h46 => ?_)
        · rw [if_neg (fun h => h.elim h39 (fun q => q h46))] at h1
          refine az_iloadn dX8_show_52 rfl ?_
          refine az_iload dX8_show_53 rfl ?_
          refine az_ior dX8_show_55 ?_
          refine az_istoren dX8_show_56 (by decide) ?_
          dsimp only [List.set]
          refine az_aloadn dX8_show_57 rfl ?_
          refine az_getr dX8_show_58 flX8_32 sh_391 rfl ?_
          refine az_iloadn dX8_show_61 rfl ?_
          refine az_bipush (v := 16) dX8_show_62 (by decide) ?_
          refine az_iloadn dX8_show_64 rfl ?_
          refine az_imul dX8_show_65 ?_
          refine az_iload dX8_show_66 rfl ?_
          refine az_iadd dX8_show_68 ?_
          refine az_iast (l.length) dX8_show_69 sh_399 (by omega) (by decide) (by simp only [az_lit, nI_add, pk_mul, Nat.add_assoc]) ?_
          refine az_iinc (w := 1) dX8_show_70 rfl (by decide) (by decide) ?_
          dsimp only [List.set]
          refine az_iinc (w := 1) dX8_show_73 rfl (by decide) (by decide) ?_
          dsimp only [List.set]
          refine az_goto (t := 19) dX8_show_76 (by decide) ?_
          rw [nI_1]
          first
          | (rw [nI_1, show nI (l.length + 1) = nI (l ++ [16 * i + j]).length by rw [List.length_append, List.length_singleton]]
             refine ih2 _ _ _ _ (fun k hk => by rw [az_w_ne _ hk]; exact hf k hk) h1 (fun q hq => ?_) (by rw [List.length_append]; simp only [List.length_cons, List.length_nil]; omega)
             rw [List.length_append] at hq
             simp only [List.length_cons, List.length_nil] at hq
             rw [az_w_eq]
             by_cases hql : q = l.length
             · rw [if_pos ⟨rfl, hql⟩, hql]
               simp only [az_lit, nI_add, pk_mul, List.getD_eq_getElem?_getD, List.getElem?_concat_length, Option.getD_some]
             · rw [if_neg (fun h => hql h.2), h2 q (by omega)]
               rw [List.getD_eq_getElem?_getD, List.getD_eq_getElem?_getD, List.getElem?_append_left (by omega)])
          | exact ih2 _ _ _ _ hf h1 h2 (by omega)
        · rw [if_pos (Or.inr h46)] at h1
          refine az_goto (t := 73) dX8_show_49 (by decide) ?_
          refine az_iinc (w := 1) dX8_show_73 rfl (by decide) (by decide) ?_
          dsimp only [List.set]
          refine az_goto (t := 19) dX8_show_76 (by decide) ?_
          rw [nI_1]
          first
          | (rw [nI_1, show nI (l.length + 1) = nI (l ++ [16 * i + j]).length by rw [List.length_append, List.length_singleton]]
             refine ih2 _ _ _ _ (fun k hk => by rw [az_w_ne _ hk]; exact hf k hk) h1 (fun q hq => ?_) (by rw [List.length_append]; simp only [List.length_cons, List.length_nil]; omega)
             rw [List.length_append] at hq
             simp only [List.length_cons, List.length_nil] at hq
             rw [az_w_eq]
             by_cases hql : q = l.length
             · rw [if_pos ⟨rfl, hql⟩, hql]
               simp only [az_lit, nI_add, pk_mul, List.getD_eq_getElem?_getD, List.getElem?_concat_length, Option.getD_some]
             · rw [if_neg (fun h => hql h.2), h2 q (by omega)]
               rw [List.getD_eq_getElem?_getD, List.getD_eq_getElem?_getD, List.getElem?_append_left (by omega)])
          | exact ih2 _ _ _ _ hf h1 h2 (by omega)
    · have hn' : m' 392 0 = nI N := by rw [hf 392 (by decide)]; exact hn
      rw [Nat.sub_self, zp_in] at h1'
      refine az_iload dX8_show_19 rfl ?_
      refine az_aloadn dX8_show_21 rfl ?_
      refine az_inv0 (N := mX8_n) dX8_show_22 lkX8_62 okX8_n sh_391 rfl (Nat.le_of_ble_eq_true rfl) ?_
      refine t_X8_n hn' ?_
      try dsimp only [az_ps]
      refine az_icmpge (t := 79) dX8_show_25 (by decide) (fun h25 => ?_) (fun h25 => ?_)
      rotate_left 1
      · exact absurd (Int32.le_refl _) h25
      refine az_iinc (w := 1) dX8_show_79 rfl (by decide) (by decide) ?_
      dsimp only [List.set]
      refine az_goto (t := 6) dX8_show_82 (by decide) ?_
      rw [nI_1]; exact ih _ _ _ _ _ hf (by rw [h1']; exact h1) h2 (by omega)
  · have hn' : m' 392 0 = nI N := by rw [hf 392 (by decide)]; exact hn
    rw [Nat.sub_self, zp_pr] at h1
    rw [← h1] at hQ
    refine az_iloadn dX8_show_6 rfl ?_
    refine az_aloadn dX8_show_7 rfl ?_
    refine az_inv0 (N := mX8_n) dX8_show_8 lkX8_62 okX8_n sh_391 rfl (Nat.le_of_ble_eq_true rfl) ?_
    refine t_X8_n hn' ?_
    try dsimp only [az_ps]
    refine az_icmpge (t := 85) dX8_show_11 (by decide) (fun h11 => ?_) (fun h11 => ?_)
    rotate_left 1
    · exact absurd (Int32.le_refl _) h11
    refine az_iloadn dX8_show_85 rfl ?_
    refine az_iret dX8_show_86 rfl ?_
    exact hQ m' hf h2
theorem zp_in_len (P : Nat → Int32) (a : Nat) : ∀ (n b : Nat) (s : Int32 × List Nat), (zp_in P a n b s).2.length ≤ s.2.length + n
  | 0, _, s => Nat.le_refl _
  | n + 1, b, s => by
    rw [zp_in]
    refine Nat.le_trans (zp_in_len P a n (b + 1) _) ?_
    split
    · omega
    · simp only [List.length_append, List.length_cons, List.length_nil]; omega
theorem zp_pr_len (P : Nat → Int32) (N : Nat) : ∀ (n a : Nat) (s : Int32 × List Nat), a + n = N → (zp_pr P N n a s).2.length ≤ s.2.length + zp_tri n
  | 0, _, s, _ => Nat.le_refl _
  | n + 1, a, s, h => by
    rw [zp_pr]
    refine Nat.le_trans (zp_pr_len P N n (a + 1) _ (by omega)) ?_
    have := zp_in_len P a (N - (a + 1)) (a + 1) s
    rw [zp_tri]
    omega
theorem zp_list_len {an : Nat → Int32} {N : Nat} (hN : N ≤ 16) : (zp_list an N).length ≤ 120 := by
  have h1 := zp_pr_len (zm_P an N) N N 0 (0, []) (by omega)
  have h2 := zp_tri_le N (by omega)
  unfold zp_list
  simp only [List.length_nil] at h1
  omega
theorem s_X8_shown (hn : mem 392 0 = nI N) (hN : N ≤ 16) (hQ : ∀ m', (∀ k, k ≠ 399 → m' k = mem k) → Q (some (.inl (nI (zp_list (mem 396) N).length))) m') : az_Sp X (d + 4) mX8_shown [.inr 391] mem Q := by
  refine az_body (by decide +kernel) (Nat.le_of_ble_eq_true rfl) ?_
  show az_Ev X _ mX8_shown 0 [some (.inr 391)] [] mem Q
  refine az_aloadn dX8_shown_0 rfl ?_
  refine az_inv0 (N := mX8_show) dX8_shown_1 lkX8_143 okX8_show sh_391 rfl (Nat.le_of_ble_eq_true rfl) ?_
  refine s_X8_show hn hN (fun m' hf h1 => ?_)
  try dsimp only [az_ps]
  refine az_iret dX8_shown_4 rfl ?_
  exact hQ m' hf
theorem s_X8_pair {k : Int32} (hn : mem 392 0 = nI N) (hN : N ≤ 16) (hQ : ∀ m', (∀ k, k ≠ 399 → m' k = mem k) → Q (some (.inl (if 0 ≤ k ∧ k < nI (zp_list (mem 396) N).length then nI ((zp_list (mem 396) N).getD k.toNatClampNeg 0) else -1))) m') : az_Sp X (d + 4) mX8_pair [.inr 391, .inl k] mem Q := by
  have hlen := zp_list_len (an := mem 396) hN
  refine az_body (by decide +kernel) (Nat.le_of_ble_eq_true rfl) ?_
  show az_Ev X _ mX8_pair 0 [some (.inr 391), some (.inl k), none] [] mem Q
  refine az_aloadn dX8_pair_0 rfl ?_
  refine az_inv0 (N := mX8_show) dX8_pair_1 lkX8_143 okX8_show sh_391 rfl (Nat.le_of_ble_eq_true rfl) ?_
  refine s_X8_show hn hN (fun m' hf h1 => ?_)
  have hQ := hQ m' hf
  try dsimp only [az_ps]
  refine az_istoren dX8_pair_4 (by decide) ?_
  dsimp only [List.set]
  refine az_iloadn dX8_pair_5 rfl ?_
  refine az_iflt (t := 23) dX8_pair_6 (by decide) (fun h6 => ?_) (fun h6 => ?_)
  · rw [if_neg (fun h => absurd h6 (Int32.not_lt.mpr h.1))] at hQ
    refine az_iconst (v := -1) dX8_pair_23 (by decide) ?_
    refine az_iret dX8_pair_24 rfl ?_
    exact hQ
  · refine az_iloadn dX8_pair_9 rfl ?_
    refine az_iloadn dX8_pair_10 rfl ?_
    refine az_icmpge (t := 23) dX8_pair_11 (by decide) (fun h11 => ?_) (fun h11 => ?_)
    · rw [if_neg (fun h => absurd h11 (Int32.not_le.mpr h.2))] at hQ
      refine az_iconst (v := -1) dX8_pair_23 (by decide) ?_
      refine az_iret dX8_pair_24 rfl ?_
      exact hQ
    · rw [if_pos ⟨Int32.not_lt.mp h6, Int32.not_le.mp h11⟩] at hQ
      obtain ⟨K, hK, rfl⟩ := zi_ex (by omega) ⟨Int32.not_lt.mp h6, Int32.not_le.mp h11⟩
      rw [nI_clamp (by omega), ← h1 K hK] at hQ
      refine az_aloadn dX8_pair_14 rfl ?_
      refine az_getr dX8_pair_15 flX8_32 sh_391 rfl ?_
      refine az_iloadn dX8_pair_18 rfl ?_
      refine az_iald (K) dX8_pair_19 sh_399 (by omega) (by decide) (by simp only [az_lit, nI_add, pk_mul, Nat.add_assoc]) ?_
      refine az_goto (t := 24) dX8_pair_20 (by decide) ?_
      refine az_iret dX8_pair_24 rfl ?_
      exact hQ
end ME

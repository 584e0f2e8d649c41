/-! the class's questions, second half -/
/-- what clash tells of sight's rows -/
def zl_clc (P Y : Nat → Int32) (yw : Int32) (N : Nat) (x nd : Int32) : Int32 := if zr_pr (zf_pr (zl_lk P x nd) N N 0) = -1 ∧ yw ≠ 0 then (if zr_in (zf_in (zl_ly Y x nd) N 0) = -1 then -1 else 1000 + zr_in (zf_in (zl_ly Y x nd) N 0)) else zr_pr (zf_pr (zl_lk P x nd) N N 0)
def zm_abc (c : Nat → Int32) (N : Nat) (ends un ta wd what : Int32) : Int32 :=
  if what = 0 then nI N else if what = 1 then ends / 2 else if what = 2 then c 1 else if what = 3 then c 2 else if what = 4 then zm_need (c 3) (c 4) else if what = 5 then (if c 5 = 0 then 0 else 1) else if what = 6 then wd else if what = 7 then un else if what = 8 then ta else -1
section CI
variable {X : az_X} {d : Nat} {mem : az_M} {Q : Option az_V → az_M → Prop} {N : Nat}
theorem s_X7_parts {x a b : Int32} (hS : zS mem N) (hQ0 : ¬ ((0 ≤ x ∧ x < nI (2 ^ N)) ∧ (0 ≤ a ∧ a < nI N) ∧ (0 ≤ b ∧ b < nI N) ∧ a ≠ b) → Q (some (.inl (-1))) mem) (hQ1 : ((0 ≤ x ∧ x < nI (2 ^ N)) ∧ (0 ≤ a ∧ a < nI N) ∧ (0 ≤ b ∧ b < nI N) ∧ a ≠ b) → ∀ m', zSf mem m' N → Q (some (.inl (zm_many (x &&& m' 375 (if a.toNatClampNeg < b.toNatClampNeg then 16 * a.toNatClampNeg + b.toNatClampNeg else 16 * b.toNatClampNeg + a.toNatClampNeg))))) m') : az_Sp X (d + 4) mX7_parts [.inr 0, .inl x, .inl a, .inl b] mem Q := by
  have hN := hS.2.1
  have hp := zi_pow hN
  refine az_body (by decide +kernel) (Nat.le_of_ble_eq_true rfl) ?_
  show az_Ev X _ mX7_parts 0 [some (.inr 0), some (.inl x), some (.inl a), some (.inl b), none] [] mem Q
  refine az_aloadn dX7_parts_0 rfl ?_
  refine az_getr dX7_parts_1 flX7_12 sh_0 rfl ?_
  refine az_iloadn dX7_parts_4 rfl ?_
  refine az_inv1 (N := mX2_isSet) dX7_parts_5 lkX7_152 okX2_isSet sh_1 rfl (Nat.le_of_ble_eq_true rfl) ?_
  refine s_X2_isSet ?_
  rw [hS.1, zi_shl N (by omega)]
  try dsimp only [az_ps]
  refine az_ifeq (t := 38) dX7_parts_8 (by decide) (fun h8 => ?_) (fun h8 => ?_)
  · replace h8 := zb_z h8
    have hq := hQ0 (fun h => h8 h.1)
    refine az_iconst (v := -1) dX7_parts_38 (by decide) ?_
    refine az_iret dX7_parts_39 rfl ?_
    exact hq
  · replace h8 := zb_n h8
    refine az_aloadn dX7_parts_11 rfl ?_
    refine az_getr dX7_parts_12 flX7_12 sh_0 rfl ?_
    refine az_iloadn dX7_parts_15 rfl ?_
    refine az_inv1 (N := mX2_isPost) dX7_parts_16 lkX7_80 okX2_isPost sh_1 rfl (Nat.le_of_ble_eq_true rfl) ?_
    refine s_X2_isPost ?_
    rw [hS.1]
    try dsimp only [az_ps]
    refine az_ifeq (t := 38) dX7_parts_19 (by decide) (fun h19 => ?_) (fun h19 => ?_)
    · replace h19 := zb_z h19
      have hq := hQ0 (fun h => h19 h.2.1)
      refine az_iconst (v := -1) dX7_parts_38 (by decide) ?_
      refine az_iret dX7_parts_39 rfl ?_
      exact hq
    · replace h19 := zb_n h19
      refine az_aloadn dX7_parts_22 rfl ?_
      refine az_getr dX7_parts_23 flX7_12 sh_0 rfl ?_
      refine az_iloadn dX7_parts_26 rfl ?_
      refine az_inv1 (N := mX2_isPost) dX7_parts_27 lkX7_80 okX2_isPost sh_1 rfl (Nat.le_of_ble_eq_true rfl) ?_
      refine s_X2_isPost ?_
      rw [hS.1]
      try dsimp only [az_ps]
      refine az_ifeq (t := 38) dX7_parts_30 (by decide) (fun h30 => ?_) (fun h30 => ?_)
      · replace h30 := zb_z h30
        have hq := hQ0 (fun h => h30 h.2.2.1)
        refine az_iconst (v := -1) dX7_parts_38 (by decide) ?_
        refine az_iret dX7_parts_39 rfl ?_
        exact hq
      · replace h30 := zb_n h30
        refine az_iloadn dX7_parts_33 rfl ?_
        refine az_iloadn dX7_parts_34 rfl ?_
        refine az_icmpne (t := 40) dX7_parts_35 (by decide) (fun h35 => ?_) (fun h35 => ?_)
        · have hQ1 := hQ1 ⟨h8, h19, h30, h35⟩
          obtain ⟨s, hs, rfl⟩ := zi_ex (x := x) (N := 2 ^ N) (by omega) h8
          obtain ⟨A, hA, rfl⟩ := zi_ex (by omega) h19
          obtain ⟨B, hB, rfl⟩ := zi_ex (by omega) h30
          rw [nI_clamp (by omega), nI_clamp (by omega)] at hQ1
          have hne : A ≠ B := fun h => h35 (by rw [h])
          have e : (16 * (if nI B < nI A then nI B else nI A) + (if nI A < nI B then nI B else nI A)) = nI (if A < B then 16 * A + B else 16 * B + A) := by
            rcases Nat.lt_or_gt_of_ne hne with h | h
            · rw [if_neg (nI_nlt (by omega) (by omega)), if_pos (nI_lt h (by omega)), if_pos h]
              simp only [az_lit, nI_add, pk_mul]
            · rw [if_pos (nI_lt h (by omega)), if_neg (nI_nlt (by omega) (by omega)), if_neg (by omega)]
              simp only [az_lit, nI_add, pk_mul]
          have hix : (if A < B then 16 * A + B else 16 * B + A) < 256 := by split <;> omega
          refine az_bipush (v := 16) dX7_parts_40 (by decide) ?_
          refine az_iloadn dX7_parts_42 rfl ?_
          refine az_iloadn dX7_parts_43 rfl ?_
          refine az_min dX7_parts_44 lsX7_155 (Nat.le_of_ble_eq_true rfl) (by omega) ?_
          refine az_imul dX7_parts_47 ?_
          refine az_iloadn dX7_parts_48 rfl ?_
          refine az_iloadn dX7_parts_49 rfl ?_
          refine az_max dX7_parts_50 lsX7_161 (Nat.le_of_ble_eq_true rfl) (by omega) ?_
          refine az_iadd dX7_parts_53 ?_
          rw [e]
          refine az_istore dX7_parts_54 (by decide) ?_
          dsimp only [List.set]
          refine az_iloadn dX7_parts_56 rfl ?_
          refine az_aloadn dX7_parts_57 rfl ?_
          refine az_inv0 (N := mX7_freshSight) dX7_parts_58 lkX7_131 okX7_freshSight sh_0 rfl (Nat.le_of_ble_eq_true rfl) ?_
          refine t_X7_fresh hS (fun m1 hF => ?_)
          have hQ1 := hQ1 m1 hF
          have hk : ∃ k, k < 65536 ∧ m1 375 (if A < B then 16 * A + B else 16 * B + A) = nI k := by
            rcases Nat.lt_or_gt_of_ne hne with h | h
            · rw [if_pos h]; exact zC_P hN hF.2.2.1 A B h hB
            · rw [if_neg (by omega)]; exact zC_P hN hF.2.2.1 B A h hA
          try dsimp only [az_ps]
          refine az_pc 61 (by decide) ?_
          refine az_getr dX7_parts_61 flX7_164 sh_371 rfl ?_
          refine az_iload dX7_parts_64 rfl ?_
          refine az_iald (if A < B then 16 * A + B else 16 * B + A) dX7_parts_66 sh_375 hix (by decide) rfl ?_
          refine az_iand dX7_parts_67 ?_
          refine az_ins1 (N := mJ6_bitCount_0f7a4) dX7_parts_68 lsX7_141 okJ6_bitCount_0f7a4 (Nat.le_of_ble_eq_true rfl) ?_
          refine t_bitCount (by obtain ⟨k, hk, ek⟩ := hk; exact ⟨s &&& k, Nat.lt_of_le_of_lt Nat.and_le_left (by omega), by rw [ek, fa_and]⟩) ?_
          try dsimp only [az_ps]
          refine az_iret dX7_parts_71 rfl ?_
          exact hQ1
        · have hq := hQ0 (fun h => h.2.2.2 h35)
          refine az_iconst (v := -1) dX7_parts_38 (by decide) ?_
          refine az_iret dX7_parts_39 rfl ?_
          exact hq
theorem s_X7_clash {x : Int32} (hS : zS mem N) (hZ : zc_Z mem 1) (hQ0 : ¬ (0 ≤ x ∧ x < nI (2 ^ N)) → Q (some (.inl (-2))) mem) (hQ1 : (0 ≤ x ∧ x < nI (2 ^ N)) → ∀ m', zSf mem m' N → Q (some (.inl (zl_clc (m' 375) (m' 376) (mem 1 5) N x (zm_need (mem 1 3) (mem 1 4))))) m') : az_Sp X (d + 4) mX7_clash [.inr 0, .inl x] mem Q := by
  have hN := hS.2.1
  have hp := zi_pow hN
  refine az_body (by decide +kernel) (Nat.le_of_ble_eq_true rfl) ?_
  show az_Ev X _ mX7_clash 0 [some (.inr 0), some (.inl x), none, none, none] [] mem Q
  refine az_aloadn dX7_clash_0 rfl ?_
  refine az_getr dX7_clash_1 flX7_12 sh_0 rfl ?_
  refine az_iloadn dX7_clash_4 rfl ?_
  refine az_inv1 (N := mX2_isSet) dX7_clash_5 lkX7_152 okX2_isSet sh_1 rfl (Nat.le_of_ble_eq_true rfl) ?_
  refine s_X2_isSet ?_
  rw [hS.1, zi_shl N (by omega)]
  try dsimp only [az_ps]
  refine az_ifne (t := 14) dX7_clash_8 (by decide) (fun h8 => ?_) (fun h8 => ?_)
  · replace h8 := zb_n h8
    have hQ1 := hQ1 h8
    obtain ⟨s, hs, ex⟩ := zi_ex (x := x) (N := 2 ^ N) (by omega) h8
    refine az_aloadn dX7_clash_14 rfl ?_
    refine az_inv0 (N := mX7_freshSight) dX7_clash_15 lkX7_131 okX7_freshSight sh_0 rfl (Nat.le_of_ble_eq_true rfl) ?_
    refine t_X7_fresh hS (fun m1 hF => ?_)
    have hQ := hQ1 m1 hF
    have e1 : m1 1 = mem 1 := hF.1 1 (by decide) (by omega)
    unfold zl_clc at hQ
    try dsimp only [az_ps]
    refine az_astoren dX7_clash_18 (by decide) ?_
    dsimp only [List.set]
    refine az_aloadn dX7_clash_19 rfl ?_
    refine az_iloadn dX7_clash_20 rfl ?_
    refine az_aloadn dX7_clash_21 rfl ?_
    refine az_getr dX7_clash_22 flX7_12 sh_0 rfl ?_
    refine az_inv0 (N := mX2_need) dX7_clash_25 lkX7_124 okX2_need sh_1 rfl (Nat.le_of_ble_eq_true rfl) ?_
    refine s_X2_need (by rw [e1]; exact hZ.1) ?_
    rw [e1]
    try dsimp only [az_ps]
    refine az_inv2 (N := mX5_firstPairLacking) dX7_clash_28 lkX7_167 okX5_firstPairLacking sh_371 rfl (Nat.le_of_ble_eq_true rfl) ?_
    refine s_X5_firstPairLacking hF.2.2.1.1 hN (zC_P hN hF.2.2.1) ex (by omega) ?_
    try dsimp only [az_ps]
    refine az_istoren dX7_clash_31 (by decide) ?_
    dsimp only [List.set]
    refine az_iloadn dX7_clash_32 rfl ?_
    refine az_iconst (v := -1) dX7_clash_33 (by decide) ?_
    refine az_icmpne (t := 47) dX7_clash_34 (by decide) (fun h34 => ?_) (fun h34 => ?_)
    · rw [if_neg (fun h => h34 h.1)] at hQ
      refine az_iloadn dX7_clash_47 rfl ?_
      refine az_iret dX7_clash_48 rfl ?_
      exact hQ
    · refine az_aloadn dX7_clash_37 rfl ?_
      refine az_getr dX7_clash_38 flX7_12 sh_0 rfl ?_
      refine az_geti dX7_clash_41 flX7_128 sh_1 rfl ?_
      refine az_ifne (t := 49) dX7_clash_44 (by decide) (fun h44 => ?_) (fun h44 => ?_)
      · rw [e1] at h44
        rw [if_pos ⟨h34, h44⟩] at hQ
        refine az_aloadn dX7_clash_49 rfl ?_
        refine az_iloadn dX7_clash_50 rfl ?_
        refine az_aloadn dX7_clash_51 rfl ?_
        refine az_getr dX7_clash_52 flX7_12 sh_0 rfl ?_
        refine az_inv0 (N := mX2_need) dX7_clash_55 lkX7_124 okX2_need sh_1 rfl (Nat.le_of_ble_eq_true rfl) ?_
        refine s_X2_need (by rw [e1]; exact hZ.1) ?_
        rw [e1]
        try dsimp only [az_ps]
        refine az_inv2 (N := mX5_firstPostLacking) dX7_clash_58 lkX7_170 okX5_firstPostLacking sh_371 rfl (Nat.le_of_ble_eq_true rfl) ?_
        refine s_X5_firstPostLacking hF.2.2.1.1 hN (zC_Y hN hF.2.2.1) ex (by omega) ?_
        try dsimp only [az_ps]
        refine az_istore dX7_clash_61 (by decide) ?_
        dsimp only [List.set]
        refine az_iload dX7_clash_63 rfl ?_
        refine az_iconst (v := -1) dX7_clash_65 (by decide) ?_
        refine az_icmpne (t := 73) dX7_clash_66 (by decide) (fun h66 => ?_) (fun h66 => ?_)
        · rw [if_neg h66] at hQ
          refine az_sipush (v := 1000) dX7_clash_73 (by decide) ?_
          refine az_iload dX7_clash_76 rfl ?_
          refine az_iadd dX7_clash_78 ?_
          refine az_iret dX7_clash_79 rfl ?_
          exact hQ
        · rw [if_pos h66] at hQ
          refine az_iconst (v := -1) dX7_clash_69 (by decide) ?_
          refine az_goto (t := 79) dX7_clash_70 (by decide) ?_
          refine az_iret dX7_clash_79 rfl ?_
          exact hQ
      · rw [e1] at h44
        rw [if_neg (fun h => h.2 h44)] at hQ
        refine az_iloadn dX7_clash_47 rfl ?_
        refine az_iret dX7_clash_48 rfl ?_
        exact hQ
  · replace h8 := zb_z h8
    have hq := hQ0 h8
    refine az_bipush (v := -2) dX7_clash_11 (by decide) ?_
    refine az_iret dX7_clash_13 rfl ?_
    exact hq
theorem s_X7_greedy (hS : zS mem N) (hZ : zc_Z mem 1) (hQ1 : ∀ m' m'', zSf mem m' N → (∀ k, k ≠ 0 → m'' k = m' k) → (∀ j, m'' 0 j = if j = 8 ∧ zg_l (m' 375) (zy_w (m' 375) (zm_need (mem 1 3) (mem 1 4)) N N 0) (zm_need (mem 1 3) (mem 1 4)) N ≤ 0 then zy_w (m' 375) (zm_need (mem 1 3) (mem 1 4)) N N 0 else m' 0 j) → Q (some (.inl (if zg_l (m' 375) (zy_w (m' 375) (zm_need (mem 1 3) (mem 1 4)) N N 0) (zm_need (mem 1 3) (mem 1 4)) N ≤ 0 then zm_many (zy_w (m' 375) (zm_need (mem 1 3) (mem 1 4)) N N 0) else -2 - zg_l (m' 375) (zy_w (m' 375) (zm_need (mem 1 3) (mem 1 4)) N N 0) (zm_need (mem 1 3) (mem 1 4)) N))) m'') : az_Sp X (d + 5) mX7_greedy [.inr 0] mem Q := by
  have hN := hS.2.1
  have hp := zi_pow hN
  have hzw : ∀ (P : Nat → Int32) (nd : Int32) (f s : Nat), s < 2 ^ N → ∃ k, k < 2 ^ N ∧ zy_w P nd N f (nI s) = nI k := by
    intro P nd f
    induction f with
    | zero => intro s hs; exact ⟨s, hs, rfl⟩
    | succ f ih =>
      intro s hs
      rw [zy_w]
      by_cases hb : zg_best P (nI s) nd N = -1
      · rw [if_pos hb]; exact ⟨s, hs, rfl⟩
      · rw [if_neg hb]
        obtain ⟨i, hi, e1, e2, e3, -⟩ := (zg_best_or (P := P) (nd := nd) hN hs).resolve_left hb
        rw [e2]; exact ih _ e3
  refine az_body (by decide +kernel) (Nat.le_of_ble_eq_true rfl) ?_
  show az_Ev X _ mX7_greedy 0 [some (.inr 0), none, none, none, none] [] mem Q
  refine az_aloadn dX7_greedy_0 rfl ?_
  refine az_inv0 (N := mX7_freshSight) dX7_greedy_1 lkX7_131 okX7_freshSight sh_0 rfl (Nat.le_of_ble_eq_true rfl) ?_
  refine t_X7_fresh hS (fun m1 hF => ?_)
  have e1 : m1 1 = mem 1 := hF.1 1 (by decide) (by omega)
  have hQ := fun m2 => hQ1 m1 m2 hF
  obtain ⟨k, hk, ek⟩ := hzw (m1 375) (zm_need (mem 1 3) (mem 1 4)) N 0 (Nat.two_pow_pos N)
  have ek : zy_w (m1 375) (zm_need (mem 1 3) (mem 1 4)) N N 0 = nI k := ek
  try dsimp only [az_ps]
  refine az_astoren dX7_greedy_4 (by decide) ?_
  dsimp only [List.set]
  refine az_aloadn dX7_greedy_5 rfl ?_
  refine az_getr dX7_greedy_6 flX7_12 sh_0 rfl ?_
  refine az_inv0 (N := mX2_need) dX7_greedy_9 lkX7_124 okX2_need sh_1 rfl (Nat.le_of_ble_eq_true rfl) ?_
  refine s_X2_need (by rw [e1]; exact hZ.1) ?_
  rw [e1]
  try dsimp only [az_ps]
  refine az_istoren dX7_greedy_12 (by decide) ?_
  dsimp only [List.set]
  refine az_aloadn dX7_greedy_13 rfl ?_
  refine az_iloadn dX7_greedy_14 rfl ?_
  refine az_inv1 (N := mX5_greedySet) dX7_greedy_15 lkX7_192 okX5_greedySet sh_371 rfl (Nat.le_of_ble_eq_true rfl) ?_
  refine s_X5_greedySet hF.2.2.1.1 hN (zC_P hN hF.2.2.1) ?_
  try dsimp only [az_ps]
  refine az_istoren dX7_greedy_18 (by decide) ?_
  dsimp only [List.set]
  refine az_aloadn dX7_greedy_19 rfl ?_
  refine az_iloadn dX7_greedy_20 rfl ?_
  refine az_pc 21 (by decide) ?_
  refine az_iloadn dX7_greedy_21 rfl ?_
  refine az_inv2 (N := mX5_countPairsLacking) dX7_greedy_22 lkX7_195 okX5_countPairsLacking sh_371 rfl (Nat.le_of_ble_eq_true rfl) ?_
  refine s_X5_countPairsLacking hF.2.2.1.1 hN (zC_P hN hF.2.2.1) ek (by omega) ?_
  try dsimp only [az_ps]
  refine az_istore dX7_greedy_25 (by decide) ?_
  dsimp only [List.set]
  refine az_iload dX7_greedy_27 rfl ?_
  refine az_ifle (t := 38) dX7_greedy_29 (by decide) (fun h29 => ?_) (fun h29 => ?_)
  · have hq := hQ (az_w m1 0 8 (zy_w (m1 375) (zm_need (mem 1 3) (mem 1 4)) N N 0)) (fun k hk => by rw [az_w_ne _ hk]) (fun j => by rw [az_w_eq]; simp [h29])
    rw [if_pos h29] at hq
    refine az_aloadn dX7_greedy_38 rfl ?_
    refine az_iloadn dX7_greedy_39 rfl ?_
    refine az_puti dX7_greedy_40 plX7_62 sh_0 rfl ?_
    refine az_iloadn dX7_greedy_43 rfl ?_
    refine az_ins1 (N := mJ6_bitCount_0f7a4) dX7_greedy_44 lsX7_141 okJ6_bitCount_0f7a4 (Nat.le_of_ble_eq_true rfl) ?_
    refine t_bitCount ⟨k, by omega, ek⟩ ?_
    try dsimp only [az_ps]
    refine az_iret dX7_greedy_47 rfl ?_
    exact hq
  · have hq := hQ m1 (fun _ _ => rfl) (fun j => by rw [if_neg (fun h => h29 h.2)])
    rw [if_neg h29] at hq
    refine az_bipush (v := -2) dX7_greedy_32 (by decide) ?_
    refine az_iload dX7_greedy_34 rfl ?_
    refine az_isub dX7_greedy_36 ?_
    refine az_iret dX7_greedy_37 rfl ?_
    exact hq
theorem s_X7_of {p what : Int32} (hS : zS mem N) (hQ1 : ∀ m', (m' = mem ∨ zSf mem m' N) → (what = 5 → zSf mem m' N ∨ ¬ (0 ≤ p ∧ p < nI N)) → Q (some (.inl (if 0 ≤ p ∧ p < nI N then (if what = 0 then zm_many (zm_mask (zm_bf (mem 2) p.toNatClampNeg) N) else if what = 1 then mem 3 p.toNatClampNeg else if what = 2 then mem 4 p.toNatClampNeg else if what = 3 then mem 5 p.toNatClampNeg else if what = 4 then zm_mask (zm_bf (mem 2) p.toNatClampNeg) N else if what = 5 then zm_reach (m' 373) N p.toNatClampNeg else -1) else -1))) m') : az_Sp X (d + 4) mX7_of [.inr 0, .inl p, .inl what] mem Q := by
  have hN := hS.2.1
  refine az_body (by decide +kernel) (Nat.le_of_ble_eq_true rfl) ?_
  show az_Ev X _ mX7_of 0 [some (.inr 0), some (.inl p), some (.inl what)] [] mem Q
  refine az_aloadn dX7_of_0 rfl ?_
  refine az_getr dX7_of_1 flX7_12 sh_0 rfl ?_
  refine az_iloadn dX7_of_4 rfl ?_
  refine az_inv1 (N := mX2_isPost) dX7_of_5 lkX7_80 okX2_isPost sh_1 rfl (Nat.le_of_ble_eq_true rfl) ?_
  refine s_X2_isPost ?_
  rw [hS.1]
  try dsimp only [az_ps]
  refine az_ifne (t := 13) dX7_of_8 (by decide) (fun h8 => ?_) (fun h8 => ?_)
  · replace h8 := zb_n h8
    have hQ := hQ1
    simp only [if_pos h8] at hQ
    obtain ⟨A, hA, rfl⟩ := zi_ex (by omega) h8
    rw [nI_clamp (by omega)] at hQ
    refine az_iloadn dX7_of_13 rfl ?_
    by_cases hs14_0 : what = 0
    · refine az_tin (off := 38) (t := 52) dX7_of_14 (by rw [hs14_0]; decide) (by rw [hs14_0]; decide) (by rw [hs14_0]; decide) (by decide) ?_
      have hQ := hQ mem (Or.inl rfl) (fun h => absurd (hs14_0.symm.trans h) (by decide))
      rw [if_pos hs14_0] at hQ
      refine az_aloadn dX7_of_52 rfl ?_
      refine az_getr dX7_of_53 flX7_12 sh_0 rfl ?_
      refine az_iloadn dX7_of_56 rfl ?_
      refine az_inv1 (N := mX2_besideBits) dX7_of_57 lkX7_138 okX2_besideBits sh_1 rfl (Nat.le_of_ble_eq_true rfl) ?_
      refine s_X2_besideBits hS.1 hN (by omega) ?_
      try dsimp only [az_ps]
      refine az_ins1 (N := mJ6_bitCount_0f7a4) dX7_of_60 lsX7_141 okJ6_bitCount_0f7a4 (Nat.le_of_ble_eq_true rfl) ?_
      refine t_bitCount (zm_mask_ex _ hN) ?_
      try dsimp only [az_ps]
      refine az_iret dX7_of_63 rfl ?_
      exact hQ
    by_cases hs14_1 : what = 1
    · refine az_tin (off := 50) (t := 64) dX7_of_14 (by rw [hs14_1]; decide) (by rw [hs14_1]; decide) (by rw [hs14_1]; decide) (by decide) ?_
      have hQ := hQ mem (Or.inl rfl) (fun h => absurd (hs14_1.symm.trans h) (by decide))
      rw [if_neg hs14_0, if_pos hs14_1] at hQ
      refine az_aloadn dX7_of_64 rfl ?_
      refine az_getr dX7_of_65 flX7_12 sh_0 rfl ?_
      refine az_getr dX7_of_68 flX7_102 sh_1 rfl ?_
      refine az_iloadn dX7_of_71 rfl ?_
      refine az_iald (A) dX7_of_72 sh_3 (by omega) (by decide) (by simp only [az_lit, nI_add, pk_mul, Nat.add_assoc]) ?_
      refine az_iret dX7_of_73 rfl ?_
      exact hQ
    by_cases hs14_2 : what = 2
    · refine az_tin (off := 60) (t := 74) dX7_of_14 (by rw [hs14_2]; decide) (by rw [hs14_2]; decide) (by rw [hs14_2]; decide) (by decide) ?_
      have hQ := hQ mem (Or.inl rfl) (fun h => absurd (hs14_2.symm.trans h) (by decide))
      rw [if_neg hs14_0, if_neg hs14_1, if_pos hs14_2] at hQ
      refine az_aloadn dX7_of_74 rfl ?_
      refine az_getr dX7_of_75 flX7_12 sh_0 rfl ?_
      refine az_getr dX7_of_78 flX7_106 sh_1 rfl ?_
      refine az_iloadn dX7_of_81 rfl ?_
      refine az_iald (A) dX7_of_82 sh_4 (by omega) (by decide) (by simp only [az_lit, nI_add, pk_mul, Nat.add_assoc]) ?_
      refine az_iret dX7_of_83 rfl ?_
      exact hQ
    by_cases hs14_3 : what = 3
    · refine az_tin (off := 70) (t := 84) dX7_of_14 (by rw [hs14_3]; decide) (by rw [hs14_3]; decide) (by rw [hs14_3]; decide) (by decide) ?_
      have hQ := hQ mem (Or.inl rfl) (fun h => absurd (hs14_3.symm.trans h) (by decide))
      rw [if_neg hs14_0, if_neg hs14_1, if_neg hs14_2, if_pos hs14_3] at hQ
      refine az_aloadn dX7_of_84 rfl ?_
      refine az_getr dX7_of_85 flX7_12 sh_0 rfl ?_
      refine az_getr dX7_of_88 flX7_109 sh_1 rfl ?_
      refine az_iloadn dX7_of_91 rfl ?_
      refine az_iald (A) dX7_of_92 sh_5 (by omega) (by decide) (by simp only [az_lit, nI_add, pk_mul, Nat.add_assoc]) ?_
      refine az_iret dX7_of_93 rfl ?_
      exact hQ
    by_cases hs14_4 : what = 4
    · refine az_tin (off := 80) (t := 94) dX7_of_14 (by rw [hs14_4]; decide) (by rw [hs14_4]; decide) (by rw [hs14_4]; decide) (by decide) ?_
      have hQ := hQ mem (Or.inl rfl) (fun h => absurd (hs14_4.symm.trans h) (by decide))
      rw [if_neg hs14_0, if_neg hs14_1, if_neg hs14_2, if_neg hs14_3, if_pos hs14_4] at hQ
      refine az_aloadn dX7_of_94 rfl ?_
      refine az_getr dX7_of_95 flX7_12 sh_0 rfl ?_
      refine az_iloadn dX7_of_98 rfl ?_
      refine az_inv1 (N := mX2_besideBits) dX7_of_99 lkX7_138 okX2_besideBits sh_1 rfl (Nat.le_of_ble_eq_true rfl) ?_
      refine s_X2_besideBits hS.1 hN (by omega) ?_
      try dsimp only [az_ps]
      refine az_iret dX7_of_102 rfl ?_
      exact hQ
    by_cases hs14_5 : what = 5
    · refine az_tin (off := 89) (t := 103) dX7_of_14 (by rw [hs14_5]; decide) (by rw [hs14_5]; decide) (by rw [hs14_5]; decide) (by decide) ?_
      refine az_aloadn dX7_of_103 rfl ?_
      refine az_inv0 (N := mX7_freshSight) dX7_of_104 lkX7_131 okX7_freshSight sh_0 rfl (Nat.le_of_ble_eq_true rfl) ?_
      refine t_X7_fresh hS (fun m1 hF => ?_)
      have hQ := hQ m1 (Or.inr hF) (fun _ => Or.inl hF)
      rw [if_neg hs14_0, if_neg hs14_1, if_neg hs14_2, if_neg hs14_3, if_neg hs14_4, if_pos hs14_5] at hQ
      try dsimp only [az_ps]
      refine az_iloadn dX7_of_107 rfl ?_
      refine az_inv1 (N := mX5_countReachedFrom) dX7_of_108 lkX7_146 okX5_countReachedFrom sh_371 rfl (Nat.le_of_ble_eq_true rfl) ?_
      refine s_X5_countReachedFrom hF.2.2.1.1 hN (by omega) ?_
      try dsimp only [az_ps]
      refine az_iret dX7_of_111 rfl ?_
      exact hQ
    refine az_tout (t := 112) dX7_of_14 (by have g0 := zi_ne (k := 0) (by decide) hs14_0; have g1 := zi_ne (k := 1) (by decide) hs14_1; have g2 := zi_ne (k := 2) (by decide) hs14_2; have g3 := zi_ne (k := 3) (by decide) hs14_3; have g4 := zi_ne (k := 4) (by decide) hs14_4; have g5 := zi_ne (k := 5) (by decide) hs14_5; omega) (by decide) ?_
    have hQ := hQ mem (Or.inl rfl) (fun h => absurd h hs14_5)
    rw [if_neg hs14_0, if_neg hs14_1, if_neg hs14_2, if_neg hs14_3, if_neg hs14_4, if_neg hs14_5] at hQ
    refine az_iconst (v := -1) dX7_of_112 (by decide) ?_
    refine az_iret dX7_of_113 rfl ?_
    exact hQ
  · replace h8 := zb_z h8
    have hQ := hQ1 mem (Or.inl rfl) (fun _ => Or.inr h8)
    rw [if_neg h8] at hQ
    refine az_iconst (v := -1) dX7_of_11 (by decide) ?_
    refine az_iret dX7_of_12 rfl ?_
    exact hQ
theorem s_X7_about {what : Int32} {wd : Nat} (hn : mem 1 0 = nI N) (hN : N ≤ 16) (hZ : zc_Z mem 1) (hw : mem 1 6 = nI wd) (hw2 : wd < 65536) (hQ : Q (some (.inl (zm_abc (mem 1) N (zm_ends (mem 2) N) (mem 7 2) (mem 369 1) (nI (zn_pc wd)) what))) mem) : az_Sp X (d + 3) mX7_about [.inr 0, .inl what] mem Q := by
  unfold zm_abc at hQ
  refine az_body (by decide +kernel) (Nat.le_of_ble_eq_true rfl) ?_
  show az_Ev X _ mX7_about 0 [some (.inr 0), some (.inl what)] [] mem Q
  refine az_iloadn dX7_about_0 rfl ?_
  by_cases hs1_0 : what = 0
  · refine az_tin (off := 51) (t := 52) dX7_about_1 (by rw [hs1_0]; decide) (by rw [hs1_0]; decide) (by rw [hs1_0]; decide) (by decide) ?_
    rw [if_pos hs1_0] at hQ
    refine az_aloadn dX7_about_52 rfl ?_
    refine az_getr dX7_about_53 flX7_12 sh_0 rfl ?_
    refine az_geti dX7_about_56 flX7_66 sh_1 rfl ?_
    rw [hn]
    refine az_iret dX7_about_59 rfl ?_
    exact hQ
  by_cases hs1_1 : what = 1
  · refine az_tin (off := 59) (t := 60) dX7_about_1 (by rw [hs1_1]; decide) (by rw [hs1_1]; decide) (by rw [hs1_1]; decide) (by decide) ?_
    rw [if_neg hs1_0, if_pos hs1_1] at hQ
    refine az_aloadn dX7_about_60 rfl ?_
    refine az_getr dX7_about_61 flX7_12 sh_0 rfl ?_
    refine az_inv0 (N := mX2_countRoads) dX7_about_64 lkX7_230 okX2_countRoads sh_1 rfl (Nat.le_of_ble_eq_true rfl) ?_
    refine s_X2_countRoads hn hN ?_
    try dsimp only [az_ps]
    refine az_iret dX7_about_67 rfl ?_
    exact hQ
  by_cases hs1_2 : what = 2
  · refine az_tin (off := 67) (t := 68) dX7_about_1 (by rw [hs1_2]; decide) (by rw [hs1_2]; decide) (by rw [hs1_2]; decide) (by decide) ?_
    rw [if_neg hs1_0, if_neg hs1_1, if_pos hs1_2] at hQ
    refine az_aloadn dX7_about_68 rfl ?_
    refine az_getr dX7_about_69 flX7_12 sh_0 rfl ?_
    refine az_geti dX7_about_72 flX7_112 sh_1 rfl ?_
    refine az_iret dX7_about_75 rfl ?_
    exact hQ
  by_cases hs1_3 : what = 3
  · refine az_tin (off := 75) (t := 76) dX7_about_1 (by rw [hs1_3]; decide) (by rw [hs1_3]; decide) (by rw [hs1_3]; decide) (by decide) ?_
    rw [if_neg hs1_0, if_neg hs1_1, if_neg hs1_2, if_pos hs1_3] at hQ
    refine az_aloadn dX7_about_76 rfl ?_
    refine az_getr dX7_about_77 flX7_12 sh_0 rfl ?_
    refine az_geti dX7_about_80 flX7_115 sh_1 rfl ?_
    refine az_iret dX7_about_83 rfl ?_
    exact hQ
  by_cases hs1_4 : what = 4
  · refine az_tin (off := 83) (t := 84) dX7_about_1 (by rw [hs1_4]; decide) (by rw [hs1_4]; decide) (by rw [hs1_4]; decide) (by decide) ?_
    rw [if_neg hs1_0, if_neg hs1_1, if_neg hs1_2, if_neg hs1_3, if_pos hs1_4] at hQ
    refine az_aloadn dX7_about_84 rfl ?_
    refine az_getr dX7_about_85 flX7_12 sh_0 rfl ?_
    refine az_inv0 (N := mX2_need) dX7_about_88 lkX7_124 okX2_need sh_1 rfl (Nat.le_of_ble_eq_true rfl) ?_
    refine s_X2_need hZ.1 ?_
    try dsimp only [az_ps]
    refine az_iret dX7_about_91 rfl ?_
    exact hQ
  by_cases hs1_5 : what = 5
  · refine az_tin (off := 91) (t := 92) dX7_about_1 (by rw [hs1_5]; decide) (by rw [hs1_5]; decide) (by rw [hs1_5]; decide) (by decide) ?_
    rw [if_neg hs1_0, if_neg hs1_1, if_neg hs1_2, if_neg hs1_3, if_neg hs1_4, if_pos hs1_5] at hQ
    refine az_aloadn dX7_about_92 rfl ?_
    refine az_getr dX7_about_93 flX7_12 sh_0 rfl ?_
    refine az_geti dX7_about_96 flX7_128 sh_1 rfl ?_
    refine az_ifeq (t := 106) dX7_about_99 (by decide) (fun h99 => ?_) (fun h99 => ?_)
    · rw [if_pos h99] at hQ
      refine az_iconst (v := 0) dX7_about_106 (by decide) ?_
      refine az_iret dX7_about_107 rfl ?_
      exact hQ
    · rw [if_neg h99] at hQ
      refine az_iconst (v := 1) dX7_about_102 (by decide) ?_
      refine az_goto (t := 107) dX7_about_103 (by decide) ?_
      refine az_iret dX7_about_107 rfl ?_
      exact hQ
  by_cases hs1_6 : what = 6
  · refine az_tin (off := 107) (t := 108) dX7_about_1 (by rw [hs1_6]; decide) (by rw [hs1_6]; decide) (by rw [hs1_6]; decide) (by decide) ?_
    rw [if_neg hs1_0, if_neg hs1_1, if_neg hs1_2, if_neg hs1_3, if_neg hs1_4, if_neg hs1_5, if_pos hs1_6] at hQ
    refine az_aloadn dX7_about_108 rfl ?_
    refine az_getr dX7_about_109 flX7_12 sh_0 rfl ?_
    refine az_geti dX7_about_112 flX7_201 sh_1 rfl ?_
    rw [hw]
    refine az_ins1 (N := mJ6_bitCount_0f7a4) dX7_about_115 lsX7_141 okJ6_bitCount_0f7a4 (Nat.le_of_ble_eq_true rfl) ?_
    refine s_bitCount hw2 ?_
    try dsimp only [az_ps]
    refine az_iret dX7_about_118 rfl ?_
    exact hQ
  by_cases hs1_7 : what = 7
  · refine az_tin (off := 118) (t := 119) dX7_about_1 (by rw [hs1_7]; decide) (by rw [hs1_7]; decide) (by rw [hs1_7]; decide) (by decide) ?_
    rw [if_neg hs1_0, if_neg hs1_1, if_neg hs1_2, if_neg hs1_3, if_neg hs1_4, if_neg hs1_5, if_neg hs1_6, if_pos hs1_7] at hQ
    refine az_aloadn dX7_about_119 rfl ?_
    refine az_getr dX7_about_120 flX7_19 sh_0 rfl ?_
    refine az_geti dX7_about_123 flX7_236 sh_7 rfl ?_
    refine az_iret dX7_about_126 rfl ?_
    exact hQ
  by_cases hs1_8 : what = 8
  · refine az_tin (off := 126) (t := 127) dX7_about_1 (by rw [hs1_8]; decide) (by rw [hs1_8]; decide) (by rw [hs1_8]; decide) (by decide) ?_
    rw [if_neg hs1_0, if_neg hs1_1, if_neg hs1_2, if_neg hs1_3, if_neg hs1_4, if_neg hs1_5, if_neg hs1_6, if_neg hs1_7, if_pos hs1_8] at hQ
    refine az_aloadn dX7_about_127 rfl ?_
    refine az_getr dX7_about_128 flX7_26 sh_0 rfl ?_
    refine az_geti dX7_about_131 flX7_95 sh_369 rfl ?_
    refine az_iret dX7_about_134 rfl ?_
    exact hQ
  refine az_tout (t := 135) dX7_about_1 (by have g0 := zi_ne (k := 0) (by decide) hs1_0; have g1 := zi_ne (k := 1) (by decide) hs1_1; have g2 := zi_ne (k := 2) (by decide) hs1_2; have g3 := zi_ne (k := 3) (by decide) hs1_3; have g4 := zi_ne (k := 4) (by decide) hs1_4; have g5 := zi_ne (k := 5) (by decide) hs1_5; have g6 := zi_ne (k := 6) (by decide) hs1_6; have g7 := zi_ne (k := 7) (by decide) hs1_7; have g8 := zi_ne (k := 8) (by decide) hs1_8; omega) (by decide) ?_
  rw [if_neg hs1_0, if_neg hs1_1, if_neg hs1_2, if_neg hs1_3, if_neg hs1_4, if_neg hs1_5, if_neg hs1_6, if_neg hs1_7, if_neg hs1_8] at hQ
  refine az_iconst (v := -1) dX7_about_135 (by decide) ?_
  refine az_iret dX7_about_136 rfl ?_
  exact hQ
theorem s_X7_canBeAsked {x : Int32} (hn : mem 1 0 = nI N) (hN : N ≤ 16) (hQ : Q (some (.inl (if (0 ≤ x ∧ x < nI (2 ^ N)) ∧ zm_many x ≤ 12 then 1 else 0))) mem) : az_Sp X (d + 1) mX7_canBeAsked [.inr 0, .inl x] mem Q := by
  have hp := zi_pow hN
  refine az_body (by decide +kernel) (Nat.le_of_ble_eq_true rfl) ?_
  show az_Ev X _ mX7_canBeAsked 0 [some (.inr 0), some (.inl x)] [] mem Q
  refine az_aloadn dX7_canBeAsked_0 rfl ?_
  refine az_getr dX7_canBeAsked_1 flX7_12 sh_0 rfl ?_
  refine az_iloadn dX7_canBeAsked_4 rfl ?_
  refine az_inv1 (N := mX2_isSet) dX7_canBeAsked_5 lkX7_152 okX2_isSet sh_1 rfl (Nat.le_of_ble_eq_true rfl) ?_
  refine s_X2_isSet ?_
  rw [hn, zi_shl N (by omega)]
  try dsimp only [az_ps]
  refine az_ifeq (t := 24) dX7_canBeAsked_8 (by decide) (fun h8 => ?_) (fun h8 => ?_)
  · replace h8 := zb_z h8
    rw [if_neg (fun h => h8 h.1)] at hQ
    refine az_iconst (v := 0) dX7_canBeAsked_24 (by decide) ?_
    refine az_zret dX7_canBeAsked_25 rfl (by first | exact Or.inl rfl | exact Or.inr rfl | assumption) ?_
    exact hQ
  · replace h8 := zb_n h8
    obtain ⟨s, hs, ex⟩ := zi_ex (x := x) (N := 2 ^ N) (by omega) h8
    refine az_iloadn dX7_canBeAsked_11 rfl ?_
    refine az_ins1 (N := mJ6_bitCount_0f7a4) dX7_canBeAsked_12 lsX7_141 okJ6_bitCount_0f7a4 (Nat.le_of_ble_eq_true rfl) ?_
    refine t_bitCount ⟨s, by omega, ex⟩ ?_
    try dsimp only [az_ps]
    refine az_bipush (v := 12) dX7_canBeAsked_15 (by decide) ?_
    refine az_icmpgt (t := 24) dX7_canBeAsked_17 (by decide) (fun h17 => ?_) (fun h17 => ?_)
    · rw [if_neg (fun h => absurd h17 (Int32.not_lt.mpr h.2))] at hQ
      refine az_iconst (v := 0) dX7_canBeAsked_24 (by decide) ?_
      refine az_zret dX7_canBeAsked_25 rfl (by first | exact Or.inl rfl | exact Or.inr rfl | assumption) ?_
      exact hQ
    · rw [if_pos ⟨h8, Int32.not_lt.mp h17⟩] at hQ
      refine az_iconst (v := 1) dX7_canBeAsked_20 (by decide) ?_
      refine az_goto (t := 25) dX7_canBeAsked_21 (by decide) ?_
      refine az_zret dX7_canBeAsked_25 rfl (by first | exact Or.inl rfl | exact Or.inr rfl | assumption) ?_
      exact hQ
end CI

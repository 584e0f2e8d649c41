/-! the model's clashes, twins, words -/
def zl_lk (P : Nat → Int32) (x nd : Int32) (a b : Nat) : Bool := !decide (P (16 * a + b) = 0) && decide (zm_many (P (16 * a + b) &&& x) < nd)
def zl_ly (Y : Nat → Int32) (x nd : Int32) (p : Nat) : Bool := decide (zm_many (Y p &&& x) < nd)
def zl_clash (P Y : Nat → Int32) (yw : Int32) (N : Nat) (x nd : Int32) : Int32 := match zf_pr (zl_lk P x nd) N N 0 with
  | some ab => nI (16 * ab.1 + ab.2)
  | none => if yw = 1 then (match zf_in (zl_ly Y x nd) N 0 with
    | some p => nI (1000 + p)
    | none => -1) else -1
def zt_tw (an : Nat → Int32) (N a b : Nat) : Bool := decide (zm_mask (zm_pf an a b) N = 0)
def zw_ag (S an : Nat → Int32) (p m : Nat) : Bool := decide (S (311 + m) = 1) && !decide (S (327 + m) = an (16 * m + p))
def zw_fit (S an : Nat → Int32) (N p : Nat) : Bool := decide (zm_many (zm_mask (zw_ag S an p) N) ≤ if S 4 = 1 then S 3 else 0)
section MB
variable {X : az_X} {d : Nat} {mem : az_M} {Q : Option az_V → az_M → Prop} {N : Nat}
theorem s_X8_clashOf {x : Int32} (hn : mem 392 0 = nI N) (hN : N ≤ 16) (hQ : Q (some (.inl (zl_clash (mem 397) (mem 398) (mem 392 5) N x (zm_need (mem 392 3) (mem 392 4))))) mem) : az_Sp X (d + 1) mX8_clashOf [.inr 391, .inl x] mem Q := by
  refine az_body (by decide +kernel) (Nat.le_of_ble_eq_true rfl) ?_
  show az_Ev X _ mX8_clashOf 0 [some (.inr 391), some (.inl x), none, none, none, none] [] mem Q
  refine az_aloadn dX8_clashOf_0 rfl ?_
  refine az_inv0 (N := mX8_need) dX8_clashOf_1 lkX8_95 okX8_need sh_391 rfl (Nat.le_of_ble_eq_true rfl) ?_
  refine s_X8_need ?_
  try dsimp only [az_ps]
  refine az_istoren dX8_clashOf_4 (by decide) ?_
  dsimp only [List.set]
  refine az_iconst (v := 0) dX8_clashOf_5 (by decide) ?_
  refine az_istoren dX8_clashOf_6 (by decide) ?_
  dsimp only [List.set]
  skip
  generalize zm_need (mem 392 3) (mem 392 4) = nd at hQ ⊢
  refine az_up (fun i => zf_pr (zl_lk (mem 397) x nd) N (N - i) i = zf_pr (zl_lk (mem 397) x nd) N N 0 → ∀ L4 L5, az_Ev X (d + 1) mX8_clashOf 7 [some (.inr 391), some (.inl x), some (.inl nd), some (.inl (nI i)), L4, L5] [] mem Q) N 0 (by omega) (fun i _ hi ih he L4 L5 => ?_) (fun he L4 L5 => ?_) rfl none none
  · rw [zs_sub hi] at he
    refine az_iloadn dX8_clashOf_7 rfl ?_
    refine az_aloadn dX8_clashOf_8 rfl ?_
    refine az_inv0 (N := mX8_n) dX8_clashOf_9 lkX8_62 okX8_n sh_391 rfl (Nat.le_of_ble_eq_true rfl) ?_
    refine t_X8_n hn ?_
    try dsimp only [az_ps]
    refine az_icmpge (t := 79) dX8_clashOf_12 (by decide) (fun h12 => ?_) (fun h12 => ?_)
    · exact absurd h12 (nI_ge (by omega) (by omega))
    refine az_iloadn dX8_clashOf_15 rfl ?_
    refine az_iconst (v := 1) dX8_clashOf_16 (by decide) ?_
    refine az_iadd dX8_clashOf_17 ?_
    refine az_istore dX8_clashOf_18 (by decide) ?_
    dsimp only [List.set]
    rw [nI_1]
    refine az_up (fun j => zf_in (zl_lk (mem 397) x nd i) (N - j) j = zf_in (zl_lk (mem 397) x nd i) (N - (i + 1)) (i + 1) → ∀ L5, az_Ev X (d + 1) mX8_clashOf 20 [some (.inr 391), some (.inl x), some (.inl nd), some (.inl (nI i)), some (.inl (nI j)), L5] [] mem Q) N (i + 1) (by omega) (fun j hj1 hj ih2 he2 L5 => ?_) (fun he2 L5 => ?_) rfl L5
    · rw [zs_sub hj] at he2
      refine az_iload dX8_clashOf_20 rfl ?_
      refine az_aloadn dX8_clashOf_22 rfl ?_
      refine az_inv0 (N := mX8_n) dX8_clashOf_23 lkX8_62 okX8_n sh_391 rfl (Nat.le_of_ble_eq_true rfl) ?_
      refine t_X8_n hn ?_
      try dsimp only [az_ps]
      refine az_icmpge (t := 73) dX8_clashOf_26 (by decide) (fun h26 => ?_) (fun h26 => ?_)
      · exact absurd h26 (nI_ge (by omega) (by omega))
      refine az_aloadn dX8_clashOf_29 rfl ?_
      refine az_getr dX8_clashOf_30 flX8_26 sh_391 rfl ?_
      refine az_bipush (v := 16) dX8_clashOf_33 (by decide) ?_
      refine az_iloadn dX8_clashOf_35 rfl ?_
      refine az_imul dX8_clashOf_36 ?_
      refine az_iload dX8_clashOf_37 rfl ?_
      refine az_iadd dX8_clashOf_39 ?_
      refine az_iald (16 * i + j) dX8_clashOf_40 sh_397 (by omega) (by decide) (by simp only [az_lit, nI_add, pk_mul, Nat.add_assoc]) ?_
      refine az_istore dX8_clashOf_41 (by decide) ?_
      dsimp only [List.set]
      refine az_iload dX8_clashOf_43 rfl ?_
      refine az_ifeq (t := 67) dX8_clashOf_45 (by decide) (fun h45 => ?_) (fun h45 => ?_)
      · rw [zf_in_f (by simp [zl_lk, h45])] at he2
        refine az_iinc (w := 1) dX8_clashOf_67 rfl (by decide) (by decide) ?_
        dsimp only [List.set]
        refine az_goto (t := 20) dX8_clashOf_70 (by decide) ?_
        rw [nI_1]; exact ih2 he2 _
      · refine az_iload dX8_clashOf_48 rfl ?_
        refine az_iloadn dX8_clashOf_50 rfl ?_
        refine az_iand dX8_clashOf_51 ?_
        refine az_ins1 (N := mX8_many) dX8_clashOf_52 lsX8_102 okX8_many (Nat.le_of_ble_eq_true rfl) ?_
        refine s_X8_many ?_
        try dsimp only [az_ps]
        refine az_iloadn dX8_clashOf_55 rfl ?_
        refine az_icmpge (t := 67) dX8_clashOf_56 (by decide) (fun h56 => ?_) (fun h56 => ?_)
        · rw [zf_in_f (by simp [zl_lk, h45]; exact Int32.not_lt.mp (fun h => absurd h56 (Int32.not_le.mpr h)))] at he2
          refine az_iinc (w := 1) dX8_clashOf_67 rfl (by decide) (by decide) ?_
          dsimp only [List.set]
          refine az_goto (t := 20) dX8_clashOf_70 (by decide) ?_
          rw [nI_1]; exact ih2 he2 _
        · rw [zf_in_t (by simp [zl_lk, h45]; exact Int32.not_le.mp h56)] at he2
          rw [zf_pr_t he2.symm] at he
          unfold zl_clash at hQ
          rw [← he] at hQ
          refine az_bipush (v := 16) dX8_clashOf_59 (by decide) ?_
          refine az_iloadn dX8_clashOf_61 rfl ?_
          refine az_imul dX8_clashOf_62 ?_
          refine az_iload dX8_clashOf_63 rfl ?_
          refine az_iadd dX8_clashOf_65 ?_
          refine az_iret dX8_clashOf_66 rfl ?_
          simpa only [az_lit, nI_add, pk_mul] using hQ
    · rw [Nat.sub_self] at he2
      refine az_iload dX8_clashOf_20 rfl ?_
      refine az_aloadn dX8_clashOf_22 rfl ?_
      refine az_inv0 (N := mX8_n) dX8_clashOf_23 lkX8_62 okX8_n sh_391 rfl (Nat.le_of_ble_eq_true rfl) ?_
      refine t_X8_n hn ?_
      try dsimp only [az_ps]
      refine az_icmpge (t := 73) dX8_clashOf_26 (by decide) (fun h26 => ?_) (fun h26 => ?_)
      rotate_left 1
      · exact absurd (Int32.le_refl _) h26
      refine az_iinc (w := 1) dX8_clashOf_73 rfl (by decide) (by decide) ?_
      dsimp only [List.set]
      refine az_goto (t := 7) dX8_clashOf_76 (by decide) ?_
      rw [nI_1]; rw [zf_pr_f he2.symm] at he; exact ih he _ _
  · rw [Nat.sub_self] at he
    have he : zf_pr (zl_lk (mem 397) x nd) N N 0 = none := he.symm
    unfold zl_clash at hQ
    rw [he] at hQ
    dsimp only at hQ
    refine az_iloadn dX8_clashOf_7 rfl ?_
    refine az_aloadn dX8_clashOf_8 rfl ?_
    refine az_inv0 (N := mX8_n) dX8_clashOf_9 lkX8_62 okX8_n sh_391 rfl (Nat.le_of_ble_eq_true rfl) ?_
    refine t_X8_n hn ?_
    try dsimp only [az_ps]
    refine az_icmpge (t := 79) dX8_clashOf_12 (by decide) (fun h12 => ?_) (fun h12 => ?_)
    rotate_left 1
    · exact absurd (Int32.le_refl _) h12
    refine az_iconst (v := 0) dX8_clashOf_79 (by decide) ?_
    refine az_istoren dX8_clashOf_80 (by decide) ?_
    dsimp only [List.set]
    skip
    refine az_up (fun j => zf_in (zl_ly (mem 398) x nd) (N - j) j = zf_in (zl_ly (mem 398) x nd) N 0 → az_Ev X (d + 1) mX8_clashOf 81 [some (.inr 391), some (.inl x), some (.inl nd), some (.inl (nI j)), L4, L5] [] mem Q) N 0 (by omega) (fun j hj1 hj ih2 he2 => ?_) (fun he2 => ?_) rfl
    · rw [zs_sub hj] at he2
      refine az_iloadn dX8_clashOf_81 rfl ?_
      refine az_aloadn dX8_clashOf_82 rfl ?_
      refine az_inv0 (N := mX8_n) dX8_clashOf_83 lkX8_62 okX8_n sh_391 rfl (Nat.le_of_ble_eq_true rfl) ?_
      refine t_X8_n hn ?_
      try dsimp only [az_ps]
      refine az_icmpge (t := 126) dX8_clashOf_86 (by decide) (fun h86 => ?_) (fun h86 => ?_)
      · exact absurd h86 (nI_ge (by omega) (by omega))
      refine az_aloadn dX8_clashOf_89 rfl ?_
      refine az_getr dX8_clashOf_90 flX8_7 sh_391 rfl ?_
      refine az_iconst (v := 5) dX8_clashOf_93 (by decide) ?_
      refine az_iald (5) dX8_clashOf_94 sh_392 (by omega) (by decide) (by simp only [az_lit, nI_add, pk_mul, Nat.add_assoc]) ?_
      refine az_iconst (v := 1) dX8_clashOf_95 (by decide) ?_
      refine az_icmpne (t := 126) dX8_clashOf_96 (by decide) (fun h96 => ?_) (fun h96 => ?_)
      · rw [if_neg h96] at hQ
        refine az_iconst (v := -1) dX8_clashOf_126 (by decide) ?_
        refine az_iret dX8_clashOf_127 rfl ?_
        exact hQ
      · refine az_aloadn dX8_clashOf_99 rfl ?_
        refine az_getr dX8_clashOf_100 flX8_29 sh_391 rfl ?_
        refine az_iloadn dX8_clashOf_103 rfl ?_
        refine az_iald (j) dX8_clashOf_104 sh_398 (by omega) (by decide) (by simp only [az_lit, nI_add, pk_mul, Nat.add_assoc]) ?_
        refine az_iloadn dX8_clashOf_105 rfl ?_
        refine az_iand dX8_clashOf_106 ?_
        refine az_ins1 (N := mX8_many) dX8_clashOf_107 lsX8_102 okX8_many (Nat.le_of_ble_eq_true rfl) ?_
        refine s_X8_many ?_
        try dsimp only [az_ps]
        refine az_iloadn dX8_clashOf_110 rfl ?_
        refine az_icmpge (t := 120) dX8_clashOf_111 (by decide) (fun h111 => ?_) (fun h111 => ?_)
        · rw [zf_in_f (by simp [zl_ly]; exact Int32.not_lt.mp (fun h => absurd h111 (Int32.not_le.mpr h)))] at he2
          refine az_iinc (w := 1) dX8_clashOf_120 rfl (by decide) (by decide) ?_
          dsimp only [List.set]
          refine az_goto (t := 81) dX8_clashOf_123 (by decide) ?_
          rw [nI_1]; exact ih2 he2
        · rw [zf_in_t (by simp [zl_ly]; exact Int32.not_le.mp h111)] at he2
          rw [if_pos h96, ← he2] at hQ
          refine az_sipush (v := 1000) dX8_clashOf_114 (by decide) ?_
          refine az_iloadn dX8_clashOf_117 rfl ?_
          refine az_iadd dX8_clashOf_118 ?_
          refine az_iret dX8_clashOf_119 rfl ?_
          simpa only [az_lit, nI_add, pk_mul] using hQ
    · rw [Nat.sub_self] at he2
      have he2 : zf_in (zl_ly (mem 398) x nd) N 0 = none := he2.symm
      rw [he2] at hQ
      refine az_iloadn dX8_clashOf_81 rfl ?_
      refine az_aloadn dX8_clashOf_82 rfl ?_
      refine az_inv0 (N := mX8_n) dX8_clashOf_83 lkX8_62 okX8_n sh_391 rfl (Nat.le_of_ble_eq_true rfl) ?_
      refine t_X8_n hn ?_
      try dsimp only [az_ps]
      refine az_icmpge (t := 126) dX8_clashOf_86 (by decide) (fun h86 => ?_) (fun h86 => ?_)
      rotate_left 1
      · exact absurd (Int32.le_refl _) h86
      refine az_iconst (v := -1) dX8_clashOf_126 (by decide) ?_
      refine az_iret dX8_clashOf_127 rfl ?_
      by_cases hy : mem 392 5 = 1
      · rw [if_pos hy] at hQ; exact hQ
      · rw [if_neg hy] at hQ; exact hQ
theorem s_X8_twins {k : Int32} (hn : mem 392 0 = nI N) (hN : N ≤ 16) (hQ : Q (some (.inl (if k < 0 then -1 else zr_pr (zk_pr (zt_tw (mem 396) N) k N N 0 0)))) mem) : az_Sp X (d + 4) mX8_twins [.inr 391, .inl k] mem Q := by
  refine az_body (by decide +kernel) (Nat.le_of_ble_eq_true rfl) ?_
  show az_Ev X _ mX8_twins 0 [some (.inr 391), some (.inl k), none, none, none] [] mem Q
  refine az_iconst (v := 0) dX8_twins_0 (by decide) ?_
  refine az_istoren dX8_twins_1 (by decide) ?_
  dsimp only [List.set]
  refine az_iconst (v := 0) dX8_twins_2 (by decide) ?_
  refine az_istoren dX8_twins_3 (by decide) ?_
  dsimp only [List.set]
  skip
  refine az_up (fun i => ∀ c, zk_pr (zt_tw (mem 396) N) k N (N - i) i c = zk_pr (zt_tw (mem 396) N) k N N 0 0 → ∀ L4, az_Ev X (d + 4) mX8_twins 4 [some (.inr 391), some (.inl k), some (.inl c), some (.inl (nI i)), L4] [] mem Q) N 0 (by omega) (fun i _ hi ih c he L4 => ?_) (fun c he L4 => ?_) 0 rfl none
  · rw [zs_sub hi] at he
    refine az_iloadn dX8_twins_4 rfl ?_
    refine az_aloadn dX8_twins_5 rfl ?_
    refine az_inv0 (N := mX8_n) dX8_twins_6 lkX8_62 okX8_n sh_391 rfl (Nat.le_of_ble_eq_true rfl) ?_
    refine t_X8_n hn ?_
    try dsimp only [az_ps]
    refine az_icmpge (t := 71) dX8_twins_9 (by decide) (fun h9 => ?_) (fun h9 => ?_)
    · exact absurd h9 (nI_ge (by omega) (by omega))
    refine az_iloadn dX8_twins_12 rfl ?_
    refine az_iflt (t := 71) dX8_twins_13 (by decide) (fun h13 => ?_) (fun h13 => ?_)
    · rw [if_pos h13] at hQ
      refine az_iconst (v := -1) dX8_twins_71 (by decide) ?_
      exact az_iret dX8_twins_72 rfl hQ
    rw [if_neg h13] at hQ
    refine az_iloadn dX8_twins_16 rfl ?_
    refine az_iconst (v := 1) dX8_twins_17 (by decide) ?_
    refine az_iadd dX8_twins_18 ?_
    refine az_istore dX8_twins_19 (by decide) ?_
    dsimp only [List.set]
    rw [nI_1]
    refine az_up (fun j => ∀ c', zk_in (zt_tw (mem 396) N i) k (N - j) j c' = zk_in (zt_tw (mem 396) N i) k (N - (i + 1)) (i + 1) c → az_Ev X (d + 4) mX8_twins 21 [some (.inr 391), some (.inl k), some (.inl c'), some (.inl (nI i)), some (.inl (nI j))] [] mem Q) N (i + 1) (by omega) (fun j hj1 hj ih2 c' he2 => ?_) (fun c' he2 => ?_) c rfl
    · rw [zs_sub hj] at he2
      refine az_iload dX8_twins_21 rfl ?_
      refine az_aloadn dX8_twins_23 rfl ?_
      refine az_inv0 (N := mX8_n) dX8_twins_24 lkX8_62 okX8_n sh_391 rfl (Nat.le_of_ble_eq_true rfl) ?_
      refine t_X8_n hn ?_
      try dsimp only [az_ps]
      refine az_icmpge (t := 65) dX8_twins_27 (by decide) (fun h27 => ?_) (fun h27 => ?_)
      · exact absurd h27 (nI_ge (by omega) (by omega))
      refine az_aloadn dX8_twins_30 rfl ?_
      refine az_iloadn dX8_twins_31 rfl ?_
      refine az_iload dX8_twins_32 rfl ?_
      refine az_inv2 (N := mX8_areTwins) dX8_twins_34 lkX8_130 okX8_areTwins sh_391 rfl (Nat.le_of_ble_eq_true rfl) ?_
      refine s_X8_areTwins hn hN (by omega) (by omega) ?_
      try dsimp only [az_ps]
      refine az_ifne (t := 43) dX8_twins_37 (by decide) (fun h37 => ?_) (fun h37 => ?_)
      · replace h37 := zb_n h37
        refine az_iloadn dX8_twins_43 rfl ?_
        refine az_iloadn dX8_twins_44 rfl ?_
        refine az_icmpne (t := 56) dX8_twins_45 (by decide) (fun h45 => ?_) (fun h45 => ?_)
        · rw [zk_in_tf (by simp [zt_tw, h37]) h45] at he2
          refine az_iinc (w := 1) dX8_twins_56 rfl (by decide) (by decide) ?_
          dsimp only [List.set]
          refine az_iinc (w := 1) dX8_twins_59 rfl (by decide) (by decide) ?_
          dsimp only [List.set]
          refine az_goto (t := 21) dX8_twins_62 (by decide) ?_
          rw [nI_1]; exact ih2 _ he2
        · rw [zk_in_tt (by simp [zt_tw, h37]) h45] at he2
          rw [zk_pr, ← he2] at he
          rw [← he] at hQ
          refine az_bipush (v := 16) dX8_twins_48 (by decide) ?_
          refine az_iloadn dX8_twins_50 rfl ?_
          refine az_imul dX8_twins_51 ?_
          refine az_iload dX8_twins_52 rfl ?_
          refine az_iadd dX8_twins_54 ?_
          refine az_iret dX8_twins_55 rfl ?_
          simpa only [az_lit, nI_add, pk_mul, zr_pr] using hQ
      · replace h37 := zb_z h37
        rw [zk_in_f (by simp [zt_tw, h37])] at he2
        refine az_goto (t := 59) dX8_twins_40 (by decide) ?_
        refine az_iinc (w := 1) dX8_twins_59 rfl (by decide) (by decide) ?_
        dsimp only [List.set]
        refine az_goto (t := 21) dX8_twins_62 (by decide) ?_
        rw [nI_1]; exact ih2 _ he2
    · rw [Nat.sub_self] at he2
      refine az_iload dX8_twins_21 rfl ?_
      refine az_aloadn dX8_twins_23 rfl ?_
      refine az_inv0 (N := mX8_n) dX8_twins_24 lkX8_62 okX8_n sh_391 rfl (Nat.le_of_ble_eq_true rfl) ?_
      refine t_X8_n hn ?_
      try dsimp only [az_ps]
      refine az_icmpge (t := 65) dX8_twins_27 (by decide) (fun h27 => ?_) (fun h27 => ?_)
      rotate_left 1
      · exact absurd (Int32.le_refl _) h27
      refine az_iinc (w := 1) dX8_twins_65 rfl (by decide) (by decide) ?_
      dsimp only [List.set]
      refine az_goto (t := 4) dX8_twins_68 (by decide) ?_
      rw [nI_1]; rw [zk_pr, ← he2] at he; exact ih _ he _
  · rw [Nat.sub_self] at he
    refine az_iloadn dX8_twins_4 rfl ?_
    refine az_aloadn dX8_twins_5 rfl ?_
    refine az_inv0 (N := mX8_n) dX8_twins_6 lkX8_62 okX8_n sh_391 rfl (Nat.le_of_ble_eq_true rfl) ?_
    refine t_X8_n hn ?_
    try dsimp only [az_ps]
    refine az_icmpge (t := 71) dX8_twins_9 (by decide) (fun h9 => ?_) (fun h9 => ?_)
    rotate_left 1
    · exact absurd (Int32.le_refl _) h9
    refine az_iconst (v := -1) dX8_twins_71 (by decide) ?_
    refine az_iret dX8_twins_72 rfl ?_
    rw [← he] at hQ
    by_cases hk : k < 0
    · rw [if_pos hk] at hQ; exact hQ
    · rw [if_neg hk] at hQ; exact hQ
theorem s_X8_againstBits {p : Nat} (hn : mem 392 0 = nI N) (hN : N ≤ 16) (hp : p < 16) (hQ : Q (some (.inl (zm_mask (zw_ag (mem 392) (mem 396) p) N))) mem) : az_Sp X (d + 1) mX8_againstBits [.inr 391, .inl (nI p)] mem Q := by
  refine az_body (by decide +kernel) (Nat.le_of_ble_eq_true rfl) ?_
  show az_Ev X _ mX8_againstBits 0 [some (.inr 391), some (.inl (nI p)), none, none] [] mem Q
  refine az_iconst (v := 0) dX8_againstBits_0 (by decide) ?_
  refine az_istoren dX8_againstBits_1 (by decide) ?_
  dsimp only [List.set]
  refine az_iconst (v := 0) dX8_againstBits_2 (by decide) ?_
  refine az_istoren dX8_againstBits_3 (by decide) ?_
  dsimp only [List.set]
  skip
  refine az_up (fun i => az_Ev X (d + 1) mX8_againstBits 4 [some (.inr 391), some (.inl (nI p)), some (.inl (zm_mask (zw_ag (mem 392) (mem 396) p) i)), some (.inl (nI i))] [] mem Q) N 0 (by omega) (fun i _ hi ih => ?_) ?_
  · refine az_iloadn dX8_againstBits_4 rfl ?_
    refine az_aloadn dX8_againstBits_5 rfl ?_
    refine az_inv0 (N := mX8_n) dX8_againstBits_6 lkX8_62 okX8_n sh_391 rfl (Nat.le_of_ble_eq_true rfl) ?_
    refine t_X8_n hn ?_
    try dsimp only [az_ps]
    refine az_icmpge (t := 61) dX8_againstBits_9 (by decide) (fun h9 => ?_) (fun h9 => ?_)
    · exact absurd h9 (nI_ge (by omega) (by omega))
    refine az_iloadn dX8_againstBits_12 rfl ?_
    refine az_aloadn dX8_againstBits_13 rfl ?_
    refine az_getr dX8_againstBits_14 flX8_7 sh_391 rfl ?_
    refine az_sipush (v := 311) dX8_againstBits_17 (by decide) ?_
    refine az_iloadn dX8_againstBits_20 rfl ?_
    refine az_iadd dX8_againstBits_21 ?_
    refine az_iald (311 + i) dX8_againstBits_22 sh_392 (by omega) (by decide) (by simp only [az_lit, nI_add, pk_mul, Nat.add_assoc]) ?_
    refine az_iconst (v := 1) dX8_againstBits_23 (by decide) ?_
    refine az_icmpne (t := 52) dX8_againstBits_24 (by decide) (fun h24 => ?_) (fun h24 => ?_)
    · rw [zm_mask_f (by simp [zw_ag, h24])] at ih
      refine az_iconst (v := 0) dX8_againstBits_52 (by decide) ?_
      refine az_ior dX8_againstBits_53 ?_
      refine az_istoren dX8_againstBits_54 (by decide) ?_
      dsimp only [List.set]
      refine az_iinc (w := 1) dX8_againstBits_55 rfl (by decide) (by decide) ?_
      dsimp only [List.set]
      refine az_goto (t := 4) dX8_againstBits_58 (by decide) ?_
      rw [nI_1]; exact ih
    · refine az_aloadn dX8_againstBits_27 rfl ?_
      refine az_getr dX8_againstBits_28 flX8_7 sh_391 rfl ?_
      refine az_sipush (v := 327) dX8_againstBits_31 (by decide) ?_
      refine az_iloadn dX8_againstBits_34 rfl ?_
      refine az_iadd dX8_againstBits_35 ?_
      refine az_iald (327 + i) dX8_againstBits_36 sh_392 (by omega) (by decide) (by simp only [az_lit, nI_add, pk_mul, Nat.add_assoc]) ?_
      refine az_aloadn dX8_againstBits_37 rfl ?_
      refine az_iloadn dX8_againstBits_38 rfl ?_
      refine az_iloadn dX8_againstBits_39 rfl ?_
      refine az_inv2 (N := mX8_answerOf) dX8_againstBits_40 lkX8_105 okX8_answerOf sh_391 rfl (Nat.le_of_ble_eq_true rfl) ?_
      refine s_X8_answerOf (by omega) (by omega) ?_
      try dsimp only [az_ps]
      refine az_icmpeq (t := 52) dX8_againstBits_43 (by decide) (fun h43 => ?_) (fun h43 => ?_)
      · rw [zm_mask_f (by simp [zw_ag, h24, h43])] at ih
        refine az_iconst (v := 0) dX8_againstBits_52 (by decide) ?_
        refine az_ior dX8_againstBits_53 ?_
        refine az_istoren dX8_againstBits_54 (by decide) ?_
        dsimp only [List.set]
        refine az_iinc (w := 1) dX8_againstBits_55 rfl (by decide) (by decide) ?_
        dsimp only [List.set]
        refine az_goto (t := 4) dX8_againstBits_58 (by decide) ?_
        rw [nI_1]; exact ih
      · rw [zm_mask_t (by simp [zw_ag, h24, h43])] at ih
        refine az_iconst (v := 1) dX8_againstBits_46 (by decide) ?_
        refine az_iloadn dX8_againstBits_47 rfl ?_
        refine az_ishl dX8_againstBits_48 ?_
        refine az_goto (t := 53) dX8_againstBits_49 (by decide) ?_
        refine az_ior dX8_againstBits_53 ?_
        refine az_istoren dX8_againstBits_54 (by decide) ?_
        dsimp only [List.set]
        refine az_iinc (w := 1) dX8_againstBits_55 rfl (by decide) (by decide) ?_
        dsimp only [List.set]
        refine az_goto (t := 4) dX8_againstBits_58 (by decide) ?_
        rw [nI_1]; exact ih
  · refine az_iloadn dX8_againstBits_4 rfl ?_
    refine az_aloadn dX8_againstBits_5 rfl ?_
    refine az_inv0 (N := mX8_n) dX8_againstBits_6 lkX8_62 okX8_n sh_391 rfl (Nat.le_of_ble_eq_true rfl) ?_
    refine t_X8_n hn ?_
    try dsimp only [az_ps]
    refine az_icmpge (t := 61) dX8_againstBits_9 (by decide) (fun h9 => ?_) (fun h9 => ?_)
    rotate_left 1
    · exact absurd (Int32.le_refl _) h9
    refine az_iloadn dX8_againstBits_61 rfl ?_
    refine az_iret dX8_againstBits_62 rfl ?_
    exact hQ
theorem s_X8_isFit {p : Nat} (hn : mem 392 0 = nI N) (hN : N ≤ 16) (hp : p < 16) (hQ : Q (some (.inl (if zw_fit (mem 392) (mem 396) N p = true then 1 else 0))) mem) : az_Sp X (d + 2) mX8_isFit [.inr 391, .inl (nI p)] mem Q := by
  refine az_body (by decide +kernel) (Nat.le_of_ble_eq_true rfl) ?_
  show az_Ev X _ mX8_isFit 0 [some (.inr 391), some (.inl (nI p))] [] mem Q
  refine az_aloadn dX8_isFit_0 rfl ?_
  refine az_iloadn dX8_isFit_1 rfl ?_
  refine az_inv1 (N := mX8_againstBits) dX8_isFit_2 lkX8_149 okX8_againstBits sh_391 rfl (Nat.le_of_ble_eq_true rfl) ?_
  refine s_X8_againstBits hn hN hp ?_
  try dsimp only [az_ps]
  refine az_ins1 (N := mX8_many) dX8_isFit_5 lsX8_102 okX8_many (Nat.le_of_ble_eq_true rfl) ?_
  refine s_X8_many ?_
  try dsimp only [az_ps]
  refine az_aloadn dX8_isFit_8 rfl ?_
  refine az_getr dX8_isFit_9 flX8_7 sh_391 rfl ?_
  refine az_iconst (v := 4) dX8_isFit_12 (by decide) ?_
  refine az_iald (4) dX8_isFit_13 sh_392 (by omega) (by decide) (by simp only [az_lit, nI_add, pk_mul, Nat.add_assoc]) ?_
  refine az_iconst (v := 1) dX8_isFit_14 (by decide) ?_
  refine az_icmpne (t := 27) dX8_isFit_15 (by decide) (fun h15 => ?_) (fun h15 => ?_)
  · refine az_iconst (v := 0) dX8_isFit_27 (by decide) ?_
    refine az_icmpgt (t := 35) dX8_isFit_28 (by decide) (fun h28 => ?_) (fun h28 => ?_)
    · rw [if_neg (by simp [zw_fit, h15]; exact h28)] at hQ
      refine az_iconst (v := 0) dX8_isFit_35 (by decide) ?_
      refine az_zret dX8_isFit_36 rfl (by first | exact Or.inl rfl | exact Or.inr rfl | assumption) ?_
      exact hQ
    · rw [if_pos (by simp [zw_fit, h15]; exact Int32.not_lt.mp h28)] at hQ
      refine az_iconst (v := 1) dX8_isFit_31 (by decide) ?_
      refine az_goto (t := 36) dX8_isFit_32 (by decide) ?_
      refine az_zret dX8_isFit_36 rfl (by first | exact Or.inl rfl | exact Or.inr rfl | assumption) ?_
      exact hQ
  · refine az_aloadn dX8_isFit_18 rfl ?_
    refine az_getr dX8_isFit_19 flX8_7 sh_391 rfl ?_
    refine az_iconst (v := 3) dX8_isFit_22 (by decide) ?_
    refine az_iald (3) dX8_isFit_23 sh_392 (by omega) (by decide) (by simp only [az_lit, nI_add, pk_mul, Nat.add_assoc]) ?_
    refine az_goto (t := 28) dX8_isFit_24 (by decide) ?_
    refine az_icmpgt (t := 35) dX8_isFit_28 (by decide) (fun h28 => ?_) (fun h28 => ?_)
    · rw [if_neg (by simp [zw_fit, h15]; exact h28)] at hQ
      refine az_iconst (v := 0) dX8_isFit_35 (by decide) ?_
      refine az_zret dX8_isFit_36 rfl (by first | exact Or.inl rfl | exact Or.inr rfl | assumption) ?_
      exact hQ
    · rw [if_pos (by simp [zw_fit, h15]; exact Int32.not_lt.mp h28)] at hQ
      refine az_iconst (v := 1) dX8_isFit_31 (by decide) ?_
      refine az_goto (t := 36) dX8_isFit_32 (by decide) ?_
      refine az_zret dX8_isFit_36 rfl (by first | exact Or.inl rfl | exact Or.inr rfl | assumption) ?_
      exact hQ
theorem s_X8_fits (hn : mem 392 0 = nI N) (hN : N ≤ 16) (hQ : Q (some (.inl (zm_sum (fun p => if zw_fit (mem 392) (mem 396) N p then 1 else 0) N))) mem) : az_Sp X (d + 3) mX8_fits [.inr 391] mem Q := by
  refine az_body (by decide +kernel) (Nat.le_of_ble_eq_true rfl) ?_
  show az_Ev X _ mX8_fits 0 [some (.inr 391), none, none] [] mem Q
  refine az_iconst (v := 0) dX8_fits_0 (by decide) ?_
  refine az_istoren dX8_fits_1 (by decide) ?_
  dsimp only [List.set]
  refine az_iconst (v := 0) dX8_fits_2 (by decide) ?_
  refine az_istoren dX8_fits_3 (by decide) ?_
  dsimp only [List.set]
  skip
  refine az_up (fun i => az_Ev X (d + 3) mX8_fits 4 [some (.inr 391), some (.inl (zm_sum (fun p => if zw_fit (mem 392) (mem 396) N p then 1 else 0) i)), some (.inl (nI i))] [] mem Q) N 0 (by omega) (fun i _ hi ih => ?_) ?_
  · refine az_iloadn dX8_fits_4 rfl ?_
    refine az_aloadn dX8_fits_5 rfl ?_
    refine az_inv0 (N := mX8_n) dX8_fits_6 lkX8_62 okX8_n sh_391 rfl (Nat.le_of_ble_eq_true rfl) ?_
    refine t_X8_n hn ?_
    try dsimp only [az_ps]
    refine az_icmpge (t := 34) dX8_fits_9 (by decide) (fun h9 => ?_) (fun h9 => ?_)
    · exact absurd h9 (nI_ge (by omega) (by omega))
    refine az_iloadn dX8_fits_12 rfl ?_
    refine az_aloadn dX8_fits_13 rfl ?_
    refine az_iloadn dX8_fits_14 rfl ?_
    refine az_inv1 (N := mX8_isFit) dX8_fits_15 lkX8_152 okX8_isFit sh_391 rfl (Nat.le_of_ble_eq_true rfl) ?_
    refine s_X8_isFit hn hN (by omega) ?_
    try dsimp only [az_ps]
    refine az_ifeq (t := 25) dX8_fits_18 (by decide) (fun h18 => ?_) (fun h18 => ?_)
    · replace h18 := zb_z h18
      rw [zm_sum, if_neg h18] at ih
      refine az_iconst (v := 0) dX8_fits_25 (by decide) ?_
      refine az_iadd dX8_fits_26 ?_
      refine az_istoren dX8_fits_27 (by decide) ?_
      dsimp only [List.set]
      refine az_iinc (w := 1) dX8_fits_28 rfl (by decide) (by decide) ?_
      dsimp only [List.set]
      refine az_goto (t := 4) dX8_fits_31 (by decide) ?_
      rw [nI_1]; exact ih
    · replace h18 := zb_n h18
      rw [zm_sum, if_pos h18] at ih
      refine az_iconst (v := 1) dX8_fits_21 (by decide) ?_
      refine az_goto (t := 26) dX8_fits_22 (by decide) ?_
      refine az_iadd dX8_fits_26 ?_
      refine az_istoren dX8_fits_27 (by decide) ?_
      dsimp only [List.set]
      refine az_iinc (w := 1) dX8_fits_28 rfl (by decide) (by decide) ?_
      dsimp only [List.set]
      refine az_goto (t := 4) dX8_fits_31 (by decide) ?_
      rw [nI_1]; exact ih
  · refine az_iloadn dX8_fits_4 rfl ?_
    refine az_aloadn dX8_fits_5 rfl ?_
    refine az_inv0 (N := mX8_n) dX8_fits_6 lkX8_62 okX8_n sh_391 rfl (Nat.le_of_ble_eq_true rfl) ?_
    refine t_X8_n hn ?_
    try dsimp only [az_ps]
    refine az_icmpge (t := 34) dX8_fits_9 (by decide) (fun h9 => ?_) (fun h9 => ?_)
    rotate_left 1
    · exact absurd (Int32.le_refl _) h9
    refine az_iloadn dX8_fits_34 rfl ?_
    refine az_iret dX8_fits_35 rfl ?_
    exact hQ
def zr_k (r : Nat ⊕ Int32) : Int32 := match r with
  | .inl b => nI b
  | .inr _ => -1
theorem s_X8_where {k : Int32} (hn : mem 392 0 = nI N) (hN : N ≤ 16) (hQ : Q (some (.inl (if k < 0 then -1 else zr_k (zk_in (zw_fit (mem 392) (mem 396) N) k N 0 0)))) mem) : az_Sp X (d + 3) mX8_where [.inr 391, .inl k] mem Q := by
  refine az_body (by decide +kernel) (Nat.le_of_ble_eq_true rfl) ?_
  show az_Ev X _ mX8_where 0 [some (.inr 391), some (.inl k), none, none] [] mem Q
  refine az_iconst (v := 0) dX8_where_0 (by decide) ?_
  refine az_istoren dX8_where_1 (by decide) ?_
  dsimp only [List.set]
  refine az_iconst (v := 0) dX8_where_2 (by decide) ?_
  refine az_istoren dX8_where_3 (by decide) ?_
  dsimp only [List.set]
  skip
  refine az_up (fun j => ∀ c, zk_in (zw_fit (mem 392) (mem 396) N) k (N - j) j c = zk_in (zw_fit (mem 392) (mem 396) N) k N 0 0 → az_Ev X (d + 3) mX8_where 4 [some (.inr 391), some (.inl k), some (.inl c), some (.inl (nI j))] [] mem Q) N 0 (by omega) (fun j hj1 hj ih2 c he2 => ?_) (fun c he2 => ?_) 0 rfl
  · rw [zs_sub hj] at he2
    refine az_iloadn dX8_where_4 rfl ?_
    refine az_aloadn dX8_where_5 rfl ?_
    refine az_inv0 (N := mX8_n) dX8_where_6 lkX8_62 okX8_n sh_391 rfl (Nat.le_of_ble_eq_true rfl) ?_
    refine t_X8_n hn ?_
    try dsimp only [az_ps]
    refine az_icmpge (t := 43) dX8_where_9 (by decide) (fun h9 => ?_) (fun h9 => ?_)
    · exact absurd h9 (nI_ge (by omega) (by omega))
    refine az_iloadn dX8_where_12 rfl ?_
    refine az_iflt (t := 43) dX8_where_13 (by decide) (fun h13 => ?_) (fun h13 => ?_)
    · rw [if_pos h13] at hQ
      refine az_iconst (v := -1) dX8_where_43 (by decide) ?_
      refine az_iret dX8_where_44 rfl ?_
      exact hQ
    · rw [if_neg h13] at hQ
      refine az_aloadn dX8_where_16 rfl ?_
      refine az_iloadn dX8_where_17 rfl ?_
      refine az_inv1 (N := mX8_isFit) dX8_where_18 lkX8_152 okX8_isFit sh_391 rfl (Nat.le_of_ble_eq_true rfl) ?_
      refine s_X8_isFit hn hN (by omega) ?_
      try dsimp only [az_ps]
      refine az_ifne (t := 27) dX8_where_21 (by decide) (fun h21 => ?_) (fun h21 => ?_)
      · replace h21 := zb_n h21
        refine az_iloadn dX8_where_27 rfl ?_
        refine az_iloadn dX8_where_28 rfl ?_
        refine az_icmpne (t := 34) dX8_where_29 (by decide) (fun h29 => ?_) (fun h29 => ?_)
        · rw [zk_in_tf (by simpa using h21) h29] at he2
          refine az_iinc (w := 1) dX8_where_34 rfl (by decide) (by decide) ?_
          dsimp only [List.set]
          refine az_iinc (w := 1) dX8_where_37 rfl (by decide) (by decide) ?_
          dsimp only [List.set]
          refine az_goto (t := 4) dX8_where_40 (by decide) ?_
          rw [nI_1]; exact ih2 _ he2
        · rw [zk_in_tt (by simpa using h21) h29] at he2
          rw [← he2] at hQ
          refine az_iloadn dX8_where_32 rfl ?_
          refine az_iret dX8_where_33 rfl ?_
          exact hQ
      · replace h21 := zb_z h21
        rw [zk_in_f (by simpa using h21)] at he2
        refine az_goto (t := 37) dX8_where_24 (by decide) ?_
        refine az_iinc (w := 1) dX8_where_37 rfl (by decide) (by decide) ?_
        dsimp only [List.set]
        refine az_goto (t := 4) dX8_where_40 (by decide) ?_
        rw [nI_1]; exact ih2 _ he2
  · rw [Nat.sub_self] at he2
    refine az_iloadn dX8_where_4 rfl ?_
    refine az_aloadn dX8_where_5 rfl ?_
    refine az_inv0 (N := mX8_n) dX8_where_6 lkX8_62 okX8_n sh_391 rfl (Nat.le_of_ble_eq_true rfl) ?_
    refine t_X8_n hn ?_
    try dsimp only [az_ps]
    refine az_icmpge (t := 43) dX8_where_9 (by decide) (fun h9 => ?_) (fun h9 => ?_)
    rotate_left 1
    · exact absurd (Int32.le_refl _) h9
    refine az_iconst (v := -1) dX8_where_43 (by decide) ?_
    refine az_iret dX8_where_44 rfl ?_
    rw [← he2] at hQ
    by_cases hk : k < 0
    · rw [if_pos hk] at hQ; exact hQ
    · rw [if_neg hk] at hQ; exact hQ
end MB

/-! the model's sets: what stays, moves, is done; greedy -/
def zs_f (an : Nat → Int32) (s m p q : Nat) : Bool := s.testBit q && decide (an (16 * m + q) = an (16 * m + p))
def zv_mv (B : Nat → Int32) (s : Nat) : Nat → Int32
  | 0 => nI s
  | i + 1 => zv_mv B s i ||| (if s.testBit i then B i else 0)
def zd_f (an : Nat → Int32) (N s a b : Nat) : Bool := s.testBit a && s.testBit b && !zt_tw an N a b
def zd_done (an : Nat → Int32) (N s : Nat) : Bool := (zf_pr (zd_f an N s) N N 0).isNone
def zg_f (P : Nat → Int32) (x nd : Int32) (m a b : Nat) : Int32 := if zl_lk P x nd a b = true ∧ (P (16 * a + b) >>> (nI m &&& 31)) &&& 1 = 1 then 1 else 0
def zg_c (P : Nat → Int32) (x nd : Int32) (N m : Nat) : Int32 := zc_pr (zg_f P x nd m) N N 0 0
def zg_m (c : Nat → Int32) (x : Int32) : Nat → Nat → Int32 → Int32 → Int32
  | 0, _, b, _ => b
  | n + 1, m, b, mo => if (x >>> (nI m &&& 31)) &&& 1 = 1 ∨ c m ≤ mo then zg_m c x n (m + 1) b mo else zg_m c x n (m + 1) (nI m) (c m)
def zg_best (P : Nat → Int32) (x nd : Int32) (N : Nat) : Int32 := zg_m (zg_c P x nd N) x N 0 (-1) 0
def zg_l (P : Nat → Int32) (x nd : Int32) (N : Nat) : Int32 := zc_pr (fun a b => if zl_lk P x nd a b then 1 else 0) N N 0 0
def zg_w (P : Nat → Int32) (nd : Int32) (N : Nat) : Nat → Int32 → Int32 × Int32
  | 0, x => (x, zg_l P x nd N)
  | f + 1, x => if 0 < zg_l P x nd N ∧ 0 ≤ zg_best P x nd N then zg_w P nd N f (x ||| 1 <<< (zg_best P x nd N &&& 31)) else (x, zg_l P x nd N)
section MI
variable {X : az_X} {d : Nat} {mem : az_M} {Q : Option az_V → az_M → Prop} {N : Nat}
theorem s_X8_staying {s m p : Nat} (hn : mem 392 0 = nI N) (hN : N ≤ 16) (hs : s < 65536) (hm : m < 16) (hp : p < 16) (hQ : Q (some (.inl (zm_mask (zs_f (mem 396) s m p) N))) mem) : az_Sp X (d + 1) mX8_staying [.inr 391, .inl (nI s), .inl (nI m), .inl (nI p)] mem Q := by
  refine az_body (by decide +kernel) (Nat.le_of_ble_eq_true rfl) ?_
  show az_Ev X _ mX8_staying 0 [some (.inr 391), some (.inl (nI s)), some (.inl (nI m)), some (.inl (nI p)), none, none] [] mem Q
  refine az_iconst (v := 0) dX8_staying_0 (by decide) ?_
  refine az_istore dX8_staying_1 (by decide) ?_
  dsimp only [List.set]
  refine az_iconst (v := 0) dX8_staying_3 (by decide) ?_
  refine az_istore dX8_staying_4 (by decide) ?_
  dsimp only [List.set]
  skip
  refine az_up (fun i => az_Ev X (d + 1) mX8_staying 6 [some (.inr 391), some (.inl (nI s)), some (.inl (nI m)), some (.inl (nI p)), some (.inl (zm_mask (zs_f (mem 396) s m p) i)), some (.inl (nI i))] [] mem Q) N 0 (by omega) (fun i _ hi ih => ?_) ?_
  · refine az_iload dX8_staying_6 rfl ?_
    refine az_aloadn dX8_staying_8 rfl ?_
    refine az_inv0 (N := mX8_n) dX8_staying_9 lkX8_62 okX8_n sh_391 rfl (Nat.le_of_ble_eq_true rfl) ?_
    refine t_X8_n hn ?_
    try dsimp only [az_ps]
    refine az_icmpge (t := 60) dX8_staying_12 (by decide) (fun h12 => ?_) (fun h12 => ?_)
    · exact absurd h12 (nI_ge (by omega) (by omega))
    refine az_iload dX8_staying_15 rfl ?_
    refine az_iloadn dX8_staying_17 rfl ?_
    refine az_iload dX8_staying_18 rfl ?_
    refine az_ishr dX8_staying_20 ?_
    refine az_iconst (v := 1) dX8_staying_21 (by decide) ?_
    refine az_iand dX8_staying_22 ?_
    refine az_iconst (v := 1) dX8_staying_23 (by decide) ?_
    refine az_icmpne (t := 50) dX8_staying_24 (by decide) (fun h24 => ?_) (fun h24 => ?_)
    · rw [zb_bit1 (by omega) (by omega)] at h24
      rw [zm_mask_f (by simp [zs_f, h24])] at ih
      refine az_iconst (v := 0) dX8_staying_50 (by decide) ?_
      refine az_ior dX8_staying_51 ?_
      refine az_istore dX8_staying_52 (by decide) ?_
      dsimp only [List.set]
      refine az_iinc (w := 1) dX8_staying_54 rfl (by decide) (by decide) ?_
      dsimp only [List.set]
      refine az_goto (t := 6) dX8_staying_57 (by decide) ?_
      rw [nI_1]; exact ih
    · rw [zb_bit1 (by omega) (by omega)] at h24
      refine az_aloadn dX8_staying_27 rfl ?_
      refine az_iloadn dX8_staying_28 rfl ?_
      refine az_iload dX8_staying_29 rfl ?_
      refine az_inv2 (N := mX8_answerOf) dX8_staying_31 lkX8_105 okX8_answerOf sh_391 rfl (Nat.le_of_ble_eq_true rfl) ?_
      refine s_X8_answerOf (by omega) (by omega) ?_
      try dsimp only [az_ps]
      refine az_aloadn dX8_staying_34 rfl ?_
      refine az_iloadn dX8_staying_35 rfl ?_
      refine az_iloadn dX8_staying_36 rfl ?_
      refine az_inv2 (N := mX8_answerOf) dX8_staying_37 lkX8_105 okX8_answerOf sh_391 rfl (Nat.le_of_ble_eq_true rfl) ?_
      refine s_X8_answerOf (by omega) (by omega) ?_
      try dsimp only [az_ps]
      refine az_icmpne (t := 50) dX8_staying_40 (by decide) (fun h40 => ?_) (fun h40 => ?_)
      · rw [zm_mask_f (by simp [zs_f, h40])] at ih
        refine az_iconst (v := 0) dX8_staying_50 (by decide) ?_
        refine az_ior dX8_staying_51 ?_
        refine az_istore dX8_staying_52 (by decide) ?_
        dsimp only [List.set]
        refine az_iinc (w := 1) dX8_staying_54 rfl (by decide) (by decide) ?_
        dsimp only [List.set]
        refine az_goto (t := 6) dX8_staying_57 (by decide) ?_
        rw [nI_1]; exact ih
      · rw [zm_mask_t (by simp [zs_f, h24, h40])] at ih
        refine az_iconst (v := 1) dX8_staying_43 (by decide) ?_
        refine az_iload dX8_staying_44 rfl ?_
        refine az_ishl dX8_staying_46 ?_
        refine az_goto (t := 51) dX8_staying_47 (by decide) ?_
        refine az_ior dX8_staying_51 ?_
        refine az_istore dX8_staying_52 (by decide) ?_
        dsimp only [List.set]
        refine az_iinc (w := 1) dX8_staying_54 rfl (by decide) (by decide) ?_
        dsimp only [List.set]
        refine az_goto (t := 6) dX8_staying_57 (by decide) ?_
        rw [nI_1]; exact ih
  · refine az_iload dX8_staying_6 rfl ?_
    refine az_aloadn dX8_staying_8 rfl ?_
    refine az_inv0 (N := mX8_n) dX8_staying_9 lkX8_62 okX8_n sh_391 rfl (Nat.le_of_ble_eq_true rfl) ?_
    refine t_X8_n hn ?_
    try dsimp only [az_ps]
    refine az_icmpge (t := 60) dX8_staying_12 (by decide) (fun h12 => ?_) (fun h12 => ?_)
    rotate_left 1
    · exact absurd (Int32.le_refl _) h12
    refine az_iload dX8_staying_60 rfl ?_
    refine az_iret dX8_staying_62 rfl ?_
    exact hQ
theorem s_X8_moved {s : Nat} (hn : mem 392 0 = nI N) (hN : N ≤ 16) (hs : s < 65536) (hQ : Q (some (.inl (zv_mv (fun p => zm_mask (zm_bf (zm_len (mem 392)) p) N) s N))) mem) : az_Sp X (d + 2) mX8_moved [.inr 391, .inl (nI s)] mem Q := by
  refine az_body (by decide +kernel) (Nat.le_of_ble_eq_true rfl) ?_
  show az_Ev X _ mX8_moved 0 [some (.inr 391), some (.inl (nI s)), none, none] [] mem Q
  refine az_iloadn dX8_moved_0 rfl ?_
  refine az_istoren dX8_moved_1 (by decide) ?_
  dsimp only [List.set]
  refine az_iconst (v := 0) dX8_moved_2 (by decide) ?_
  refine az_istoren dX8_moved_3 (by decide) ?_
  dsimp only [List.set]
  skip
  refine az_up (fun i => az_Ev X (d + 2) mX8_moved 4 [some (.inr 391), some (.inl (nI s)), some (.inl (zv_mv (fun p => zm_mask (zm_bf (zm_len (mem 392)) p) N) s i)), some (.inl (nI i))] [] mem Q) N 0 (by omega) (fun i _ hi ih => ?_) ?_
  · rw [zv_mv] at ih
    refine az_iloadn dX8_moved_4 rfl ?_
    refine az_aloadn dX8_moved_5 rfl ?_
    refine az_inv0 (N := mX8_n) dX8_moved_6 lkX8_62 okX8_n sh_391 rfl (Nat.le_of_ble_eq_true rfl) ?_
    refine t_X8_n hn ?_
    try dsimp only [az_ps]
    refine az_icmpge (t := 39) dX8_moved_9 (by decide) (fun h9 => ?_) (fun h9 => ?_)
    · exact absurd h9 (nI_ge (by omega) (by omega))
    refine az_iloadn dX8_moved_12 rfl ?_
    refine az_iloadn dX8_moved_13 rfl ?_
    refine az_iloadn dX8_moved_14 rfl ?_
    refine az_ishr dX8_moved_15 ?_
    refine az_iconst (v := 1) dX8_moved_16 (by decide) ?_
    refine az_iand dX8_moved_17 ?_
    refine az_iconst (v := 1) dX8_moved_18 (by decide) ?_
    refine az_icmpne (t := 30) dX8_moved_19 (by decide) (fun h19 => ?_) (fun h19 => ?_)
    · rw [zb_bit1 (by omega) (by omega)] at h19
      rw [if_neg h19] at ih
      refine az_iconst (v := 0) dX8_moved_30 (by decide) ?_
      refine az_ior dX8_moved_31 ?_
      refine az_istoren dX8_moved_32 (by decide) ?_
      dsimp only [List.set]
      refine az_iinc (w := 1) dX8_moved_33 rfl (by decide) (by decide) ?_
      dsimp only [List.set]
      refine az_goto (t := 4) dX8_moved_36 (by decide) ?_
      rw [nI_1]; exact ih
    · rw [zb_bit1 (by omega) (by omega)] at h19
      rw [if_pos h19] at ih
      refine az_aloadn dX8_moved_22 rfl ?_
      refine az_iloadn dX8_moved_23 rfl ?_
      refine az_inv1 (N := mX8_besideBits) dX8_moved_24 lkX8_98 okX8_besideBits sh_391 rfl (Nat.le_of_ble_eq_true rfl) ?_
      refine s_X8_besideBits hn hN (by omega) ?_
      try dsimp only [az_ps]
      refine az_goto (t := 31) dX8_moved_27 (by decide) ?_
      refine az_ior dX8_moved_31 ?_
      refine az_istoren dX8_moved_32 (by decide) ?_
      dsimp only [List.set]
      refine az_iinc (w := 1) dX8_moved_33 rfl (by decide) (by decide) ?_
      dsimp only [List.set]
      refine az_goto (t := 4) dX8_moved_36 (by decide) ?_
      rw [nI_1]; exact ih
  · refine az_iloadn dX8_moved_4 rfl ?_
    refine az_aloadn dX8_moved_5 rfl ?_
    refine az_inv0 (N := mX8_n) dX8_moved_6 lkX8_62 okX8_n sh_391 rfl (Nat.le_of_ble_eq_true rfl) ?_
    refine t_X8_n hn ?_
    try dsimp only [az_ps]
    refine az_icmpge (t := 39) dX8_moved_9 (by decide) (fun h9 => ?_) (fun h9 => ?_)
    rotate_left 1
    · exact absurd (Int32.le_refl _) h9
    refine az_iloadn dX8_moved_39 rfl ?_
    refine az_iret dX8_moved_40 rfl ?_
    exact hQ
theorem x_done0 {x i j : Int32} (hQ : Q (some (.inl 0)) mem) : az_Ev X (d + 4) mX8_isDone 67 [some (.inr 391), some (.inl x), some (.inl 0), some (.inl i), some (.inl j)] [] mem Q := by
  have h4 : ∀ i j, az_Ev X (d + 4) mX8_isDone 4 [some (.inr 391), some (.inl x), some (.inl 0), some (.inl i), some (.inl j)] [] mem Q := by
    intro i j
    refine az_iloadn dX8_isDone_4 rfl ?_
    refine az_aloadn dX8_isDone_5 rfl ?_
    refine az_inv0 (N := mX8_n) dX8_isDone_6 lkX8_62 okX8_n sh_391 rfl (Nat.le_of_ble_eq_true rfl) ?_
    refine s_X8_n ?_
    try dsimp only [az_ps]
    refine az_icmpge (t := 79) dX8_isDone_9 (by decide) (fun h9 => ?_) (fun h9 => ?_)
    · refine az_iloadn dX8_isDone_79 rfl ?_
      refine az_zret dX8_isDone_80 rfl (by first | exact Or.inl rfl | exact Or.inr rfl | assumption) ?_
      exact hQ
    · refine az_iloadn dX8_isDone_12 rfl ?_
      refine az_ifeq (t := 79) dX8_isDone_13 (by decide) (fun h13 => ?_) (fun h13 => ?_)
      rotate_left 1
      · exact absurd rfl h13
      refine az_iloadn dX8_isDone_79 rfl ?_
      refine az_zret dX8_isDone_80 rfl (by first | exact Or.inl rfl | exact Or.inr rfl | assumption) ?_
      exact hQ
  refine az_iinc (w := 1) dX8_isDone_67 rfl (by decide) (by decide) ?_
  dsimp only [List.set]
  refine az_goto (t := 21) dX8_isDone_70 (by decide) ?_
  refine az_iload dX8_isDone_21 rfl ?_
  refine az_aloadn dX8_isDone_23 rfl ?_
  refine az_inv0 (N := mX8_n) dX8_isDone_24 lkX8_62 okX8_n sh_391 rfl (Nat.le_of_ble_eq_true rfl) ?_
  refine s_X8_n ?_
  try dsimp only [az_ps]
  refine az_icmpge (t := 73) dX8_isDone_27 (by decide) (fun h27 => ?_) (fun h27 => ?_)
  · refine az_iinc (w := 1) dX8_isDone_73 rfl (by decide) (by decide) ?_
    dsimp only [List.set]
    refine az_goto (t := 4) dX8_isDone_76 (by decide) ?_
    exact h4 _ _
  · refine az_iloadn dX8_isDone_30 rfl ?_
    refine az_ifeq (t := 73) dX8_isDone_31 (by decide) (fun h31 => ?_) (fun h31 => ?_)
    rotate_left 1
    · exact absurd rfl h31
    refine az_iinc (w := 1) dX8_isDone_73 rfl (by decide) (by decide) ?_
    dsimp only [List.set]
    refine az_goto (t := 4) dX8_isDone_76 (by decide) ?_
    exact h4 _ _
theorem s_X8_isDone {s : Nat} (hn : mem 392 0 = nI N) (hN : N ≤ 16) (hs : s < 65536) (hQ : Q (some (.inl (if zd_done (mem 396) N s = true then 1 else 0))) mem) : az_Sp X (d + 4) mX8_isDone [.inr 391, .inl (nI s)] mem Q := by
  refine az_body (by decide +kernel) (Nat.le_of_ble_eq_true rfl) ?_
  show az_Ev X _ mX8_isDone 0 [some (.inr 391), some (.inl (nI s)), none, none, none] [] mem Q
  refine az_iconst (v := 1) dX8_isDone_0 (by decide) ?_
  refine az_istoren dX8_isDone_1 (by decide) ?_
  dsimp only [List.set]
  refine az_iconst (v := 0) dX8_isDone_2 (by decide) ?_
  refine az_istoren dX8_isDone_3 (by decide) ?_
  dsimp only [List.set]
  skip
  unfold zd_done at hQ
  refine az_up (fun i => zf_pr (zd_f (mem 396) N s) N (N - i) i = zf_pr (zd_f (mem 396) N s) N N 0 → ∀ L4, az_Ev X (d + 4) mX8_isDone 4 [some (.inr 391), some (.inl (nI s)), some (.inl 1), some (.inl (nI i)), L4] [] mem Q) N 0 (by omega) (fun i _ hi ih he L4 => ?_) (fun he L4 => ?_) rfl none
  · rw [zs_sub hi] at he
    refine az_iloadn dX8_isDone_4 rfl ?_
    refine az_aloadn dX8_isDone_5 rfl ?_
    refine az_inv0 (N := mX8_n) dX8_isDone_6 lkX8_62 okX8_n sh_391 rfl (Nat.le_of_ble_eq_true rfl) ?_
    refine t_X8_n hn ?_
    try dsimp only [az_ps]
    refine az_icmpge (t := 79) dX8_isDone_9 (by decide) (fun h9 => ?_) (fun h9 => ?_)
    · exact absurd h9 (nI_ge (by omega) (by omega))
    refine az_iloadn dX8_isDone_12 rfl ?_
    refine az_ifeq (t := 79) dX8_isDone_13 (by decide) (fun h13 => ?_) (fun h13 => ?_)
    · exact absurd h13 (by decide)
    refine az_iloadn dX8_isDone_16 rfl ?_
    refine az_iconst (v := 1) dX8_isDone_17 (by decide) ?_
    refine az_iadd dX8_isDone_18 ?_
    refine az_istore dX8_isDone_19 (by decide) ?_
    dsimp only [List.set]
    rw [nI_1]
    refine az_up (fun j => zf_in (zd_f (mem 396) N s i) (N - j) j = zf_in (zd_f (mem 396) N s i) (N - (i + 1)) (i + 1) → az_Ev X (d + 4) mX8_isDone 21 [some (.inr 391), some (.inl (nI s)), some (.inl 1), some (.inl (nI i)), some (.inl (nI j))] [] mem Q) N (i + 1) (by omega) (fun j hj1 hj ih2 he2 => ?_) (fun he2 => ?_) rfl
    · rw [zs_sub hj] at he2
      refine az_iload dX8_isDone_21 rfl ?_
      refine az_aloadn dX8_isDone_23 rfl ?_
      refine az_inv0 (N := mX8_n) dX8_isDone_24 lkX8_62 okX8_n sh_391 rfl (Nat.le_of_ble_eq_true rfl) ?_
      refine t_X8_n hn ?_
      try dsimp only [az_ps]
      refine az_icmpge (t := 73) dX8_isDone_27 (by decide) (fun h27 => ?_) (fun h27 => ?_)
      · exact absurd h27 (nI_ge (by omega) (by omega))
      refine az_iloadn dX8_isDone_30 rfl ?_
      refine az_ifeq (t := 73) dX8_isDone_31 (by decide) (fun h31 => ?_) (fun h31 => ?_)
      · exact absurd h31 (by decide)
      refine az_iloadn dX8_isDone_34 rfl ?_
      refine az_iloadn dX8_isDone_35 rfl ?_
      refine az_ishr dX8_isDone_36 ?_
      refine az_iconst (v := 1) dX8_isDone_37 (by decide) ?_
      refine az_iand dX8_isDone_38 ?_
      refine az_ifeq (t := 61) dX8_isDone_39 (by decide) (fun h39 => ?_) (fun h39 => ?_)
      · rw [zb_bit0 (by omega) (by omega)] at h39
        rw [zf_in_f (by simp [zd_f, h39])] at he2
        refine az_iconst (v := 1) dX8_isDone_61 (by decide) ?_
        refine az_goto (t := 66) dX8_isDone_62 (by decide) ?_
        refine az_istoren dX8_isDone_66 (by decide) ?_
        dsimp only [List.set]
        refine az_iinc (w := 1) dX8_isDone_67 rfl (by decide) (by decide) ?_
        dsimp only [List.set]
        refine az_goto (t := 21) dX8_isDone_70 (by decide) ?_
        rw [nI_1]; exact ih2 he2
      · rw [zb_bit0 (by omega) (by omega)] at h39
        refine az_iloadn dX8_isDone_42 rfl ?_
        refine az_iload dX8_isDone_43 rfl ?_
        refine az_ishr dX8_isDone_45 ?_
        refine az_iconst (v := 1) dX8_isDone_46 (by decide) ?_
        refine az_iand dX8_isDone_47 ?_
        refine az_ifeq (t := 61) dX8_isDone_48 (by decide) (fun h48 => ?_) (fun h48 => ?_)
        · rw [zb_bit0 (by omega) (by omega)] at h48
          rw [zf_in_f (by simp [zd_f, h48])] at he2
          refine az_iconst (v := 1) dX8_isDone_61 (by decide) ?_
          refine az_goto (t := 66) dX8_isDone_62 (by decide) ?_
          refine az_istoren dX8_isDone_66 (by decide) ?_
          dsimp only [List.set]
          refine az_iinc (w := 1) dX8_isDone_67 rfl (by decide) (by decide) ?_
          dsimp only [List.set]
          refine az_goto (t := 21) dX8_isDone_70 (by decide) ?_
          rw [nI_1]; exact ih2 he2
        · rw [zb_bit0 (by omega) (by omega)] at h48
          refine az_aloadn dX8_isDone_51 rfl ?_
          refine az_iloadn dX8_isDone_52 rfl ?_
          refine az_iload dX8_isDone_53 rfl ?_
          refine az_inv2 (N := mX8_areTwins) dX8_isDone_55 lkX8_130 okX8_areTwins sh_391 rfl (Nat.le_of_ble_eq_true rfl) ?_
          refine s_X8_areTwins hn hN (by omega) (by omega) ?_
          try dsimp only [az_ps]
          refine az_ifeq (t := 65) dX8_isDone_58 (by decide) (fun h58 => ?_) (fun h58 => ?_)
          · replace h58 := zb_z h58
            rw [zf_in_t (by simp [zd_f, zt_tw, h58, h39, h48])] at he2
            rw [zf_pr_t he2.symm] at he
            rw [← he] at hQ
            refine az_iconst (v := 0) dX8_isDone_65 (by decide) ?_
            refine az_istoren dX8_isDone_66 (by decide) ?_
            dsimp only [List.set]
            exact x_done0 hQ
          replace h58 := zb_n h58
          rw [zf_in_f (by simp [zd_f, zt_tw, h58])] at he2
          refine az_iconst (v := 1) dX8_isDone_61 (by decide) ?_
          refine az_goto (t := 66) dX8_isDone_62 (by decide) ?_
          refine az_istoren dX8_isDone_66 (by decide) ?_
          dsimp only [List.set]
          refine az_iinc (w := 1) dX8_isDone_67 rfl (by decide) (by decide) ?_
          dsimp only [List.set]
          refine az_goto (t := 21) dX8_isDone_70 (by decide) ?_
          rw [nI_1]; exact ih2 he2
    · rw [Nat.sub_self] at he2
      refine az_iload dX8_isDone_21 rfl ?_
      refine az_aloadn dX8_isDone_23 rfl ?_
      refine az_inv0 (N := mX8_n) dX8_isDone_24 lkX8_62 okX8_n sh_391 rfl (Nat.le_of_ble_eq_true rfl) ?_
      refine t_X8_n hn ?_
      try dsimp only [az_ps]
      refine az_icmpge (t := 73) dX8_isDone_27 (by decide) (fun h27 => ?_) (fun h27 => ?_)
      rotate_left 1
      · exact absurd (Int32.le_refl _) h27
      refine az_iinc (w := 1) dX8_isDone_73 rfl (by decide) (by decide) ?_
      dsimp only [List.set]
      refine az_goto (t := 4) dX8_isDone_76 (by decide) ?_
      rw [nI_1]; rw [zf_pr_f he2.symm] at he; exact ih he _
  · rw [Nat.sub_self] at he
    rw [← he] at hQ
    refine az_iloadn dX8_isDone_4 rfl ?_
    refine az_aloadn dX8_isDone_5 rfl ?_
    refine az_inv0 (N := mX8_n) dX8_isDone_6 lkX8_62 okX8_n sh_391 rfl (Nat.le_of_ble_eq_true rfl) ?_
    refine t_X8_n hn ?_
    try dsimp only [az_ps]
    refine az_icmpge (t := 79) dX8_isDone_9 (by decide) (fun h9 => ?_) (fun h9 => ?_)
    rotate_left 1
    · exact absurd (Int32.le_refl _) h9
    refine az_iloadn dX8_isDone_79 rfl ?_
    refine az_zret dX8_isDone_80 rfl (by first | exact Or.inl rfl | exact Or.inr rfl | assumption) ?_
    exact hQ
theorem s_X8_isAsked {x : Int32} (hn : mem 392 0 = nI N) (hN : N ≤ 16) (hQ : Q (some (.inl (if (0 ≤ x ∧ x < nI (2 ^ N)) ∧ zm_many x ≤ 12 then 1 else 0))) mem) : az_Sp X (d + 2) mX8_isAsked [.inr 391, .inl x] mem Q := by
  refine az_body (by decide +kernel) (Nat.le_of_ble_eq_true rfl) ?_
  show az_Ev X _ mX8_isAsked 0 [some (.inr 391), some (.inl x)] [] mem Q
  refine az_aloadn dX8_isAsked_0 rfl ?_
  refine az_iloadn dX8_isAsked_1 rfl ?_
  refine az_inv1 (N := mX8_isSet) dX8_isAsked_2 lkX8_118 okX8_isSet sh_391 rfl (Nat.le_of_ble_eq_true rfl) ?_
  refine s_X8_isSet ?_
  rw [hn, zi_shl N (by omega)]
  try dsimp only [az_ps]
  refine az_ifeq (t := 21) dX8_isAsked_5 (by decide) (fun h5 => ?_) (fun h5 => ?_)
  · replace h5 := zb_z h5
    rw [if_neg (fun h => h5 h.1)] at hQ
    refine az_iconst (v := 0) dX8_isAsked_21 (by decide) ?_
    refine az_zret dX8_isAsked_22 rfl (by first | exact Or.inl rfl | exact Or.inr rfl | assumption) ?_
    exact hQ
  · replace h5 := zb_n h5
    refine az_iloadn dX8_isAsked_8 rfl ?_
    refine az_ins1 (N := mX8_many) dX8_isAsked_9 lsX8_102 okX8_many (Nat.le_of_ble_eq_true rfl) ?_
    refine s_X8_many ?_
    try dsimp only [az_ps]
    refine az_bipush (v := 12) dX8_isAsked_12 (by decide) ?_
    refine az_icmpgt (t := 21) dX8_isAsked_14 (by decide) (fun h14 => ?_) (fun h14 => ?_)
    · rw [if_neg (fun h => absurd h14 (Int32.not_lt.mpr h.2))] at hQ
      refine az_iconst (v := 0) dX8_isAsked_21 (by decide) ?_
      refine az_zret dX8_isAsked_22 rfl (by first | exact Or.inl rfl | exact Or.inr rfl | assumption) ?_
      exact hQ
    · rw [if_pos ⟨h5, Int32.not_lt.mp h14⟩] at hQ
      refine az_iconst (v := 1) dX8_isAsked_17 (by decide) ?_
      refine az_goto (t := 22) dX8_isAsked_18 (by decide) ?_
      refine az_zret dX8_isAsked_22 rfl (by first | exact Or.inl rfl | exact Or.inr rfl | assumption) ?_
      exact hQ
theorem s_X8_lacks {b x : Int32} (hQ : Q (some (.inl (if b ≠ 0 ∧ zm_many (b &&& x) < zm_need (mem 392 3) (mem 392 4) then 1 else 0))) mem) : az_Sp X (d + 1) mX8_lacks [.inr 391, .inl b, .inl x] mem Q := by
  refine az_body (by decide +kernel) (Nat.le_of_ble_eq_true rfl) ?_
  show az_Ev X _ mX8_lacks 0 [some (.inr 391), some (.inl b), some (.inl x)] [] mem Q
  refine az_iloadn dX8_lacks_0 rfl ?_
  refine az_ifeq (t := 21) dX8_lacks_1 (by decide) (fun h1 => ?_) (fun h1 => ?_)
  · rw [if_neg (fun h => h.1 h1)] at hQ
    refine az_iconst (v := 0) dX8_lacks_21 (by decide) ?_
    refine az_zret dX8_lacks_22 rfl (by first | exact Or.inl rfl | exact Or.inr rfl | assumption) ?_
    exact hQ
  · refine az_iloadn dX8_lacks_4 rfl ?_
    refine az_iloadn dX8_lacks_5 rfl ?_
    refine az_iand dX8_lacks_6 ?_
    refine az_ins1 (N := mX8_many) dX8_lacks_7 lsX8_102 okX8_many (Nat.le_of_ble_eq_true rfl) ?_
    refine s_X8_many ?_
    try dsimp only [az_ps]
    refine az_aloadn dX8_lacks_10 rfl ?_
    refine az_inv0 (N := mX8_need) dX8_lacks_11 lkX8_95 okX8_need sh_391 rfl (Nat.le_of_ble_eq_true rfl) ?_
    refine s_X8_need ?_
    try dsimp only [az_ps]
    refine az_icmpge (t := 21) dX8_lacks_14 (by decide) (fun h14 => ?_) (fun h14 => ?_)
    · rw [if_neg (fun h => absurd h14 (Int32.not_le.mpr h.2))] at hQ
      refine az_iconst (v := 0) dX8_lacks_21 (by decide) ?_
      refine az_zret dX8_lacks_22 rfl (by first | exact Or.inl rfl | exact Or.inr rfl | assumption) ?_
      exact hQ
    · rw [if_pos ⟨h1, Int32.not_le.mp h14⟩] at hQ
      refine az_iconst (v := 1) dX8_lacks_17 (by decide) ?_
      refine az_goto (t := 22) dX8_lacks_18 (by decide) ?_
      refine az_zret dX8_lacks_22 rfl (by first | exact Or.inl rfl | exact Or.inr rfl | assumption) ?_
      exact hQ
theorem t_X8_lacks {x nd : Int32} {a b : Nat} (e : zm_need (mem 392 3) (mem 392 4) = nd) (hQ : Q (some (.inl (if zl_lk (mem 397) x nd a b = true then 1 else 0))) mem) : az_Sp X (d + 1) mX8_lacks [.inr 391, .inl (mem 397 (16 * a + b)), .inl x] mem Q := by
  refine s_X8_lacks ?_
  rw [e]
  have : (mem 397 (16 * a + b) ≠ 0 ∧ zm_many (mem 397 (16 * a + b) &&& x) < nd) ↔ zl_lk (mem 397) x nd a b = true := by
    simp [zl_lk]
  simp only [this]
  exact hQ
theorem x_gr_b {x nd : Int32} {lk gs bs mo : Option az_V} {m a : Nat} {R : Int32} (hn : mem 392 0 = nI N) (hN : N ≤ 16) (e : zm_need (mem 392 3) (mem 392 4) = nd) (hm : m < N) (ha : a < N)
    (K : ∀ L9, az_Ev X (d + 4) mX8_greedy 123 [some (.inr 391), some (.inl x), lk, gs, bs, mo, some (.inl (nI m)), some (.inl R), some (.inl (nI a)), L9] [] mem Q) (b0 : Nat) (hb0 : b0 ≤ N) (c0 : Int32) (h : zc_in (zg_f (mem 397) x nd m a) (N - b0) b0 c0 = R) : az_Ev X (d + 4) mX8_greedy 55 [some (.inr 391), some (.inl x), lk, gs, bs, mo, some (.inl (nI m)), some (.inl c0), some (.inl (nI a)), some (.inl (nI b0))] [] mem Q := by
  refine az_up (fun b => ∀ c, zc_in (zg_f (mem 397) x nd m a) (N - b) b c = R → az_Ev X (d + 4) mX8_greedy 55 [some (.inr 391), some (.inl x), lk, gs, bs, mo, some (.inl (nI m)), some (.inl c), some (.inl (nI a)), some (.inl (nI b))] [] mem Q) N b0 hb0 (fun b _ hb ih c h => ?_) (fun c h => ?_) c0 h
  · rw [zs_sub hb, zc_in] at h
    refine az_iload dX8_greedy_55 rfl ?_
    refine az_aloadn dX8_greedy_57 rfl ?_
    refine az_inv0 (N := mX8_n) dX8_greedy_58 lkX8_62 okX8_n sh_391 rfl (Nat.le_of_ble_eq_true rfl) ?_
    refine t_X8_n hn ?_
    try dsimp only [az_ps]
    refine az_icmpge (t := 123) dX8_greedy_61 (by decide) (fun h61 => ?_) (fun h61 => ?_)
    · exact absurd h61 (nI_ge (by omega) (by omega))
    refine az_iload dX8_greedy_64 rfl ?_
    refine az_aloadn dX8_greedy_66 rfl ?_
    refine az_aloadn dX8_greedy_67 rfl ?_
    refine az_getr dX8_greedy_68 flX8_26 sh_391 rfl ?_
    refine az_bipush (v := 16) dX8_greedy_71 (by decide) ?_
    refine az_iload dX8_greedy_73 rfl ?_
    refine az_imul dX8_greedy_75 ?_
    refine az_iload dX8_greedy_76 rfl ?_
    refine az_iadd dX8_greedy_78 ?_
    refine az_iald (16 * a + b) dX8_greedy_79 sh_397 (by omega) (by decide) (by simp only [az_lit, nI_add, pk_mul, Nat.add_assoc]) ?_
    refine az_iloadn dX8_greedy_80 rfl ?_
    refine az_inv2 (N := mX8_lacks) dX8_greedy_81 lkX8_146 okX8_lacks sh_391 rfl (Nat.le_of_ble_eq_true rfl) ?_
    refine t_X8_lacks e ?_
    try dsimp only [az_ps]
    refine az_ifeq (t := 113) dX8_greedy_84 (by decide) (fun h84 => ?_) (fun h84 => ?_)
    · replace h84 := zb_z h84
      rw [zg_f, if_neg (fun q => h84 q.1)] at h
      refine az_iconst (v := 0) dX8_greedy_113 (by decide) ?_
      refine az_iadd dX8_greedy_114 ?_
      refine az_istore dX8_greedy_115 (by decide) ?_
      dsimp only [List.set]
      refine az_iinc (w := 1) dX8_greedy_117 rfl (by decide) (by decide) ?_
      dsimp only [List.set]
      refine az_goto (t := 55) dX8_greedy_120 (by decide) ?_
      rw [nI_1]; exact ih _ h
    · replace h84 := zb_n h84
      refine az_aloadn dX8_greedy_87 rfl ?_
      refine az_getr dX8_greedy_88 flX8_26 sh_391 rfl ?_
      refine az_bipush (v := 16) dX8_greedy_91 (by decide) ?_
      refine az_iload dX8_greedy_93 rfl ?_
      refine az_imul dX8_greedy_95 ?_
      refine az_iload dX8_greedy_96 rfl ?_
      refine az_iadd dX8_greedy_98 ?_
      refine az_iald (16 * a + b) dX8_greedy_99 sh_397 (by omega) (by decide) (by simp only [az_lit, nI_add, pk_mul, Nat.add_assoc]) ?_
      refine az_iload dX8_greedy_100 rfl ?_
      refine az_ishr dX8_greedy_102 ?_
      refine az_iconst (v := 1) dX8_greedy_103 (by decide) ?_
      refine az_iand dX8_greedy_104 ?_
      refine az_iconst (v := 1) dX8_greedy_105 (by decide) ?_
      refine az_icmpne (t := 113) dX8_greedy_106 (by decide) (fun h106 => ?_) (fun h106 => ?_)
      · rw [zg_f, if_neg (fun q => h106 q.2)] at h
        refine az_iconst (v := 0) dX8_greedy_113 (by decide) ?_
        refine az_iadd dX8_greedy_114 ?_
        refine az_istore dX8_greedy_115 (by decide) ?_
        dsimp only [List.set]
        refine az_iinc (w := 1) dX8_greedy_117 rfl (by decide) (by decide) ?_
        dsimp only [List.set]
        refine az_goto (t := 55) dX8_greedy_120 (by decide) ?_
        rw [nI_1]; exact ih _ h
      · rw [zg_f, if_pos ⟨h84, h106⟩] at h
        refine az_iconst (v := 1) dX8_greedy_109 (by decide) ?_
        refine az_goto (t := 114) dX8_greedy_110 (by decide) ?_
        refine az_iadd dX8_greedy_114 ?_
        refine az_istore dX8_greedy_115 (by decide) ?_
        dsimp only [List.set]
        refine az_iinc (w := 1) dX8_greedy_117 rfl (by decide) (by decide) ?_
        dsimp only [List.set]
        refine az_goto (t := 55) dX8_greedy_120 (by decide) ?_
        rw [nI_1]; exact ih _ h
  · rw [Nat.sub_self, zc_in] at h
    subst h
    refine az_iload dX8_greedy_55 rfl ?_
    refine az_aloadn dX8_greedy_57 rfl ?_
    refine az_inv0 (N := mX8_n) dX8_greedy_58 lkX8_62 okX8_n sh_391 rfl (Nat.le_of_ble_eq_true rfl) ?_
    refine t_X8_n hn ?_
    try dsimp only [az_ps]
    refine az_icmpge (t := 123) dX8_greedy_61 (by decide) (fun h61 => ?_) (fun h61 => ?_)
    rotate_left 1
    · exact absurd (Int32.le_refl _) h61
    exact K _
theorem x_gr_a {x nd : Int32} {lk gs bs mo : Option az_V} {m : Nat} {R : Int32} (hn : mem 392 0 = nI N) (hN : N ≤ 16) (e : zm_need (mem 392 3) (mem 392 4) = nd) (hm : m < N)
    (K : ∀ L8 L9, az_Ev X (d + 4) mX8_greedy 129 [some (.inr 391), some (.inl x), lk, gs, bs, mo, some (.inl (nI m)), some (.inl R), L8, L9] [] mem Q) (h : zc_pr (zg_f (mem 397) x nd m) N N 0 0 = R) (L9 : Option az_V) : az_Ev X (d + 4) mX8_greedy 40 [some (.inr 391), some (.inl x), lk, gs, bs, mo, some (.inl (nI m)), some (.inl 0), some (.inl 0), L9] [] mem Q := by
  refine az_up (fun a => ∀ c L9, zc_pr (zg_f (mem 397) x nd m) N (N - a) a c = R → az_Ev X (d + 4) mX8_greedy 40 [some (.inr 391), some (.inl x), lk, gs, bs, mo, some (.inl (nI m)), some (.inl c), some (.inl (nI a)), L9] [] mem Q) N 0 (by omega) (fun a _ ha ih c L9 h => ?_) (fun c L9 h => ?_) 0 L9 h
  · rw [zs_sub ha, zc_pr] at h
    refine az_iload dX8_greedy_40 rfl ?_
    refine az_aloadn dX8_greedy_42 rfl ?_
    refine az_inv0 (N := mX8_n) dX8_greedy_43 lkX8_62 okX8_n sh_391 rfl (Nat.le_of_ble_eq_true rfl) ?_
    refine t_X8_n hn ?_
    try dsimp only [az_ps]
    refine az_icmpge (t := 129) dX8_greedy_46 (by decide) (fun h46 => ?_) (fun h46 => ?_)
    · exact absurd h46 (nI_ge (by omega) (by omega))
    refine az_iload dX8_greedy_49 rfl ?_
    refine az_iconst (v := 1) dX8_greedy_51 (by decide) ?_
    refine az_iadd dX8_greedy_52 ?_
    refine az_istore dX8_greedy_53 (by decide) ?_
    dsimp only [List.set]
    rw [nI_1]
    refine x_gr_b hn hN e hm ha (fun L9 => ?_) (a + 1) (by omega) _ rfl
    refine az_iinc (w := 1) dX8_greedy_123 rfl (by decide) (by decide) ?_
    dsimp only [List.set]
    refine az_goto (t := 40) dX8_greedy_126 (by decide) ?_
    rw [nI_1]; exact ih _ _ h
  · rw [Nat.sub_self, zc_pr] at h
    subst h
    refine az_iload dX8_greedy_40 rfl ?_
    refine az_aloadn dX8_greedy_42 rfl ?_
    refine az_inv0 (N := mX8_n) dX8_greedy_43 lkX8_62 okX8_n sh_391 rfl (Nat.le_of_ble_eq_true rfl) ?_
    refine t_X8_n hn ?_
    try dsimp only [az_ps]
    refine az_icmpge (t := 129) dX8_greedy_46 (by decide) (fun h46 => ?_) (fun h46 => ?_)
    rotate_left 1
    · exact absurd (Int32.le_refl _) h46
    exact K _ _
theorem x_gr_m {x nd : Int32} {lk gs : Option az_V} {R : Int32} (hn : mem 392 0 = nI N) (hN : N ≤ 16) (e : zm_need (mem 392 3) (mem 392 4) = nd)
    (K : ∀ L5 L6 L7 L8 L9, az_Ev X (d + 4) mX8_greedy 163 [some (.inr 391), some (.inl x), lk, gs, some (.inl R), L5, L6, L7, L8, L9] [] mem Q) (h : zg_best (mem 397) x nd N = R) (L7 L8 L9 : Option az_V) : az_Ev X (d + 4) mX8_greedy 25 [some (.inr 391), some (.inl x), lk, gs, some (.inl (-1)), some (.inl 0), some (.inl 0), L7, L8, L9] [] mem Q := by
  unfold zg_best at h
  refine az_up (fun m => ∀ b mo L7 L8 L9, zg_m (zg_c (mem 397) x nd N) x (N - m) m b mo = R → az_Ev X (d + 4) mX8_greedy 25 [some (.inr 391), some (.inl x), lk, gs, some (.inl b), some (.inl mo), some (.inl (nI m)), L7, L8, L9] [] mem Q) N 0 (by omega) (fun m _ hm ih b mo L7 L8 L9 h => ?_) (fun b mo L7 L8 L9 h => ?_) (-1) 0 L7 L8 L9 h
  · rw [zs_sub hm, zg_m] at h
    refine az_iload dX8_greedy_25 rfl ?_
    refine az_aloadn dX8_greedy_27 rfl ?_
    refine az_inv0 (N := mX8_n) dX8_greedy_28 lkX8_62 okX8_n sh_391 rfl (Nat.le_of_ble_eq_true rfl) ?_
    refine t_X8_n hn ?_
    try dsimp only [az_ps]
    refine az_icmpge (t := 163) dX8_greedy_31 (by decide) (fun h31 => ?_) (fun h31 => ?_)
    · exact absurd h31 (nI_ge (by omega) (by omega))
    refine az_iconst (v := 0) dX8_greedy_34 (by decide) ?_
    refine az_istore dX8_greedy_35 (by decide) ?_
    dsimp only [List.set]
    refine az_iconst (v := 0) dX8_greedy_37 (by decide) ?_
    refine az_istore dX8_greedy_38 (by decide) ?_
    dsimp only [List.set]
    refine x_gr_a hn hN e hm (fun L8 L9 => ?_) rfl _
    have ec : zc_pr (zg_f (mem 397) x nd m) N N 0 0 = zg_c (mem 397) x nd N m := rfl
    rw [ec]
    refine az_iloadn dX8_greedy_129 rfl ?_
    refine az_iload dX8_greedy_130 rfl ?_
    refine az_ishr dX8_greedy_132 ?_
    refine az_iconst (v := 1) dX8_greedy_133 (by decide) ?_
    refine az_iand dX8_greedy_134 ?_
    refine az_iconst (v := 1) dX8_greedy_135 (by decide) ?_
    refine az_icmpeq (t := 157) dX8_greedy_136 (by decide) (fun h136 => ?_) (fun h136 => ?_)
    · rw [if_pos (Or.inl h136)] at h
      refine az_iinc (w := 1) dX8_greedy_157 rfl (by decide) (by decide) ?_
      dsimp only [List.set]
      refine az_goto (t := 25) dX8_greedy_160 (by decide) ?_
      rw [nI_1]; exact ih _ _ _ _ _ h
    · refine az_iload dX8_greedy_139 rfl ?_
      refine az_iload dX8_greedy_141 rfl ?_
      refine az_icmpgt (t := 149) dX8_greedy_143 (by decide) (fun h143 => ?_) (fun h143 => ?_)
      · rw [if_neg (fun q => q.elim h136 (fun q => absurd h143 (Int32.not_lt.mpr q)))] at h
        refine az_iload dX8_greedy_149 rfl ?_
        refine az_istore dX8_greedy_151 (by decide) ?_
        dsimp only [List.set]
        refine az_iload dX8_greedy_153 rfl ?_
        refine az_istore dX8_greedy_155 (by decide) ?_
        dsimp only [List.set]
        refine az_iinc (w := 1) dX8_greedy_157 rfl (by decide) (by decide) ?_
        dsimp only [List.set]
        refine az_goto (t := 25) dX8_greedy_160 (by decide) ?_
        rw [nI_1]; exact ih _ _ _ _ _ h
      · rw [if_pos (Or.inr (Int32.not_lt.mp h143))] at h
        refine az_goto (t := 157) dX8_greedy_146 (by decide) ?_
        refine az_iinc (w := 1) dX8_greedy_157 rfl (by decide) (by decide) ?_
        dsimp only [List.set]
        refine az_goto (t := 25) dX8_greedy_160 (by decide) ?_
        rw [nI_1]; exact ih _ _ _ _ _ h
  · rw [Nat.sub_self, zg_m] at h
    subst h
    refine az_iload dX8_greedy_25 rfl ?_
    refine az_aloadn dX8_greedy_27 rfl ?_
    refine az_inv0 (N := mX8_n) dX8_greedy_28 lkX8_62 okX8_n sh_391 rfl (Nat.le_of_ble_eq_true rfl) ?_
    refine t_X8_n hn ?_
    try dsimp only [az_ps]
    refine az_icmpge (t := 163) dX8_greedy_31 (by decide) (fun h31 => ?_) (fun h31 => ?_)
    rotate_left 1
    · exact absurd (Int32.le_refl _) h31
    exact K _ _ _ _ _
theorem x_gr_l {x nd : Int32} {gs bs mo L8 L9 : Option az_V} {R : Int32} (hn : mem 392 0 = nI N) (hN : N ≤ 16) (e : zm_need (mem 392 3) (mem 392 4) = nd)
    (K : ∀ L6 L7, az_Ev X (d + 4) mX8_greedy 231 [some (.inr 391), some (.inl x), some (.inl R), gs, bs, mo, L6, L7, L8, L9] [] mem Q) (h : zg_l (mem 397) x nd N = R) (L7 : Option az_V) : az_Ev X (d + 4) mX8_greedy 166 [some (.inr 391), some (.inl x), some (.inl 0), gs, bs, mo, some (.inl 0), L7, L8, L9] [] mem Q := by
  unfold zg_l at h
  refine az_up (fun a => ∀ c L7, zc_pr (fun a b => if zl_lk (mem 397) x nd a b then 1 else 0) N (N - a) a c = R → az_Ev X (d + 4) mX8_greedy 166 [some (.inr 391), some (.inl x), some (.inl c), gs, bs, mo, some (.inl (nI a)), L7, L8, L9] [] mem Q) N 0 (by omega) (fun a _ ha ih c L7 h => ?_) (fun c L7 h => ?_) 0 L7 h
  · rw [zs_sub ha, zc_pr] at h
    refine az_iload dX8_greedy_166 rfl ?_
    refine az_aloadn dX8_greedy_168 rfl ?_
    refine az_inv0 (N := mX8_n) dX8_greedy_169 lkX8_62 okX8_n sh_391 rfl (Nat.le_of_ble_eq_true rfl) ?_
    refine t_X8_n hn ?_
    try dsimp only [az_ps]
    refine az_icmpge (t := 231) dX8_greedy_172 (by decide) (fun h172 => ?_) (fun h172 => ?_)
    · exact absurd h172 (nI_ge (by omega) (by omega))
    refine az_iload dX8_greedy_175 rfl ?_
    refine az_iconst (v := 1) dX8_greedy_177 (by decide) ?_
    refine az_iadd dX8_greedy_178 ?_
    refine az_istore dX8_greedy_179 (by decide) ?_
    dsimp only [List.set]
    rw [nI_1]
    generalize hR2 : zc_in (fun b => if zl_lk (mem 397) x nd a b = true then 1 else 0) (N - (a + 1)) (a + 1) c = R2 at h
    refine az_up (fun b => ∀ c, zc_in (fun b => if zl_lk (mem 397) x nd a b = true then 1 else 0) (N - b) b c = R2 → az_Ev X (d + 4) mX8_greedy 181 [some (.inr 391), some (.inl x), some (.inl c), gs, bs, mo, some (.inl (nI a)), some (.inl (nI b)), L8, L9] [] mem Q) N (a + 1) (by omega) (fun b _ hb ih2 c h2 => ?_) (fun c h2 => ?_) c hR2
    · rw [zs_sub hb, zc_in] at h2
      refine az_iload dX8_greedy_181 rfl ?_
      refine az_aloadn dX8_greedy_183 rfl ?_
      refine az_inv0 (N := mX8_n) dX8_greedy_184 lkX8_62 okX8_n sh_391 rfl (Nat.le_of_ble_eq_true rfl) ?_
      refine t_X8_n hn ?_
      try dsimp only [az_ps]
      refine az_icmpge (t := 225) dX8_greedy_187 (by decide) (fun h187 => ?_) (fun h187 => ?_)
      · exact absurd h187 (nI_ge (by omega) (by omega))
      refine az_iloadn dX8_greedy_190 rfl ?_
      refine az_aloadn dX8_greedy_191 rfl ?_
      refine az_aloadn dX8_greedy_192 rfl ?_
      refine az_getr dX8_greedy_193 flX8_26 sh_391 rfl ?_
      refine az_bipush (v := 16) dX8_greedy_196 (by decide) ?_
      refine az_iload dX8_greedy_198 rfl ?_
      refine az_imul dX8_greedy_200 ?_
      refine az_iload dX8_greedy_201 rfl ?_
      refine az_iadd dX8_greedy_203 ?_
      refine az_iald (16 * a + b) dX8_greedy_204 sh_397 (by omega) (by decide) (by simp only [az_lit, nI_add, pk_mul, Nat.add_assoc]) ?_
      refine az_iloadn dX8_greedy_205 rfl ?_
      refine az_inv2 (N := mX8_lacks) dX8_greedy_206 lkX8_146 okX8_lacks sh_391 rfl (Nat.le_of_ble_eq_true rfl) ?_
      refine t_X8_lacks e ?_
      try dsimp only [az_ps]
      refine az_ifeq (t := 216) dX8_greedy_209 (by decide) (fun h209 => ?_) (fun h209 => ?_)
      · replace h209 := zb_z h209
        rw [if_neg h209] at h2
        refine az_iconst (v := 0) dX8_greedy_216 (by decide) ?_
        refine az_iadd dX8_greedy_217 ?_
        refine az_istoren dX8_greedy_218 (by decide) ?_
        dsimp only [List.set]
        refine az_iinc (w := 1) dX8_greedy_219 rfl (by decide) (by decide) ?_
        dsimp only [List.set]
        refine az_goto (t := 181) dX8_greedy_222 (by decide) ?_
        rw [nI_1]; exact ih2 _ h2
      · replace h209 := zb_n h209
        rw [if_pos h209] at h2
        refine az_iconst (v := 1) dX8_greedy_212 (by decide) ?_
        refine az_goto (t := 217) dX8_greedy_213 (by decide) ?_
        refine az_iadd dX8_greedy_217 ?_
        refine az_istoren dX8_greedy_218 (by decide) ?_
        dsimp only [List.set]
        refine az_iinc (w := 1) dX8_greedy_219 rfl (by decide) (by decide) ?_
        dsimp only [List.set]
        refine az_goto (t := 181) dX8_greedy_222 (by decide) ?_
        rw [nI_1]; exact ih2 _ h2
    · rw [Nat.sub_self, zc_in] at h2
      subst h2
      refine az_iload dX8_greedy_181 rfl ?_
      refine az_aloadn dX8_greedy_183 rfl ?_
      refine az_inv0 (N := mX8_n) dX8_greedy_184 lkX8_62 okX8_n sh_391 rfl (Nat.le_of_ble_eq_true rfl) ?_
      refine t_X8_n hn ?_
      try dsimp only [az_ps]
      refine az_icmpge (t := 225) dX8_greedy_187 (by decide) (fun h187 => ?_) (fun h187 => ?_)
      rotate_left 1
      · exact absurd (Int32.le_refl _) h187
      refine az_iinc (w := 1) dX8_greedy_225 rfl (by decide) (by decide) ?_
      dsimp only [List.set]
      refine az_goto (t := 166) dX8_greedy_228 (by decide) ?_
      rw [nI_1]; exact ih _ _ h
  · rw [Nat.sub_self, zc_pr] at h
    subst h
    refine az_iload dX8_greedy_166 rfl ?_
    refine az_aloadn dX8_greedy_168 rfl ?_
    refine az_inv0 (N := mX8_n) dX8_greedy_169 lkX8_62 okX8_n sh_391 rfl (Nat.le_of_ble_eq_true rfl) ?_
    refine t_X8_n hn ?_
    try dsimp only [az_ps]
    refine az_icmpge (t := 231) dX8_greedy_172 (by decide) (fun h172 => ?_) (fun h172 => ?_)
    rotate_left 1
    · exact absurd (Int32.le_refl _) h172
    exact K _ _
theorem zg_m_spec {c : Nat → Int32} {x : Int32} : ∀ (n m : Nat) (b mo : Int32), zg_m c x n m b mo = b ∨ ∃ i, m ≤ i ∧ i < m + n ∧ zg_m c x n m b mo = nI i ∧ ¬ (x >>> (nI i &&& 31)) &&& 1 = 1
  | 0, _, _, _ => Or.inl rfl
  | n + 1, m, b, mo => by
    rw [zg_m]
    split
    · rcases zg_m_spec (c := c) (x := x) n (m + 1) b mo with h | ⟨i, h1, h2, h3, h4⟩
      · exact Or.inl h
      · exact Or.inr ⟨i, by omega, by omega, h3, h4⟩
    · next hc =>
      rcases zg_m_spec (c := c) (x := x) n (m + 1) (nI m) (c m) with h | ⟨i, h1, h2, h3, h4⟩
      · exact Or.inr ⟨m, Nat.le_refl _, by omega, h, fun q => hc (Or.inl q)⟩
      · exact Or.inr ⟨i, by omega, by omega, h3, h4⟩
/-- what is left to put -/
def zg_v (N s : Nat) : Nat := fb_ct (fun i => !s.testBit i) N
theorem zg_step {P : Nat → Int32} {nd : Int32} {s : Nat} (hN : N ≤ 16) (hs : s < 2 ^ N) (h : 0 ≤ zg_best P (nI s) nd N) : ∃ i, i < N ∧ zg_best P (nI s) nd N = nI i ∧ (nI s ||| 1 <<< (zg_best P (nI s) nd N &&& 31)) = nI (s ||| 2 ^ i) ∧ (s ||| 2 ^ i) < 2 ^ N ∧ zg_v N (s ||| 2 ^ i) + 1 = zg_v N s := by
  have hp := zi_pow hN
  rcases zg_m_spec (c := zg_c P (nI s) nd N) (x := nI s) N 0 (-1) 0 with hb | ⟨i, -, h2, h3, h4⟩
  · unfold zg_best at h
    rw [hb] at h
    exact absurd h (by decide)
  · have hi : i < N := by omega
    refine ⟨i, hi, h3, ?_, ?_, ?_⟩
    · show nI s ||| 1 <<< (zg_m (zg_c P (nI s) nd N) (nI s) N 0 (-1) 0 &&& 31) = _
      rw [h3, zb_shl1 i (by omega), fa_or]
    · exact Nat.or_lt_two_pow hs (Nat.pow_lt_pow_right (by decide) hi)
    · rw [zb_bit1 (by omega) (by omega)] at h4
      have hf : s.testBit i = false := by simpa using h4
      unfold zg_v
      have := fb_ct_upd (fun k => !s.testBit k) false hi
      have e2 : (fun k => if k = i then false else !s.testBit k) = fun k => !(s ||| 2 ^ i).testBit k := by
        funext k
        rw [Nat.testBit_or, Nat.testBit_two_pow]
        by_cases hk : k = i
        · subst hk; simp
        · have : ¬ i = k := fun h => hk h.symm
          simp [hk, this]
      rw [e2] at this
      simp only [hf, Bool.not_false, if_true] at this
      simpa using this
theorem zg_v0 {s : Nat} (h : zg_v N s = 0) {i : Nat} (hi : i < N) : s.testBit i = true := by
  have := fb_ct_zero.mp h i hi
  simpa using this
theorem s_X8_greedy (hn : mem 392 0 = nI N) (hN : N ≤ 16) (hQ : ∀ m' P, (∀ k, k ≠ 391 → k ≠ 397 → k ≠ 398 → m' k = mem k) → (∀ a b, a < b → b < N → P (16 * a + b) = zm_P (mem 396) N (16 * a + b)) → (∀ j, m' 391 j = if j = 6 ∧ (zg_w P (zm_need (mem 392 3) (mem 392 4)) N N 0).2 ≤ 0 then (zg_w P (zm_need (mem 392 3) (mem 392 4)) N N 0).1 else mem 391 j) → Q (some (.inl (if (zg_w P (zm_need (mem 392 3) (mem 392 4)) N N 0).2 ≤ 0 then zm_many (zg_w P (zm_need (mem 392 3) (mem 392 4)) N N 0).1 else -2 - (zg_w P (zm_need (mem 392 3) (mem 392 4)) N N 0).2))) m') : az_Sp X (d + 4) mX8_greedy [.inr 391] mem Q := by
  refine az_body (by decide +kernel) (Nat.le_of_ble_eq_true rfl) ?_
  show az_Ev X _ mX8_greedy 0 [some (.inr 391), none, none, none, none, none, none, none, none, none] [] mem Q
  refine az_aloadn dX8_greedy_0 rfl ?_
  refine az_inv0 (N := mX8_gather) dX8_greedy_1 lkX8_124 okX8_gather sh_391 rfl (Nat.le_of_ble_eq_true rfl) ?_
  refine s_X8_gather hn hN (fun m' hf h1 h2 => ?_)
  try dsimp only [az_ps]
  refine az_iconst (v := 0) dX8_greedy_4 (by decide) ?_
  refine az_istoren dX8_greedy_5 (by decide) ?_
  dsimp only [List.set]
  refine az_iconst (v := 1) dX8_greedy_6 (by decide) ?_
  refine az_istoren dX8_greedy_7 (by decide) ?_
  dsimp only [List.set]
  refine az_iconst (v := 1) dX8_greedy_8 (by decide) ?_
  refine az_istoren dX8_greedy_9 (by decide) ?_
  dsimp only [List.set]
  skip
  have e2 : m' 392 = mem 392 := hf 392 (by decide) (by decide)
  have hn' : m' 392 0 = nI N := by rw [e2]; exact hn
  have hQ := fun m2 g1 g2 => hQ m2 (m' 397) g1 (fun a b ha hb => by rw [h1 a b ha hb, zm_P_at (by omega)]) g2
  generalize hnd : zm_need (mem 392 3) (mem 392 4) = nd at hQ
  have hnd' : zm_need (m' 392 3) (m' 392 4) = nd := by rw [e2]; exact hnd
  generalize hR : zg_w (m' 397) nd N N 0 = R at hQ
  have fin : ∀ L4 L5 L6 L7 L8 L9, az_Ev X (d + 4) mX8_greedy 260 [some (.inr 391), some (.inl R.1), some (.inl R.2), some (.inl 0), L4, L5, L6, L7, L8, L9] [] m' Q := by
    intro L4 L5 L6 L7 L8 L9
    refine az_iloadn dX8_greedy_260 rfl ?_
    refine az_ifle (t := 269) dX8_greedy_261 (by decide) (fun h261 => ?_) (fun h261 => ?_)
    · have hq := hQ (az_w m' 391 6 R.1) (fun k k1 k2 k3 => by rw [az_w_ne _ k1]; exact hf k k2 k3) (fun j => by rw [az_w_eq, hf 391 (by decide) (by decide)]; simp [h261])
      rw [if_pos h261] at hq
      refine az_aloadn dX8_greedy_269 rfl ?_
      refine az_iloadn dX8_greedy_270 rfl ?_
      refine az_puti dX8_greedy_271 plX8_140 sh_391 rfl ?_
      refine az_iloadn dX8_greedy_274 rfl ?_
      refine az_ins1 (N := mX8_many) dX8_greedy_275 lsX8_102 okX8_many (Nat.le_of_ble_eq_true rfl) ?_
      refine s_X8_many ?_
      try dsimp only [az_ps]
      refine az_iret dX8_greedy_278 rfl ?_
      exact hq
    · have hq := hQ m' (fun k k1 k2 k3 => hf k k2 k3) (fun j => by rw [hf 391 (by decide) (by decide), if_neg (fun h => h261 h.2)])
      rw [if_neg h261] at hq
      refine az_bipush (v := -2) dX8_greedy_264 (by decide) ?_
      refine az_iloadn dX8_greedy_266 rfl ?_
      refine az_isub dX8_greedy_267 ?_
      refine az_iret dX8_greedy_268 rfl ?_
      exact hq
  have main : ∀ (f s : Nat), s < 2 ^ N → zg_v N s ≤ f → zg_w (m' 397) nd N f (nI s) = R → ∀ L2 L4 L5 L6 L7 L8 L9, az_Ev X (d + 4) mX8_greedy 10 [some (.inr 391), some (.inl (nI s)), L2, some (.inl 1), L4, L5, L6, L7, L8, L9] [] m' Q := by
    intro f
    induction f with
    | zero =>
      intro s hs hv hw L2 L4 L5 L6 L7 L8 L9
      have hb : ¬ 0 ≤ zg_best (m' 397) (nI s) nd N := fun h => by
        obtain ⟨i, -, -, -, -, h5⟩ := zg_step (P := m' 397) (nd := nd) hN hs h
        omega
      rw [zg_w] at hw
      refine az_iloadn dX8_greedy_10 rfl ?_
      refine az_ifeq (t := 260) dX8_greedy_11 (by decide) (fun h11 => ?_) (fun h11 => ?_)
      · exact absurd h11 (by decide)
      refine az_iconst (v := 0) dX8_greedy_14 (by decide) ?_
      refine az_istoren dX8_greedy_15 (by decide) ?_
      dsimp only [List.set]
      refine az_iconst (v := -1) dX8_greedy_16 (by decide) ?_
      refine az_istore dX8_greedy_17 (by decide) ?_
      dsimp only [List.set]
      refine az_iconst (v := 0) dX8_greedy_19 (by decide) ?_
      refine az_istore dX8_greedy_20 (by decide) ?_
      dsimp only [List.set]
      refine az_iconst (v := 0) dX8_greedy_22 (by decide) ?_
      refine az_istore dX8_greedy_23 (by decide) ?_
      dsimp only [List.set]
      skip
      refine x_gr_m hn' hN hnd' (fun L5 L6 L7 L8 L9 => ?_) rfl _ _ _
      refine az_iconst (v := 0) dX8_greedy_163 (by decide) ?_
      refine az_istore dX8_greedy_164 (by decide) ?_
      dsimp only [List.set]
      refine x_gr_l hn' hN hnd' (fun L6 L7 => ?_) rfl _
      subst hw
      refine az_iloadn dX8_greedy_231 rfl ?_
      refine az_ifle (t := 244) dX8_greedy_232 (by decide) (fun h232 => ?_) (fun h232 => ?_)
      · refine az_iconst (v := 0) dX8_greedy_244 (by decide) ?_
        refine az_istoren dX8_greedy_245 (by decide) ?_
        dsimp only [List.set]
        refine az_iloadn dX8_greedy_246 rfl ?_
        refine az_ifeq (t := 257) dX8_greedy_247 (by decide) (fun h247 => ?_) (fun h247 => ?_)
        rotate_left 1
        · exact absurd rfl h247
        refine az_goto (t := 10) dX8_greedy_257 (by decide) ?_
        refine az_iloadn dX8_greedy_10 rfl ?_
        refine az_ifeq (t := 260) dX8_greedy_11 (by decide) (fun h11 => ?_) (fun h11 => ?_)
        rotate_left 1
        · exact absurd rfl h11
        exact fin _ _ _ _ _ _
      · refine az_iload dX8_greedy_235 rfl ?_
        refine az_iflt (t := 244) dX8_greedy_237 (by decide) (fun h237 => ?_) (fun h237 => ?_)
        rotate_left 1
        · exact absurd (Int32.not_lt.mp h237) hb
        refine az_iconst (v := 0) dX8_greedy_244 (by decide) ?_
        refine az_istoren dX8_greedy_245 (by decide) ?_
        dsimp only [List.set]
        refine az_iloadn dX8_greedy_246 rfl ?_
        refine az_ifeq (t := 257) dX8_greedy_247 (by decide) (fun h247 => ?_) (fun h247 => ?_)
        rotate_left 1
        · exact absurd rfl h247
        refine az_goto (t := 10) dX8_greedy_257 (by decide) ?_
        refine az_iloadn dX8_greedy_10 rfl ?_
        refine az_ifeq (t := 260) dX8_greedy_11 (by decide) (fun h11 => ?_) (fun h11 => ?_)
        rotate_left 1
        · exact absurd rfl h11
        exact fin _ _ _ _ _ _
    | succ f ih =>
      intro s hs hv hw L2 L4 L5 L6 L7 L8 L9
      rw [zg_w] at hw
      refine az_iloadn dX8_greedy_10 rfl ?_
      refine az_ifeq (t := 260) dX8_greedy_11 (by decide) (fun h11 => ?_) (fun h11 => ?_)
      · exact absurd h11 (by decide)
      refine az_iconst (v := 0) dX8_greedy_14 (by decide) ?_
      refine az_istoren dX8_greedy_15 (by decide) ?_
      dsimp only [List.set]
      refine az_iconst (v := -1) dX8_greedy_16 (by decide) ?_
      refine az_istore dX8_greedy_17 (by decide) ?_
      dsimp only [List.set]
      refine az_iconst (v := 0) dX8_greedy_19 (by decide) ?_
      refine az_istore dX8_greedy_20 (by decide) ?_
      dsimp only [List.set]
      refine az_iconst (v := 0) dX8_greedy_22 (by decide) ?_
      refine az_istore dX8_greedy_23 (by decide) ?_
      dsimp only [List.set]
      skip
      refine x_gr_m hn' hN hnd' (fun L5 L6 L7 L8 L9 => ?_) rfl _ _ _
      refine az_iconst (v := 0) dX8_greedy_163 (by decide) ?_
      refine az_istore dX8_greedy_164 (by decide) ?_
      dsimp only [List.set]
      refine x_gr_l hn' hN hnd' (fun L6 L7 => ?_) rfl _
      by_cases hgo : 0 < zg_l (m' 397) (nI s) nd N ∧ 0 ≤ zg_best (m' 397) (nI s) nd N
      · rw [if_pos hgo] at hw
        obtain ⟨i, hi, h2', h3', h4', h5'⟩ := zg_step (P := m' 397) (nd := nd) hN hs hgo.2
        rw [h3'] at hw
        refine az_iloadn dX8_greedy_231 rfl ?_
        refine az_ifle (t := 244) dX8_greedy_232 (by decide) (fun h232 => ?_) (fun h232 => ?_)
        · exact absurd h232 (Int32.not_le.mpr hgo.1)
        refine az_iload dX8_greedy_235 rfl ?_
        refine az_iflt (t := 244) dX8_greedy_237 (by decide) (fun h237 => ?_) (fun h237 => ?_)
        · exact absurd h237 (Int32.not_lt.mpr hgo.2)
        refine az_iconst (v := 1) dX8_greedy_240 (by decide) ?_
        refine az_goto (t := 245) dX8_greedy_241 (by decide) ?_
        refine az_istoren dX8_greedy_245 (by decide) ?_
        dsimp only [List.set]
        refine az_iloadn dX8_greedy_246 rfl ?_
        refine az_ifeq (t := 257) dX8_greedy_247 (by decide) (fun h247 => ?_) (fun h247 => ?_)
        · exact absurd h247 (by decide)
        refine az_iloadn dX8_greedy_250 rfl ?_
        refine az_iconst (v := 1) dX8_greedy_251 (by decide) ?_
        refine az_iload dX8_greedy_252 rfl ?_
        refine az_ishl dX8_greedy_254 ?_
        refine az_ior dX8_greedy_255 ?_
        refine az_istoren dX8_greedy_256 (by decide) ?_
        dsimp only [List.set]
        refine az_goto (t := 10) dX8_greedy_257 (by decide) ?_
        rw [h3']; exact ih _ h4' (by omega) hw _ _ _ _ _ _ _
      · rw [if_neg hgo] at hw
        subst hw
        refine az_iloadn dX8_greedy_231 rfl ?_
        refine az_ifle (t := 244) dX8_greedy_232 (by decide) (fun h232 => ?_) (fun h232 => ?_)
        · refine az_iconst (v := 0) dX8_greedy_244 (by decide) ?_
          refine az_istoren dX8_greedy_245 (by decide) ?_
          dsimp only [List.set]
          refine az_iloadn dX8_greedy_246 rfl ?_
          refine az_ifeq (t := 257) dX8_greedy_247 (by decide) (fun h247 => ?_) (fun h247 => ?_)
          rotate_left 1
          · exact absurd rfl h247
          refine az_goto (t := 10) dX8_greedy_257 (by decide) ?_
          refine az_iloadn dX8_greedy_10 rfl ?_
          refine az_ifeq (t := 260) dX8_greedy_11 (by decide) (fun h11 => ?_) (fun h11 => ?_)
          rotate_left 1
          · exact absurd rfl h11
          exact fin _ _ _ _ _ _
        · refine az_iload dX8_greedy_235 rfl ?_
          refine az_iflt (t := 244) dX8_greedy_237 (by decide) (fun h237 => ?_) (fun h237 => ?_)
          rotate_left 1
          · exact absurd ⟨Int32.not_le.mp h232, Int32.not_lt.mp h237⟩ hgo
          refine az_iconst (v := 0) dX8_greedy_244 (by decide) ?_
          refine az_istoren dX8_greedy_245 (by decide) ?_
          dsimp only [List.set]
          refine az_iloadn dX8_greedy_246 rfl ?_
          refine az_ifeq (t := 257) dX8_greedy_247 (by decide) (fun h247 => ?_) (fun h247 => ?_)
          rotate_left 1
          · exact absurd rfl h247
          refine az_goto (t := 10) dX8_greedy_257 (by decide) ?_
          refine az_iloadn dX8_greedy_10 rfl ?_
          refine az_ifeq (t := 260) dX8_greedy_11 (by decide) (fun h11 => ?_) (fun h11 => ?_)
          rotate_left 1
          · exact absurd rfl h11
          exact fin _ _ _ _ _ _
  exact main N 0 (Nat.two_pow_pos N) (fb_ct_le _ N) hR _ _ _ _ _ _ _
end MI

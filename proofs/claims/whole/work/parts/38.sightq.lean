/-! the class's questions over its sight -/
def zP (mem : az_M) (N : Nat) : Prop := ∀ a b, a < b → b < N → ∃ k, k < 65536 ∧ mem 375 (16 * a + b) = nI k
section CF
variable {X : az_X} {d : Nat} {mem : az_M} {Q : Option az_V → az_M → Prop} {N : Nat}
theorem s_X5_countReachedFrom {p : Nat} (hn : mem 371 0 = nI N) (hN : N ≤ 16) (hp : p < 16) (hQ : Q (some (.inl (zm_reach (mem 373) N p))) mem) : az_Sp X d mX5_countReachedFrom [.inr 371, .inl (nI p)] mem Q := by
  refine az_body (by decide +kernel) (Nat.le_of_ble_eq_true rfl) ?_
  show az_Ev X _ mX5_countReachedFrom 0 [some (.inr 371), some (.inl (nI p)), none, none] [] mem Q
  refine az_iconst (v := 0) dX5_countReachedFrom_0 (by decide) ?_
  refine az_istoren dX5_countReachedFrom_1 (by decide) ?_
  dsimp only [List.set]
  refine az_iconst (v := 0) dX5_countReachedFrom_2 (by decide) ?_
  refine az_istoren dX5_countReachedFrom_3 (by decide) ?_
  dsimp only [List.set]
  skip
  refine az_up (fun i => az_Ev X d mX5_countReachedFrom 4 [some (.inr 371), some (.inl (nI p)), some (.inl (zm_reach (mem 373) i p)), some (.inl (nI i))] [] mem Q) N 0 (by omega) (fun i _ hi ih => ?_) ?_
  · unfold zm_reach at ih ⊢
    rw [zm_sum] at ih
    refine az_iloadn dX5_countReachedFrom_4 rfl ?_
    refine az_aloadn dX5_countReachedFrom_5 rfl ?_
    refine az_geti dX5_countReachedFrom_6 flX5_9 sh_371 rfl ?_
    rw [hn]
    refine az_icmpge (t := 37) dX5_countReachedFrom_9 (by decide) (fun h9 => ?_) (fun h9 => ?_)
    · exact absurd h9 (nI_ge (by omega) (by omega))
    refine az_aloadn dX5_countReachedFrom_12 rfl ?_
    refine az_getr dX5_countReachedFrom_13 flX5_19 sh_371 rfl ?_
    refine az_bipush (v := 16) dX5_countReachedFrom_16 (by decide) ?_
    refine az_iloadn dX5_countReachedFrom_18 rfl ?_
    refine az_imul dX5_countReachedFrom_19 ?_
    refine az_iloadn dX5_countReachedFrom_20 rfl ?_
    refine az_iadd dX5_countReachedFrom_21 ?_
    refine az_iald (16 * p + i) dX5_countReachedFrom_22 sh_373 (by omega) (by decide) (by simp only [az_lit, nI_add, pk_mul, Nat.add_assoc]) ?_
    refine az_ldc dX5_countReachedFrom_23 kcX5_62 ?_
    refine az_pc 25 (by decide) ?_
    refine az_icmpge (t := 31) dX5_countReachedFrom_25 (by decide) (fun h25 => ?_) (fun h25 => ?_)
    · rw [if_neg (Int32.not_lt.mpr h25), show ∀ x : Int32, x + 0 = x from Int32.add_zero] at ih
      refine az_iinc (w := 1) dX5_countReachedFrom_31 rfl (by decide) (by decide) ?_
      dsimp only [List.set]
      refine az_goto (t := 4) dX5_countReachedFrom_34 (by decide) ?_
      rw [nI_1]; exact ih
    · rw [if_pos (Int32.not_le.mp h25)] at ih
      refine az_iinc (w := 1) dX5_countReachedFrom_28 rfl (by decide) (by decide) ?_
      dsimp only [List.set]
      refine az_iinc (w := 1) dX5_countReachedFrom_31 rfl (by decide) (by decide) ?_
      dsimp only [List.set]
      refine az_goto (t := 4) dX5_countReachedFrom_34 (by decide) ?_
      rw [nI_1]; exact ih
  · refine az_iloadn dX5_countReachedFrom_4 rfl ?_
    refine az_aloadn dX5_countReachedFrom_5 rfl ?_
    refine az_geti dX5_countReachedFrom_6 flX5_9 sh_371 rfl ?_
    rw [hn]
    refine az_icmpge (t := 37) dX5_countReachedFrom_9 (by decide) (fun h9 => ?_) (fun h9 => ?_)
    rotate_left 1
    · exact absurd (Int32.le_refl _) h9
    refine az_iloadn dX5_countReachedFrom_37 rfl ?_
    refine az_iret dX5_countReachedFrom_38 rfl ?_
    exact hQ
theorem s_X5_areTwins {a b : Nat} (ha : a < 16) (hb : b < 16) (hQ : Q (some (.inl (if a = b ∨ mem 375 (if a < b then 16 * a + b else 16 * b + a) = 0 then 1 else 0))) mem) : az_Sp X (d + 1) mX5_areTwins [.inr 371, .inl (nI a), .inl (nI b)] mem Q := by
  have e : (16 * (if nI b < nI a then nI b else nI a) + (if nI a < nI b then nI b else nI a)) = nI (if a < b then 16 * a + b else 16 * b + a) := by
    rcases Nat.lt_trichotomy a b with h | h | h
    · rw [if_neg (nI_nlt (by omega) (by omega)), if_pos (nI_lt h (by omega)), if_pos h]
      simp only [az_lit, nI_add, pk_mul]
    · subst h
      rw [if_neg (fun h => Int32.lt_irrefl h), if_neg (Nat.lt_irrefl _)]
      simp only [az_lit, nI_add, pk_mul]
    · rw [if_pos (nI_lt h (by omega)), if_neg (nI_nlt (by omega) (by omega)), if_neg (by omega)]
      simp only [az_lit, nI_add, pk_mul]
  have hix : (if a < b then 16 * a + b else 16 * b + a) < 256 := by split <;> omega
  refine az_body (by decide +kernel) (Nat.le_of_ble_eq_true rfl) ?_
  show az_Ev X _ mX5_areTwins 0 [some (.inr 371), some (.inl (nI a)), some (.inl (nI b))] [] mem Q
  refine az_iloadn dX5_areTwins_0 rfl ?_
  refine az_iloadn dX5_areTwins_1 rfl ?_
  refine az_icmpeq (t := 27) dX5_areTwins_2 (by decide) (fun h2 => ?_) (fun h2 => ?_)
  · rw [if_pos (Or.inl ((nI_eq (by omega) (by omega)).mp h2))] at hQ
    refine az_iconst (v := 1) dX5_areTwins_27 (by decide) ?_
    refine az_goto (t := 32) dX5_areTwins_28 (by decide) ?_
    refine az_zret dX5_areTwins_32 rfl (by first | exact Or.inl rfl | exact Or.inr rfl | assumption) ?_
    exact hQ
  · have hne : ¬ a = b := fun h => h2 (by rw [h])
    refine az_aloadn dX5_areTwins_5 rfl ?_
    refine az_getr dX5_areTwins_6 flX5_25 sh_371 rfl ?_
    refine az_bipush (v := 16) dX5_areTwins_9 (by decide) ?_
    refine az_iloadn dX5_areTwins_11 rfl ?_
    refine az_iloadn dX5_areTwins_12 rfl ?_
    refine az_min dX5_areTwins_13 lsX5_101 (Nat.le_of_ble_eq_true rfl) (by omega) ?_
    refine az_imul dX5_areTwins_16 ?_
    refine az_iloadn dX5_areTwins_17 rfl ?_
    refine az_iloadn dX5_areTwins_18 rfl ?_
    refine az_max dX5_areTwins_19 lsX5_106 (Nat.le_of_ble_eq_true rfl) (by omega) ?_
    refine az_iadd dX5_areTwins_22 ?_
    refine az_iald (if a < b then 16 * a + b else 16 * b + a) dX5_areTwins_23 sh_375 hix (by decide) e ?_
    refine az_ifne (t := 31) dX5_areTwins_24 (by decide) (fun h24 => ?_) (fun h24 => ?_)
    · rw [if_neg (fun h => h.elim hne h24)] at hQ
      refine az_iconst (v := 0) dX5_areTwins_31 (by decide) ?_
      refine az_zret dX5_areTwins_32 rfl (by first | exact Or.inl rfl | exact Or.inr rfl | assumption) ?_
      exact hQ
    · rw [if_pos (Or.inr h24)] at hQ
      refine az_iconst (v := 1) dX5_areTwins_27 (by decide) ?_
      refine az_goto (t := 32) dX5_areTwins_28 (by decide) ?_
      refine az_zret dX5_areTwins_32 rfl (by first | exact Or.inl rfl | exact Or.inr rfl | assumption) ?_
      exact hQ
theorem t_X5_areTwins {a b : Nat} (hab : a < b) (hb : b < 16) (hQ : Q (some (.inl (if mem 375 (16 * a + b) = 0 then 1 else 0))) mem) : az_Sp X (d + 1) mX5_areTwins [.inr 371, .inl (nI a), .inl (nI b)] mem Q := by
  refine s_X5_areTwins (by omega) hb ?_
  rw [if_pos hab]
  have : (a = b ∨ mem 375 (16 * a + b) = 0) ↔ mem 375 (16 * a + b) = 0 := ⟨fun h => h.elim (fun h => absurd h (by omega)) id, Or.inr⟩
  simp only [this]
  exact hQ
def zt_tc (P : Nat → Int32) (a b : Nat) : Bool := decide (P (16 * a + b) = 0)
theorem s_X5_twinPair {k : Int32} (hn : mem 371 0 = nI N) (hN : N ≤ 16) (hQ : Q (some (.inl (zr_pr (zk_pr (zt_tc (mem 375)) k N N 0 0)))) mem) : az_Sp X (d + 2) mX5_twinPair [.inr 371, .inl k] mem Q := by
  refine az_body (by decide +kernel) (Nat.le_of_ble_eq_true rfl) ?_
  show az_Ev X _ mX5_twinPair 0 [some (.inr 371), some (.inl k), none, none, none] [] mem Q
  refine az_iconst (v := 0) dX5_twinPair_0 (by decide) ?_
  refine az_istoren dX5_twinPair_1 (by decide) ?_
  dsimp only [List.set]
  refine az_iconst (v := 0) dX5_twinPair_2 (by decide) ?_
  refine az_istoren dX5_twinPair_3 (by decide) ?_
  dsimp only [List.set]
  skip
  refine az_up (fun i => ∀ c, zk_pr (zt_tc (mem 375)) k N (N - i) i c = zk_pr (zt_tc (mem 375)) k N N 0 0 → ∀ L4, az_Ev X (d + 2) mX5_twinPair 4 [some (.inr 371), some (.inl k), some (.inl c), some (.inl (nI i)), L4] [] mem Q) N 0 (by omega) (fun i _ hi ih c he L4 => ?_) (fun c he L4 => ?_) 0 rfl none
  · rw [zs_sub hi] at he
    refine az_iloadn dX5_twinPair_4 rfl ?_
    refine az_aloadn dX5_twinPair_5 rfl ?_
    refine az_geti dX5_twinPair_6 flX5_9 sh_371 rfl ?_
    rw [hn]
    refine az_icmpge (t := 64) dX5_twinPair_9 (by decide) (fun h9 => ?_) (fun h9 => ?_)
    · exact absurd h9 (nI_ge (by omega) (by omega))
    refine az_iloadn dX5_twinPair_12 rfl ?_
    refine az_iconst (v := 1) dX5_twinPair_13 (by decide) ?_
    refine az_iadd dX5_twinPair_14 ?_
    refine az_istore dX5_twinPair_15 (by decide) ?_
    dsimp only [List.set]
    rw [nI_1]
    refine az_up (fun j => ∀ c', zk_in (zt_tc (mem 375) i) k (N - j) j c' = zk_in (zt_tc (mem 375) i) k (N - (i + 1)) (i + 1) c → az_Ev X (d + 2) mX5_twinPair 17 [some (.inr 371), some (.inl k), some (.inl c'), some (.inl (nI i)), some (.inl (nI j))] [] mem Q) N (i + 1) (by omega) (fun j hj1 hj ih2 c' he2 => ?_) (fun c' he2 => ?_) c rfl
    · rw [zs_sub hj] at he2
      refine az_iload dX5_twinPair_17 rfl ?_
      refine az_aloadn dX5_twinPair_19 rfl ?_
      refine az_geti dX5_twinPair_20 flX5_9 sh_371 rfl ?_
      rw [hn]
      refine az_icmpge (t := 58) dX5_twinPair_23 (by decide) (fun h23 => ?_) (fun h23 => ?_)
      · exact absurd h23 (nI_ge (by omega) (by omega))
      refine az_aloadn dX5_twinPair_26 rfl ?_
      refine az_iloadn dX5_twinPair_27 rfl ?_
      refine az_iload dX5_twinPair_28 rfl ?_
      refine az_inv2 (N := mX5_areTwins) dX5_twinPair_30 lkX5_109 okX5_areTwins sh_371 rfl (Nat.le_of_ble_eq_true rfl) ?_
      refine t_X5_areTwins (by omega) (by omega) ?_
      try dsimp only [az_ps]
      refine az_ifeq (t := 52) dX5_twinPair_33 (by decide) (fun h33 => ?_) (fun h33 => ?_)
      · replace h33 := zb_z h33
        rw [zk_in_f (by simp [zt_tc, h33])] at he2
        refine az_iinc (w := 1) dX5_twinPair_52 rfl (by decide) (by decide) ?_
        dsimp only [List.set]
        refine az_goto (t := 17) dX5_twinPair_55 (by decide) ?_
        rw [nI_1]; exact ih2 _ he2
      · replace h33 := zb_n h33
        refine az_iloadn dX5_twinPair_36 rfl ?_
        refine az_iloadn dX5_twinPair_37 rfl ?_
        refine az_icmpne (t := 49) dX5_twinPair_38 (by decide) (fun h38 => ?_) (fun h38 => ?_)
        · rw [zk_in_tf (by simp [zt_tc, h33]) h38] at he2
          refine az_iinc (w := 1) dX5_twinPair_49 rfl (by decide) (by decide) ?_
          dsimp only [List.set]
          refine az_iinc (w := 1) dX5_twinPair_52 rfl (by decide) (by decide) ?_
          dsimp only [List.set]
          refine az_goto (t := 17) dX5_twinPair_55 (by decide) ?_
          rw [nI_1]; exact ih2 _ he2
        · rw [zk_in_tt (by simp [zt_tc, h33]) h38] at he2
          rw [zk_pr, ← he2] at he
          rw [← he] at hQ
          refine az_bipush (v := 16) dX5_twinPair_41 (by decide) ?_
          refine az_iloadn dX5_twinPair_43 rfl ?_
          refine az_imul dX5_twinPair_44 ?_
          refine az_iload dX5_twinPair_45 rfl ?_
          refine az_iadd dX5_twinPair_47 ?_
          refine az_iret dX5_twinPair_48 rfl ?_
          simpa only [az_lit, nI_add, pk_mul, zr_pr] using hQ
    · rw [Nat.sub_self] at he2
      refine az_iload dX5_twinPair_17 rfl ?_
      refine az_aloadn dX5_twinPair_19 rfl ?_
      refine az_geti dX5_twinPair_20 flX5_9 sh_371 rfl ?_
      rw [hn]
      refine az_icmpge (t := 58) dX5_twinPair_23 (by decide) (fun h23 => ?_) (fun h23 => ?_)
      rotate_left 1
      · exact absurd (Int32.le_refl _) h23
      refine az_iinc (w := 1) dX5_twinPair_58 rfl (by decide) (by decide) ?_
      dsimp only [List.set]
      refine az_goto (t := 4) dX5_twinPair_61 (by decide) ?_
      rw [nI_1]; rw [zk_pr, ← he2] at he; exact ih _ he _
  · rw [Nat.sub_self] at he
    rw [← he] at hQ
    refine az_iloadn dX5_twinPair_4 rfl ?_
    refine az_aloadn dX5_twinPair_5 rfl ?_
    refine az_geti dX5_twinPair_6 flX5_9 sh_371 rfl ?_
    rw [hn]
    refine az_icmpge (t := 64) dX5_twinPair_9 (by decide) (fun h9 => ?_) (fun h9 => ?_)
    rotate_left 1
    · exact absurd (Int32.le_refl _) h9
    refine az_iconst (v := -1) dX5_twinPair_64 (by decide) ?_
    refine az_iret dX5_twinPair_65 rfl ?_
    exact hQ
theorem s_X5_pairLacks {a b s : Nat} {x nd : Int32} (hP : zP mem N) (hN : N ≤ 16) (hx : x = nI s) (hs : s < 65536) (hab : a < b) (hb : b < N) (hQ : Q (some (.inl (if zl_lk (mem 375) x nd a b = true then 1 else 0))) mem) : az_Sp X (d + 1) mX5_pairLacks [.inr 371, .inl (nI a), .inl (nI b), .inl x, .inl nd] mem Q := by
  obtain ⟨k, hk, ek⟩ := hP a b hab hb
  refine az_body (by decide +kernel) (Nat.le_of_ble_eq_true rfl) ?_
  show az_Ev X _ mX5_pairLacks 0 [some (.inr 371), some (.inl (nI a)), some (.inl (nI b)), some (.inl x), some (.inl nd), none] [] mem Q
  refine az_aloadn dX5_pairLacks_0 rfl ?_
  refine az_getr dX5_pairLacks_1 flX5_25 sh_371 rfl ?_
  refine az_bipush (v := 16) dX5_pairLacks_4 (by decide) ?_
  refine az_iloadn dX5_pairLacks_6 rfl ?_
  refine az_imul dX5_pairLacks_7 ?_
  refine az_iloadn dX5_pairLacks_8 rfl ?_
  refine az_iadd dX5_pairLacks_9 ?_
  refine az_iald (16 * a + b) dX5_pairLacks_10 sh_375 (by omega) (by decide) (by simp only [az_lit, nI_add, pk_mul, Nat.add_assoc]) ?_
  refine az_istore dX5_pairLacks_11 (by decide) ?_
  dsimp only [List.set]
  refine az_iload dX5_pairLacks_13 rfl ?_
  refine az_ifeq (t := 34) dX5_pairLacks_15 (by decide) (fun h15 => ?_) (fun h15 => ?_)
  · rw [if_neg (by simp [zl_lk, h15])] at hQ
    refine az_iconst (v := 0) dX5_pairLacks_34 (by decide) ?_
    refine az_zret dX5_pairLacks_35 rfl (by first | exact Or.inl rfl | exact Or.inr rfl | assumption) ?_
    exact hQ
  · refine az_iloadn dX5_pairLacks_18 rfl ?_
    refine az_iload dX5_pairLacks_19 rfl ?_
    refine az_iand dX5_pairLacks_21 ?_
    refine az_ins1 (N := mJ6_bitCount_0f7a4) dX5_pairLacks_22 lsX5_87 okJ6_bitCount_0f7a4 (Nat.le_of_ble_eq_true rfl) ?_
    refine t_bitCount ⟨s &&& k, Nat.lt_of_le_of_lt Nat.and_le_left hs, by rw [ek, hx, fa_and]⟩ ?_
    rw [Int32.and_comm]
    try dsimp only [az_ps]
    refine az_iload dX5_pairLacks_25 rfl ?_
    refine az_icmpge (t := 34) dX5_pairLacks_27 (by decide) (fun h27 => ?_) (fun h27 => ?_)
    · rw [if_neg (by simp [zl_lk, h15]; exact h27)] at hQ
      refine az_iconst (v := 0) dX5_pairLacks_34 (by decide) ?_
      refine az_zret dX5_pairLacks_35 rfl (by first | exact Or.inl rfl | exact Or.inr rfl | assumption) ?_
      exact hQ
    · rw [if_pos (by simp [zl_lk, h15]; exact Int32.not_le.mp h27)] at hQ
      refine az_iconst (v := 1) dX5_pairLacks_30 (by decide) ?_
      refine az_goto (t := 35) dX5_pairLacks_31 (by decide) ?_
      refine az_zret dX5_pairLacks_35 rfl (by first | exact Or.inl rfl | exact Or.inr rfl | assumption) ?_
      exact hQ
theorem s_X5_firstPairLacking {s : Nat} {x nd : Int32} (hn : mem 371 0 = nI N) (hN : N ≤ 16) (hP : zP mem N) (hx : x = nI s) (hs : s < 65536) (hQ : Q (some (.inl (zr_pr (zf_pr (zl_lk (mem 375) x nd) N N 0)))) mem) : az_Sp X (d + 2) mX5_firstPairLacking [.inr 371, .inl x, .inl nd] mem Q := by
  refine az_body (by decide +kernel) (Nat.le_of_ble_eq_true rfl) ?_
  show az_Ev X _ mX5_firstPairLacking 0 [some (.inr 371), some (.inl x), some (.inl nd), none, none] [] mem Q
  refine az_iconst (v := 0) dX5_firstPairLacking_0 (by decide) ?_
  refine az_istoren dX5_firstPairLacking_1 (by decide) ?_
  dsimp only [List.set]
  skip
  refine az_up (fun i => zf_pr (zl_lk (mem 375) x nd) N (N - i) i = zf_pr (zl_lk (mem 375) x nd) N N 0 → ∀ L4, az_Ev X (d + 2) mX5_firstPairLacking 2 [some (.inr 371), some (.inl x), some (.inl nd), some (.inl (nI i)), L4] [] mem Q) N 0 (by omega) (fun i _ hi ih he L4 => ?_) (fun he L4 => ?_) rfl none
  · rw [zs_sub hi] at he
    refine az_iloadn dX5_firstPairLacking_2 rfl ?_
    refine az_aloadn dX5_firstPairLacking_3 rfl ?_
    refine az_geti dX5_firstPairLacking_4 flX5_9 sh_371 rfl ?_
    rw [hn]
    refine az_icmpge (t := 56) dX5_firstPairLacking_7 (by decide) (fun h7 => ?_) (fun h7 => ?_)
    · exact absurd h7 (nI_ge (by omega) (by omega))
    refine az_iloadn dX5_firstPairLacking_10 rfl ?_
    refine az_iconst (v := 1) dX5_firstPairLacking_11 (by decide) ?_
    refine az_iadd dX5_firstPairLacking_12 ?_
    refine az_istore dX5_firstPairLacking_13 (by decide) ?_
    dsimp only [List.set]
    rw [nI_1]
    refine az_up (fun j => zf_in (zl_lk (mem 375) x nd i) (N - j) j = zf_in (zl_lk (mem 375) x nd i) (N - (i + 1)) (i + 1) → az_Ev X (d + 2) mX5_firstPairLacking 15 [some (.inr 371), some (.inl x), some (.inl nd), some (.inl (nI i)), some (.inl (nI j))] [] mem Q) N (i + 1) (by omega) (fun j hj1 hj ih2 he2 => ?_) (fun he2 => ?_) rfl
    · rw [zs_sub hj] at he2
      refine az_iload dX5_firstPairLacking_15 rfl ?_
      refine az_aloadn dX5_firstPairLacking_17 rfl ?_
      refine az_geti dX5_firstPairLacking_18 flX5_9 sh_371 rfl ?_
      rw [hn]
      refine az_icmpge (t := 50) dX5_firstPairLacking_21 (by decide) (fun h21 => ?_) (fun h21 => ?_)
      · exact absurd h21 (nI_ge (by omega) (by omega))
      refine az_aloadn dX5_firstPairLacking_24 rfl ?_
      refine az_iloadn dX5_firstPairLacking_25 rfl ?_
      refine az_iload dX5_firstPairLacking_26 rfl ?_
      refine az_iloadn dX5_firstPairLacking_28 rfl ?_
      refine az_iloadn dX5_firstPairLacking_29 rfl ?_
      refine az_inv4 (N := mX5_pairLacks) dX5_firstPairLacking_30 lkX5_112 okX5_pairLacks sh_371 rfl (Nat.le_of_ble_eq_true rfl) ?_
      refine s_X5_pairLacks hP hN hx hs (by omega) (by omega) ?_
      try dsimp only [az_ps]
      refine az_ifeq (t := 44) dX5_firstPairLacking_33 (by decide) (fun h33 => ?_) (fun h33 => ?_)
      · replace h33 := zb_z h33
        rw [zf_in_f (by simpa using h33)] at he2
        refine az_iinc (w := 1) dX5_firstPairLacking_44 rfl (by decide) (by decide) ?_
        dsimp only [List.set]
        refine az_goto (t := 15) dX5_firstPairLacking_47 (by decide) ?_
        rw [nI_1]; exact ih2 he2
      · replace h33 := zb_n h33
        rw [zf_in_t h33] at he2
        rw [zf_pr_t he2.symm] at he
        rw [← he] at hQ
        refine az_bipush (v := 16) dX5_firstPairLacking_36 (by decide) ?_
        refine az_iloadn dX5_firstPairLacking_38 rfl ?_
        refine az_imul dX5_firstPairLacking_39 ?_
        refine az_iload dX5_firstPairLacking_40 rfl ?_
        refine az_iadd dX5_firstPairLacking_42 ?_
        refine az_iret dX5_firstPairLacking_43 rfl ?_
        simpa only [az_lit, nI_add, pk_mul, zr_pr] using hQ
    · rw [Nat.sub_self] at he2
      refine az_iload dX5_firstPairLacking_15 rfl ?_
      refine az_aloadn dX5_firstPairLacking_17 rfl ?_
      refine az_geti dX5_firstPairLacking_18 flX5_9 sh_371 rfl ?_
      rw [hn]
      refine az_icmpge (t := 50) dX5_firstPairLacking_21 (by decide) (fun h21 => ?_) (fun h21 => ?_)
      rotate_left 1
      · exact absurd (Int32.le_refl _) h21
      refine az_iinc (w := 1) dX5_firstPairLacking_50 rfl (by decide) (by decide) ?_
      dsimp only [List.set]
      refine az_goto (t := 2) dX5_firstPairLacking_53 (by decide) ?_
      rw [nI_1]; rw [zf_pr_f he2.symm] at he; exact ih he _
  · rw [Nat.sub_self] at he
    rw [← he] at hQ
    refine az_iloadn dX5_firstPairLacking_2 rfl ?_
    refine az_aloadn dX5_firstPairLacking_3 rfl ?_
    refine az_geti dX5_firstPairLacking_4 flX5_9 sh_371 rfl ?_
    rw [hn]
    refine az_icmpge (t := 56) dX5_firstPairLacking_7 (by decide) (fun h7 => ?_) (fun h7 => ?_)
    rotate_left 1
    · exact absurd (Int32.le_refl _) h7
    refine az_iconst (v := -1) dX5_firstPairLacking_56 (by decide) ?_
    refine az_iret dX5_firstPairLacking_57 rfl ?_
    exact hQ
theorem s_X5_firstPostLacking {s : Nat} {x nd : Int32} (hn : mem 371 0 = nI N) (hN : N ≤ 16) (hY : ∀ p, p < N → ∃ k, k < 65536 ∧ mem 376 p = nI k) (hx : x = nI s) (hs : s < 65536) (hQ : Q (some (.inl (zr_in (zf_in (zl_ly (mem 376) x nd) N 0)))) mem) : az_Sp X (d + 1) mX5_firstPostLacking [.inr 371, .inl x, .inl nd] mem Q := by
  refine az_body (by decide +kernel) (Nat.le_of_ble_eq_true rfl) ?_
  show az_Ev X _ mX5_firstPostLacking 0 [some (.inr 371), some (.inl x), some (.inl nd), none] [] mem Q
  refine az_iconst (v := 0) dX5_firstPostLacking_0 (by decide) ?_
  refine az_istoren dX5_firstPostLacking_1 (by decide) ?_
  dsimp only [List.set]
  skip
  refine az_up (fun j => zf_in (zl_ly (mem 376) x nd) (N - j) j = zf_in (zl_ly (mem 376) x nd) N 0 → az_Ev X (d + 1) mX5_firstPostLacking 2 [some (.inr 371), some (.inl x), some (.inl nd), some (.inl (nI j))] [] mem Q) N 0 (by omega) (fun j hj1 hj ih2 he2 => ?_) (fun he2 => ?_) rfl
  · rw [zs_sub hj] at he2
    obtain ⟨k, hk, ek⟩ := hY j hj
    refine az_iloadn dX5_firstPostLacking_2 rfl ?_
    refine az_aloadn dX5_firstPostLacking_3 rfl ?_
    refine az_geti dX5_firstPostLacking_4 flX5_9 sh_371 rfl ?_
    rw [hn]
    refine az_icmpge (t := 33) dX5_firstPostLacking_7 (by decide) (fun h7 => ?_) (fun h7 => ?_)
    · exact absurd h7 (nI_ge (by omega) (by omega))
    refine az_iloadn dX5_firstPostLacking_10 rfl ?_
    refine az_aloadn dX5_firstPostLacking_11 rfl ?_
    refine az_getr dX5_firstPostLacking_12 flX5_28 sh_371 rfl ?_
    refine az_iloadn dX5_firstPostLacking_15 rfl ?_
    refine az_iald (j) dX5_firstPostLacking_16 sh_376 (by omega) (by decide) (by simp only [az_lit, nI_add, pk_mul, Nat.add_assoc]) ?_
    refine az_iand dX5_firstPostLacking_17 ?_
    refine az_ins1 (N := mJ6_bitCount_0f7a4) dX5_firstPostLacking_18 lsX5_87 okJ6_bitCount_0f7a4 (Nat.le_of_ble_eq_true rfl) ?_
    refine t_bitCount ⟨s &&& k, Nat.lt_of_le_of_lt Nat.and_le_left hs, by rw [ek, hx, fa_and]⟩ ?_
    rw [Int32.and_comm]
    try dsimp only [az_ps]
    refine az_iloadn dX5_firstPostLacking_21 rfl ?_
    refine az_icmpge (t := 27) dX5_firstPostLacking_22 (by decide) (fun h22 => ?_) (fun h22 => ?_)
    · rw [zf_in_f (by simp [zl_ly]; exact h22)] at he2
      refine az_iinc (w := 1) dX5_firstPostLacking_27 rfl (by decide) (by decide) ?_
      dsimp only [List.set]
      refine az_goto (t := 2) dX5_firstPostLacking_30 (by decide) ?_
      rw [nI_1]; exact ih2 he2
    · rw [zf_in_t (by simp [zl_ly]; exact Int32.not_le.mp h22)] at he2
      rw [← he2] at hQ
      refine az_iloadn dX5_firstPostLacking_25 rfl ?_
      refine az_iret dX5_firstPostLacking_26 rfl ?_
      exact hQ
  · rw [Nat.sub_self] at he2
    rw [← he2] at hQ
    refine az_iloadn dX5_firstPostLacking_2 rfl ?_
    refine az_aloadn dX5_firstPostLacking_3 rfl ?_
    refine az_geti dX5_firstPostLacking_4 flX5_9 sh_371 rfl ?_
    rw [hn]
    refine az_icmpge (t := 33) dX5_firstPostLacking_7 (by decide) (fun h7 => ?_) (fun h7 => ?_)
    rotate_left 1
    · exact absurd (Int32.le_refl _) h7
    refine az_iconst (v := -1) dX5_firstPostLacking_33 (by decide) ?_
    refine az_iret dX5_firstPostLacking_34 rfl ?_
    exact hQ
theorem s_X5_countPairsLacking {s : Nat} {x nd : Int32} (hn : mem 371 0 = nI N) (hN : N ≤ 16) (hP : zP mem N) (hx : x = nI s) (hs : s < 65536) (hQ : Q (some (.inl (zg_l (mem 375) x nd N))) mem) : az_Sp X (d + 2) mX5_countPairsLacking [.inr 371, .inl x, .inl nd] mem Q := by
  unfold zg_l at hQ
  refine az_body (by decide +kernel) (Nat.le_of_ble_eq_true rfl) ?_
  show az_Ev X _ mX5_countPairsLacking 0 [some (.inr 371), some (.inl x), some (.inl nd), none, none, none] [] mem Q
  refine az_iconst (v := 0) dX5_countPairsLacking_0 (by decide) ?_
  refine az_istoren dX5_countPairsLacking_1 (by decide) ?_
  dsimp only [List.set]
  refine az_iconst (v := 0) dX5_countPairsLacking_2 (by decide) ?_
  refine az_istore dX5_countPairsLacking_3 (by decide) ?_
  dsimp only [List.set]
  skip
  generalize hR : zc_pr (fun a b => if zl_lk (mem 375) x nd a b = true then 1 else 0) N N 0 0 = R at hQ
  refine az_up (fun a => ∀ c L5, zc_pr (fun a b => if zl_lk (mem 375) x nd a b then 1 else 0) N (N - a) a c = R → az_Ev X (d + 2) mX5_countPairsLacking 5 [some (.inr 371), some (.inl x), some (.inl nd), some (.inl c), some (.inl (nI a)), L5] [] mem Q) N 0 (by omega) (fun a _ ha ih c L5 h => ?_) (fun c L5 h => ?_) 0 none hR
  · rw [zs_sub ha, zc_pr] at h
    refine az_iload dX5_countPairsLacking_5 rfl ?_
    refine az_aloadn dX5_countPairsLacking_7 rfl ?_
    refine az_geti dX5_countPairsLacking_8 flX5_9 sh_371 rfl ?_
    rw [hn]
    refine az_icmpge (t := 57) dX5_countPairsLacking_11 (by decide) (fun h11 => ?_) (fun h11 => ?_)
    · exact absurd h11 (nI_ge (by omega) (by omega))
    refine az_iload dX5_countPairsLacking_14 rfl ?_
    refine az_iconst (v := 1) dX5_countPairsLacking_16 (by decide) ?_
    refine az_iadd dX5_countPairsLacking_17 ?_
    refine az_istore dX5_countPairsLacking_18 (by decide) ?_
    dsimp only [List.set]
    rw [nI_1]
    generalize hR2 : zc_in (fun b => if zl_lk (mem 375) x nd a b = true then 1 else 0) (N - (a + 1)) (a + 1) c = R2 at h
    refine az_up (fun b => ∀ c, zc_in (fun b => if zl_lk (mem 375) x nd a b = true then 1 else 0) (N - b) b c = R2 → az_Ev X (d + 2) mX5_countPairsLacking 20 [some (.inr 371), some (.inl x), some (.inl nd), some (.inl c), some (.inl (nI a)), some (.inl (nI b))] [] mem Q) N (a + 1) (by omega) (fun b hb1 hb ih2 c h2 => ?_) (fun c h2 => ?_) c hR2
    · rw [zs_sub hb, zc_in] at h2
      refine az_iload dX5_countPairsLacking_20 rfl ?_
      refine az_aloadn dX5_countPairsLacking_22 rfl ?_
      refine az_geti dX5_countPairsLacking_23 flX5_9 sh_371 rfl ?_
      rw [hn]
      refine az_icmpge (t := 51) dX5_countPairsLacking_26 (by decide) (fun h26 => ?_) (fun h26 => ?_)
      · exact absurd h26 (nI_ge (by omega) (by omega))
      refine az_aloadn dX5_countPairsLacking_29 rfl ?_
      refine az_iload dX5_countPairsLacking_30 rfl ?_
      refine az_iload dX5_countPairsLacking_32 rfl ?_
      refine az_iloadn dX5_countPairsLacking_34 rfl ?_
      refine az_iloadn dX5_countPairsLacking_35 rfl ?_
      refine az_inv4 (N := mX5_pairLacks) dX5_countPairsLacking_36 lkX5_112 okX5_pairLacks sh_371 rfl (Nat.le_of_ble_eq_true rfl) ?_
      refine s_X5_pairLacks hP hN hx hs (by omega) (by omega) ?_
      try dsimp only [az_ps]
      refine az_ifeq (t := 45) dX5_countPairsLacking_39 (by decide) (fun h39 => ?_) (fun h39 => ?_)
      · replace h39 := zb_z h39
        rw [if_neg h39, show ∀ x : Int32, x + 0 = x from Int32.add_zero] at h2
        refine az_iinc (w := 1) dX5_countPairsLacking_45 rfl (by decide) (by decide) ?_
        dsimp only [List.set]
        refine az_goto (t := 20) dX5_countPairsLacking_48 (by decide) ?_
        rw [nI_1]; exact ih2 _ h2
      · replace h39 := zb_n h39
        rw [if_pos h39] at h2
        refine az_iinc (w := 1) dX5_countPairsLacking_42 rfl (by decide) (by decide) ?_
        dsimp only [List.set]
        refine az_iinc (w := 1) dX5_countPairsLacking_45 rfl (by decide) (by decide) ?_
        dsimp only [List.set]
        refine az_goto (t := 20) dX5_countPairsLacking_48 (by decide) ?_
        rw [nI_1]; exact ih2 _ h2
    · rw [Nat.sub_self, zc_in] at h2
      subst h2
      refine az_iload dX5_countPairsLacking_20 rfl ?_
      refine az_aloadn dX5_countPairsLacking_22 rfl ?_
      refine az_geti dX5_countPairsLacking_23 flX5_9 sh_371 rfl ?_
      rw [hn]
      refine az_icmpge (t := 51) dX5_countPairsLacking_26 (by decide) (fun h26 => ?_) (fun h26 => ?_)
      rotate_left 1
      · exact absurd (Int32.le_refl _) h26
      refine az_iinc (w := 1) dX5_countPairsLacking_51 rfl (by decide) (by decide) ?_
      dsimp only [List.set]
      refine az_goto (t := 5) dX5_countPairsLacking_54 (by decide) ?_
      rw [nI_1]; exact ih _ _ h
  · rw [Nat.sub_self, zc_pr] at h
    subst h
    refine az_iload dX5_countPairsLacking_5 rfl ?_
    refine az_aloadn dX5_countPairsLacking_7 rfl ?_
    refine az_geti dX5_countPairsLacking_8 flX5_9 sh_371 rfl ?_
    rw [hn]
    refine az_icmpge (t := 57) dX5_countPairsLacking_11 (by decide) (fun h11 => ?_) (fun h11 => ?_)
    rotate_left 1
    · exact absurd (Int32.le_refl _) h11
    refine az_iloadn dX5_countPairsLacking_57 rfl ?_
    refine az_iret dX5_countPairsLacking_58 rfl ?_
    exact hQ
theorem s_X5_countLackingPartedBy {s m : Nat} {x nd : Int32} (hn : mem 371 0 = nI N) (hN : N ≤ 16) (hP : zP mem N) (hx : x = nI s) (hs : s < 65536) (hm : m < 16) (hQ : Q (some (.inl (zg_c (mem 375) x nd N m))) mem) : az_Sp X (d + 2) mX5_countLackingPartedBy [.inr 371, .inl (nI m), .inl x, .inl nd] mem Q := by
  unfold zg_c at hQ
  refine az_body (by decide +kernel) (Nat.le_of_ble_eq_true rfl) ?_
  show az_Ev X _ mX5_countLackingPartedBy 0 [some (.inr 371), some (.inl (nI m)), some (.inl x), some (.inl nd), none, none, none, none] [] mem Q
  refine az_iconst (v := 0) dX5_countLackingPartedBy_0 (by decide) ?_
  refine az_istore dX5_countLackingPartedBy_1 (by decide) ?_
  dsimp only [List.set]
  refine az_iconst (v := 0) dX5_countLackingPartedBy_3 (by decide) ?_
  refine az_istore dX5_countLackingPartedBy_4 (by decide) ?_
  dsimp only [List.set]
  skip
  generalize hR : zc_pr (zg_f (mem 375) x nd m) N N 0 0 = R at hQ
  refine az_up (fun a => ∀ c L6 L7, zc_pr (zg_f (mem 375) x nd m) N (N - a) a c = R → az_Ev X (d + 2) mX5_countLackingPartedBy 6 [some (.inr 371), some (.inl (nI m)), some (.inl x), some (.inl nd), some (.inl c), some (.inl (nI a)), L6, L7] [] mem Q) N 0 (by omega) (fun a _ ha ih c L6 L7 h => ?_) (fun c L6 L7 h => ?_) 0 none none hR
  · rw [zs_sub ha, zc_pr] at h
    refine az_iload dX5_countLackingPartedBy_6 rfl ?_
    refine az_aloadn dX5_countLackingPartedBy_8 rfl ?_
    refine az_geti dX5_countLackingPartedBy_9 flX5_9 sh_371 rfl ?_
    rw [hn]
    refine az_icmpge (t := 91) dX5_countLackingPartedBy_12 (by decide) (fun h12 => ?_) (fun h12 => ?_)
    · exact absurd h12 (nI_ge (by omega) (by omega))
    refine az_iload dX5_countLackingPartedBy_15 rfl ?_
    refine az_iconst (v := 1) dX5_countLackingPartedBy_17 (by decide) ?_
    refine az_iadd dX5_countLackingPartedBy_18 ?_
    refine az_istore dX5_countLackingPartedBy_19 (by decide) ?_
    dsimp only [List.set]
    rw [nI_1]
    generalize hR2 : zc_in (zg_f (mem 375) x nd m a) (N - (a + 1)) (a + 1) c = R2 at h
    refine az_up (fun b => ∀ c L7, zc_in (zg_f (mem 375) x nd m a) (N - b) b c = R2 → az_Ev X (d + 2) mX5_countLackingPartedBy 21 [some (.inr 371), some (.inl (nI m)), some (.inl x), some (.inl nd), some (.inl c), some (.inl (nI a)), some (.inl (nI b)), L7] [] mem Q) N (a + 1) (by omega) (fun b hb1 hb ih2 c L7 h2 => ?_) (fun c L7 h2 => ?_) c L7 hR2
    · rw [zs_sub hb, zc_in] at h2
      have J : ∀ v, v = (if (mem 375 (16 * a + b) >>> (nI m &&& 31)) &&& 1 = 1 then (1 : Int32) else 0) → az_Ev X (d + 2) mX5_countLackingPartedBy 56 [some (.inr 371), some (.inl (nI m)), some (.inl x), some (.inl nd), some (.inl c), some (.inl (nI a)), some (.inl (nI b)), L7] [.inl v] mem Q := by
        intro v hv
        by_cases hbit : (mem 375 (16 * a + b) >>> (nI m &&& 31)) &&& 1 = 1
        · rw [if_pos hbit] at hv
          subst hv
          refine az_istore dX5_countLackingPartedBy_56 (by decide) ?_
          dsimp only [List.set]
          refine az_iload dX5_countLackingPartedBy_58 rfl ?_
          refine az_ifeq (t := 79) dX5_countLackingPartedBy_60 (by decide) (fun h60 => ?_) (fun h60 => ?_)
          · exact absurd h60 (by decide)
          refine az_aloadn dX5_countLackingPartedBy_63 rfl ?_
          refine az_iload dX5_countLackingPartedBy_64 rfl ?_
          refine az_iload dX5_countLackingPartedBy_66 rfl ?_
          refine az_iloadn dX5_countLackingPartedBy_68 rfl ?_
          refine az_iloadn dX5_countLackingPartedBy_69 rfl ?_
          refine az_inv4 (N := mX5_pairLacks) dX5_countLackingPartedBy_70 lkX5_112 okX5_pairLacks sh_371 rfl (Nat.le_of_ble_eq_true rfl) ?_
          refine s_X5_pairLacks hP hN hx hs (by omega) (by omega) ?_
          try dsimp only [az_ps]
          refine az_ifeq (t := 79) dX5_countLackingPartedBy_73 (by decide) (fun h73 => ?_) (fun h73 => ?_)
          · replace h73 := zb_z h73
            rw [zg_f, if_neg (fun q => h73 q.1), show ∀ x : Int32, x + 0 = x from Int32.add_zero] at h2
            refine az_iinc (w := 1) dX5_countLackingPartedBy_79 rfl (by decide) (by decide) ?_
            dsimp only [List.set]
            refine az_goto (t := 21) dX5_countLackingPartedBy_82 (by decide) ?_
            rw [nI_1]; exact ih2 _ _ h2
          · replace h73 := zb_n h73
            rw [zg_f, if_pos ⟨h73, hbit⟩] at h2
            refine az_iinc (w := 1) dX5_countLackingPartedBy_76 rfl (by decide) (by decide) ?_
            dsimp only [List.set]
            refine az_iinc (w := 1) dX5_countLackingPartedBy_79 rfl (by decide) (by decide) ?_
            dsimp only [List.set]
            refine az_goto (t := 21) dX5_countLackingPartedBy_82 (by decide) ?_
            rw [nI_1]; exact ih2 _ _ h2
        · rw [if_neg hbit] at hv
          subst hv
          rw [zg_f, if_neg (fun q => hbit q.2), show ∀ x : Int32, x + 0 = x from Int32.add_zero] at h2
          refine az_istore dX5_countLackingPartedBy_56 (by decide) ?_
          dsimp only [List.set]
          refine az_iload dX5_countLackingPartedBy_58 rfl ?_
          refine az_ifeq (t := 79) dX5_countLackingPartedBy_60 (by decide) (fun h60 => ?_) (fun h60 => ?_)
          rotate_left 1
          · exact absurd rfl h60
          refine az_iinc (w := 1) dX5_countLackingPartedBy_79 rfl (by decide) (by decide) ?_
          dsimp only [List.set]
          refine az_goto (t := 21) dX5_countLackingPartedBy_82 (by decide) ?_
          rw [nI_1]; exact ih2 _ _ h2
      refine az_iload dX5_countLackingPartedBy_21 rfl ?_
      refine az_aloadn dX5_countLackingPartedBy_23 rfl ?_
      refine az_geti dX5_countLackingPartedBy_24 flX5_9 sh_371 rfl ?_
      rw [hn]
      refine az_icmpge (t := 85) dX5_countLackingPartedBy_27 (by decide) (fun h27 => ?_) (fun h27 => ?_)
      · exact absurd h27 (nI_ge (by omega) (by omega))
      refine az_aloadn dX5_countLackingPartedBy_30 rfl ?_
      refine az_getr dX5_countLackingPartedBy_31 flX5_25 sh_371 rfl ?_
      refine az_bipush (v := 16) dX5_countLackingPartedBy_34 (by decide) ?_
      refine az_iload dX5_countLackingPartedBy_36 rfl ?_
      refine az_imul dX5_countLackingPartedBy_38 ?_
      refine az_iload dX5_countLackingPartedBy_39 rfl ?_
      refine az_iadd dX5_countLackingPartedBy_41 ?_
      refine az_iald (16 * a + b) dX5_countLackingPartedBy_42 sh_375 (by omega) (by decide) (by simp only [az_lit, nI_add, pk_mul, Nat.add_assoc]) ?_
      refine az_iloadn dX5_countLackingPartedBy_43 rfl ?_
      refine az_pc 44 (by decide) ?_
      refine az_ishr dX5_countLackingPartedBy_44 ?_
      refine az_iconst (v := 1) dX5_countLackingPartedBy_45 (by decide) ?_
      refine az_iand dX5_countLackingPartedBy_46 ?_
      refine az_iconst (v := 1) dX5_countLackingPartedBy_47 (by decide) ?_
      refine az_icmpne (t := 55) dX5_countLackingPartedBy_48 (by decide) (fun h48 => ?_) (fun h48 => ?_)
      · refine az_iconst (v := 0) dX5_countLackingPartedBy_55 (by decide) ?_
        first | exact J _ (by rw [if_neg h48]) | exact J _ (by rw [if_pos h48])
      · refine az_iconst (v := 1) dX5_countLackingPartedBy_51 (by decide) ?_
        refine az_goto (t := 56) dX5_countLackingPartedBy_52 (by decide) ?_
        first | exact J _ (by rw [if_neg h48]) | exact J _ (by rw [if_pos h48])
    · rw [Nat.sub_self, zc_in] at h2
      subst h2
      refine az_iload dX5_countLackingPartedBy_21 rfl ?_
      refine az_aloadn dX5_countLackingPartedBy_23 rfl ?_
      refine az_geti dX5_countLackingPartedBy_24 flX5_9 sh_371 rfl ?_
      rw [hn]
      refine az_icmpge (t := 85) dX5_countLackingPartedBy_27 (by decide) (fun h27 => ?_) (fun h27 => ?_)
      rotate_left 1
      · exact absurd (Int32.le_refl _) h27
      refine az_iinc (w := 1) dX5_countLackingPartedBy_85 rfl (by decide) (by decide) ?_
      dsimp only [List.set]
      refine az_goto (t := 6) dX5_countLackingPartedBy_88 (by decide) ?_
      rw [nI_1]; exact ih _ _ _ h
  · rw [Nat.sub_self, zc_pr] at h
    subst h
    refine az_iload dX5_countLackingPartedBy_6 rfl ?_
    refine az_aloadn dX5_countLackingPartedBy_8 rfl ?_
    refine az_geti dX5_countLackingPartedBy_9 flX5_9 sh_371 rfl ?_
    rw [hn]
    refine az_icmpge (t := 91) dX5_countLackingPartedBy_12 (by decide) (fun h12 => ?_) (fun h12 => ?_)
    rotate_left 1
    · exact absurd (Int32.le_refl _) h12
    refine az_iload dX5_countLackingPartedBy_91 rfl ?_
    refine az_iret dX5_countLackingPartedBy_93 rfl ?_
    exact hQ
end CF

/-! the class's trees -/
def zt_kn0 (len : Nat → Int32) (N q : Nat) : Nat := if 3 ≤ zt_deg len N (zl_end len N q) then 2 ^ zl_end len N q else 0
def zt_ko (len : Nat → Int32) (N : Nat) : Nat → Nat
  | 0 => 0
  | i + 1 => zt_ko len N i ||| (if zt_deg len N i = 1 then zt_kn0 len N i else 0)
theorem zl_go_lt {len : Nat → Int32} {N : Nat} : ∀ (f fr a : Nat), a < 16 → zl_go len N f fr a < 16
  | 0, _, _, h => h
  | f + 1, fr, a, h => by
    rw [zl_go]
    split
    · refine zl_go_lt f _ _ ?_
      unfold zl_to zl_lo
      have hs := zf_in_spec (f := fun i => (zn_diff (zn_bs len N a) (2 ^ fr)).testBit i) 16 0
      cases hz : zf_in (fun i => (zn_diff (zn_bs len N a) (2 ^ fr)).testBit i) 16 0 with
      | none => simp
      | some i => rw [hz] at hs; simpa using hs.2.1
    · exact h
theorem zl_lo_lt (k : Nat) : zl_lo k < 16 := by
  unfold zl_lo
  have hs := zf_in_spec (f := fun i => k.testBit i) 16 0
  cases hz : zf_in (fun i => k.testBit i) 16 0 with
  | none => simp
  | some i => rw [hz] at hs; simpa using hs.2.1
theorem zl_end_lt {len : Nat → Int32} {N q : Nat} : zl_end len N q < 16 := zl_go_lt N q _ (zl_lo_lt _)
theorem zt_kn0_lt {len : Nat → Int32} {N q : Nat} : zt_kn0 len N q < 65536 := by
  unfold zt_kn0
  split
  · exact Nat.pow_lt_pow_right (n := 16) (by decide) zl_end_lt
  · decide
theorem zt_ko_lt {len : Nat → Int32} {N : Nat} : ∀ i, zt_ko len N i < 65536
  | 0 => by rw [zt_ko]; decide
  | i + 1 => by
    rw [zt_ko]
    refine Nat.or_lt_two_pow (n := 16) (zt_ko_lt i) ?_
    split
    · exact zt_kn0_lt
    · decide
theorem zl_lo_pow : ∀ t, t < 16 → zl_lo (2 ^ t) = t := by decide +kernel
theorem zn_one {k : Nat} (hk : k < 65536) (h : zn_pc k = 1) : k = 2 ^ zl_lo k := by
  have h0 := zl_lo_spec hk (zn_pc_pos (by omega))
  refine zn_ext (n := 16) hk (Nat.pow_lt_pow_right (by decide) h0.2.1) (fun i hi => ?_)
  rw [Nat.testBit_two_pow]
  cases hb : k.testBit i with
  | true => have := zn_pc_1 hk h hb; simp [this]
  | false =>
    by_cases e : zl_lo k = i
    · rw [← e, h0.2.2.1] at hb; cases hb
    · simp [e]
section CJ
variable {X : az_X} {d : Nat} {mem : az_M} {Q : Option az_V → az_M → Prop} {N : Nat}
theorem s_X5_countBeside {p k : Nat} (hp : p < 16) (hb : mem 372 p = nI k) (hk : k < 65536) (hQ : Q (some (.inl (nI (zn_pc k)))) mem) : az_Sp X (d + 1) mX5_countBeside [.inr 371, .inl (nI p)] mem Q := by
  refine az_body (by decide +kernel) (Nat.le_of_ble_eq_true rfl) ?_
  show az_Ev X _ mX5_countBeside 0 [some (.inr 371), some (.inl (nI p))] [] mem Q
  refine az_aloadn dX5_countBeside_0 rfl ?_
  refine az_getr dX5_countBeside_1 flX5_15 sh_371 rfl ?_
  refine az_iloadn dX5_countBeside_4 rfl ?_
  refine az_iald (p) dX5_countBeside_5 sh_372 (by omega) (by decide) (by simp only [az_lit, nI_add, pk_mul, Nat.add_assoc]) ?_
  rw [hb]
  refine az_ins1 (N := mJ6_bitCount_0f7a4) dX5_countBeside_6 lsX5_87 okJ6_bitCount_0f7a4 (Nat.le_of_ble_eq_true rfl) ?_
  refine s_bitCount hk ?_
  try dsimp only [az_ps]
  refine az_iret dX5_countBeside_9 rfl ?_
  exact hQ
theorem x_kl0 {L1 L2 L5 L6 : Option az_V} {t : Nat} (hn : mem 371 0 = nI N) (hN : N ≤ 16) (ht : t ≤ N) (hQ : Q (some (.inl 0)) mem) : az_Ev X (d + 2) mX5_knotOfLeaf 14 [some (.inr 371), L1, L2, some (.inl 0), some (.inl (nI t)), L5, L6] [] mem Q := by
  refine az_iload dX5_knotOfLeaf_14 rfl ?_
  refine az_aloadn dX5_knotOfLeaf_16 rfl ?_
  refine az_geti dX5_knotOfLeaf_17 flX5_9 sh_371 rfl ?_
  rw [hn]
  refine az_icmpge (t := 76) dX5_knotOfLeaf_20 (by decide) (fun h20 => ?_) (fun h20 => ?_)
  · refine az_iconst (v := 0) dX5_knotOfLeaf_76 (by decide) ?_
    refine az_iret dX5_knotOfLeaf_77 rfl ?_
    exact hQ
  · refine az_iloadn dX5_knotOfLeaf_23 rfl ?_
    refine az_ins1 (N := mJ6_numberOfTrailingZeros_0f7a4) dX5_knotOfLeaf_24 lsX5_98 okJ6_numberOfTrailingZeros_0f7a4 (Nat.le_of_ble_eq_true rfl) ?_
    refine (show ∀ {Q : Option az_V → az_M → Prop}, Q (some (.inl 32)) mem → az_Sp X _ mJ6_numberOfTrailingZeros_0f7a4 [.inl 0] mem Q from fun {Q} h => s_ntz (k := 0) (by decide) (by rw [if_pos rfl]; exact h)) ?_
    try dsimp only [az_ps]
    refine az_istore dX5_knotOfLeaf_27 (by decide) ?_
    dsimp only [List.set]
    refine az_iload dX5_knotOfLeaf_29 rfl ?_
    refine az_aloadn dX5_knotOfLeaf_31 rfl ?_
    refine az_geti dX5_knotOfLeaf_32 flX5_9 sh_371 rfl ?_
    rw [hn]
    refine az_icmplt (t := 40) dX5_knotOfLeaf_35 (by decide) (fun h35 => ?_) (fun h35 => ?_)
    · exact absurd h35 (nI_nlt (a := 32) (b := N) (by omega) (by decide))
    refine az_iconst (v := 0) dX5_knotOfLeaf_38 (by decide) ?_
    refine az_iret dX5_knotOfLeaf_39 rfl ?_
    exact hQ
theorem x_kl {len : Nat → Int32} {L1 : Option az_V} (hn : mem 371 0 = nI N) (hN : N ≤ 16) (hb : ∀ p, p < N → mem 372 p = nI (zn_bs len N p)) (hG : zl_G len N) (R : Nat) (hQ : Q (some (.inl (nI (if 3 ≤ zt_deg len N R then 2 ^ R else 0)))) mem) : ∀ (f t fr a : Nat) (V : Nat → Bool) (L5 L6 : Option az_V), zl_I len N V fr a → fb_ct V N = t + 1 → N ≤ fb_ct V N + f → zl_go len N f fr a = R → az_Ev X (d + 2) mX5_knotOfLeaf 14 [some (.inr 371), L1, some (.inl (nI (2 ^ fr))), some (.inl (nI (2 ^ a))), some (.inl (nI t)), L5, L6] [] mem Q
  | 0, t, fr, a, V, L5, L6, hI, hc, hf, hR => by
    have := zl_full hI.2.1 hI.2.2.2.1
    omega
  | f + 1, t, fr, a, V, L5, L6, hI, hc, hf, hR => by
    have hlt : zn_bs len N a < 65536 := Nat.lt_of_lt_of_le zn_bs_lt (zi_pow hN)
    have hfr := hI.1
    have ha := hI.2.1
    have hfull := zl_full hI.2.1 hI.2.2.2.1
    have hpc := zn_pc_le (zn_bs len N a)
    have hpa : 2 ^ a < 65536 := Nat.pow_lt_pow_right (n := 16) (by decide) (by omega)
    have hpf : 2 ^ fr < 65536 := Nat.pow_lt_pow_right (n := 16) (by decide) (by omega)
    rw [zl_go] at hR
    refine az_iload dX5_knotOfLeaf_14 rfl ?_
    refine az_aloadn dX5_knotOfLeaf_16 rfl ?_
    refine az_geti dX5_knotOfLeaf_17 flX5_9 sh_371 rfl ?_
    rw [hn]
    refine az_icmpge (t := 76) dX5_knotOfLeaf_20 (by decide) (fun h20 => ?_) (fun h20 => ?_)
    · exact absurd h20 (nI_ge (by omega) (by omega))
    refine az_iloadn dX5_knotOfLeaf_23 rfl ?_
    refine az_ins1 (N := mJ6_numberOfTrailingZeros_0f7a4) dX5_knotOfLeaf_24 lsX5_98 okJ6_numberOfTrailingZeros_0f7a4 (Nat.le_of_ble_eq_true rfl) ?_
    refine s_ntz hpa ?_
    rw [if_neg (by have := Nat.two_pow_pos a; omega), zl_lo_pow a (by omega)]
    try dsimp only [az_ps]
    refine az_istore dX5_knotOfLeaf_27 (by decide) ?_
    dsimp only [List.set]
    refine az_iload dX5_knotOfLeaf_29 rfl ?_
    refine az_aloadn dX5_knotOfLeaf_31 rfl ?_
    refine az_geti dX5_knotOfLeaf_32 flX5_9 sh_371 rfl ?_
    rw [hn]
    refine az_icmplt (t := 40) dX5_knotOfLeaf_35 (by decide) (fun h35 => ?_) (fun h35 => ?_)
    rotate_left 1
    · exact absurd (nI_lt ha (by omega)) h35
    refine az_aloadn dX5_knotOfLeaf_40 rfl ?_
    refine az_iload dX5_knotOfLeaf_41 rfl ?_
    refine az_pc 43 (by decide) ?_
    refine az_inv1 (N := mX5_countBeside) dX5_knotOfLeaf_43 lkX5_92 okX5_countBeside sh_371 rfl (Nat.le_of_ble_eq_true rfl) ?_
    refine s_X5_countBeside (by omega) (hb a ha) hlt ?_
    try dsimp only [az_ps]
    refine az_iconst (v := 3) dX5_knotOfLeaf_46 (by decide) ?_
    refine az_icmplt (t := 52) dX5_knotOfLeaf_47 (by decide) (fun h47 => ?_) (fun h47 => ?_)
    rotate_left 1
    · have h3 : 3 ≤ zn_pc (zn_bs len N a) := by
          rcases Nat.lt_or_ge (zn_pc (zn_bs len N a)) 3 with z | z
          · exact absurd (nI_lt (b := 3) z (by decide)) h47
          · exact z
      rw [if_neg (by omega)] at hR
      subst hR
      refine az_iloadn dX5_knotOfLeaf_50 rfl ?_
      refine az_iret dX5_knotOfLeaf_51 rfl ?_
      rw [if_pos (show 3 ≤ zt_deg len N a from h3)] at hQ
      exact hQ
    have h3 : zn_pc (zn_bs len N a) < 3 := (nI_ltI (b := 3) (by omega) (by decide)).mp h47
    refine az_aloadn dX5_knotOfLeaf_52 rfl ?_
    refine az_getr dX5_knotOfLeaf_53 flX5_15 sh_371 rfl ?_
    refine az_iload dX5_knotOfLeaf_56 rfl ?_
    refine az_iald (a) dX5_knotOfLeaf_58 sh_372 (by omega) (by decide) (by simp only [az_lit, nI_add, pk_mul, Nat.add_assoc]) ?_
    rw [hb a ha]
    refine az_iloadn dX5_knotOfLeaf_59 rfl ?_
    refine az_iconst (v := -1) dX5_knotOfLeaf_60 (by decide) ?_
    refine az_ixor dX5_knotOfLeaf_61 ?_
    refine az_iand dX5_knotOfLeaf_62 ?_
    rw [zb_diff (by omega) (by omega)]
    refine az_istore dX5_knotOfLeaf_63 (by decide) ?_
    dsimp only [List.set]
    refine az_iloadn dX5_knotOfLeaf_65 rfl ?_
    refine az_istoren dX5_knotOfLeaf_66 (by decide) ?_
    dsimp only [List.set]
    refine az_pc 67 (by decide) ?_
    refine az_iload dX5_knotOfLeaf_67 rfl ?_
    refine az_istoren dX5_knotOfLeaf_69 (by decide) ?_
    dsimp only [List.set]
    refine az_iinc (w := 1) dX5_knotOfLeaf_70 rfl (by decide) (by decide) ?_
    dsimp only [List.set]
    refine az_goto (t := 14) dX5_knotOfLeaf_73 (by decide) ?_
    rw [nI_1]
    by_cases h2 : zn_pc (zn_bs len N a) = 2
    · rw [if_pos h2] at hR
      have hfb := hI.2.2.2.2.1
      have hp2 := zn_pc_2 hlt h2 hfb
      have hnx := zl_next hN hG hI h2
      have hdl := zn_diff_lt (b := 2 ^ fr) (n := 16) hlt (by decide)
      rw [zn_one hdl hp2.1, show zl_lo (zn_diff (zn_bs len N a) (2 ^ fr)) = zl_to len N a fr from rfl]
      exact x_kl hn hN hb hG R hQ f (t + 1) a _ _ _ _ hnx (by rw [zl_ct ha hI.2.2.2.1]; omega) (by rw [zl_ct ha hI.2.2.2.1]; omega) hR
    · rw [if_neg h2] at hR
      subst hR
      have h1 : zn_pc (zn_bs len N a) = 1 := by
        have : 0 < zn_pc (zn_bs len N a) := fb_ct_pos.mpr ⟨fr, by omega, hI.2.2.2.2.1⟩
        omega
      have hz : zn_diff (zn_bs len N a) (2 ^ fr) = 0 := by
        refine zn_zero (n := 16) (zn_diff_lt hlt (by decide)) (fun i hi => ?_)
        rw [zn_diff_bit (by omega), Nat.testBit_two_pow]
        cases hbi : (zn_bs len N a).testBit i with
        | false => rfl
        | true =>
          have e1 := zn_pc_1 hlt h1 hbi
          have e2 := zn_pc_1 hlt h1 hI.2.2.2.2.1
          simp [e1, e2]
      rw [hz]
      refine x_kl0 hn hN (by omega) ?_
      rw [if_neg (show ¬ 3 ≤ zt_deg len N a from by unfold zt_deg; omega)] at hQ
      exact hQ
theorem s_X5_knotOfLeaf {len : Nat → Int32} {q : Nat} (hn : mem 371 0 = nI N) (hN : N ≤ 16) (hb : ∀ p, p < N → mem 372 p = nI (zn_bs len N p)) (hG : zl_G len N) (hq : q < N) (h1 : zt_deg len N q = 1) (hQ : Q (some (.inl (nI (zt_kn0 len N q)))) mem) : az_Sp X (d + 2) mX5_knotOfLeaf [.inr 371, .inl (nI q)] mem Q := by
  have hlt : zn_bs len N q < 65536 := Nat.lt_of_lt_of_le zn_bs_lt (zi_pow hN)
  have hst := zl_start hN hG hq h1
  have hct : fb_ct (fun u => decide (u = q)) N = 0 + 1 := by
    have := fb_ct_upd (fun _ => false) true hq
    have e0 : fb_ct (fun _ => false) N = 0 := fb_ct_zero.mpr (fun _ _ => rfl)
    have e : (fun k => if k = q then true else false) = fun u => decide (u = q) := by funext k; by_cases h : k = q <;> simp [h]
    rw [e, e0] at this
    simpa using this
  refine az_body (by decide +kernel) (Nat.le_of_ble_eq_true rfl) ?_
  show az_Ev X _ mX5_knotOfLeaf 0 [some (.inr 371), some (.inl (nI q)), none, none, none, none, none] [] mem Q
  refine az_iconst (v := 1) dX5_knotOfLeaf_0 (by decide) ?_
  refine az_iloadn dX5_knotOfLeaf_1 rfl ?_
  refine az_ishl dX5_knotOfLeaf_2 ?_
  refine az_istoren dX5_knotOfLeaf_3 (by decide) ?_
  dsimp only [List.set]
  refine az_aloadn dX5_knotOfLeaf_4 rfl ?_
  refine az_getr dX5_knotOfLeaf_5 flX5_15 sh_371 rfl ?_
  refine az_iloadn dX5_knotOfLeaf_8 rfl ?_
  refine az_iald (q) dX5_knotOfLeaf_9 sh_372 (by omega) (by decide) (by simp only [az_lit, nI_add, pk_mul, Nat.add_assoc]) ?_
  refine az_istoren dX5_knotOfLeaf_10 (by decide) ?_
  dsimp only [List.set]
  refine az_iconst (v := 0) dX5_knotOfLeaf_11 (by decide) ?_
  refine az_istore dX5_knotOfLeaf_12 (by decide) ?_
  dsimp only [List.set]
  skip
  rw [hb q hq, zb_shl1 q (by omega), zn_one hlt h1]
  exact x_kl hn hN hb hG (zl_end len N q) hQ N 0 q _ _ _ _ hst hct (by omega) rfl
theorem s_X5_leavesLessKnots {len : Nat → Int32} (hn : mem 371 0 = nI N) (hN : N ≤ 16) (hb : ∀ p, p < N → mem 372 p = nI (zn_bs len N p)) (hG : zl_G len N) (hQ : Q (some (.inl (if 0 < zt_lv len N ∧ zt_ko len N N = 0 then 1 else zt_lv len N - nI (zn_pc (zt_ko len N N))))) mem) : az_Sp X (d + 3) mX5_leavesLessKnots [.inr 371] mem Q := by
  refine az_body (by decide +kernel) (Nat.le_of_ble_eq_true rfl) ?_
  show az_Ev X _ mX5_leavesLessKnots 0 [some (.inr 371), none, none, none] [] mem Q
  refine az_iconst (v := 0) dX5_leavesLessKnots_0 (by decide) ?_
  refine az_istoren dX5_leavesLessKnots_1 (by decide) ?_
  dsimp only [List.set]
  refine az_iconst (v := 0) dX5_leavesLessKnots_2 (by decide) ?_
  refine az_istoren dX5_leavesLessKnots_3 (by decide) ?_
  dsimp only [List.set]
  refine az_iconst (v := 0) dX5_leavesLessKnots_4 (by decide) ?_
  refine az_istoren dX5_leavesLessKnots_5 (by decide) ?_
  dsimp only [List.set]
  skip
  refine az_up (fun i => az_Ev X (d + 3) mX5_leavesLessKnots 6 [some (.inr 371), some (.inl (zm_sum (fun p => if zt_deg len N p = 1 then 1 else 0) i)), some (.inl (nI (zt_ko len N i))), some (.inl (nI i))] [] mem Q) N 0 (by omega) (fun i _ hi ih => ?_) ?_
  · rw [zm_sum, zt_ko] at ih
    have hlt : zn_bs len N i < 65536 := Nat.lt_of_lt_of_le zn_bs_lt (zi_pow hN)
    have hpc := zn_pc_le (zn_bs len N i)
    have ed : zn_pc (zn_bs len N i) = zt_deg len N i := rfl
    refine az_iloadn dX5_leavesLessKnots_6 rfl ?_
    refine az_aloadn dX5_leavesLessKnots_7 rfl ?_
    refine az_geti dX5_leavesLessKnots_8 flX5_9 sh_371 rfl ?_
    rw [hn]
    refine az_icmpge (t := 40) dX5_leavesLessKnots_11 (by decide) (fun h11 => ?_) (fun h11 => ?_)
    · exact absurd h11 (nI_ge (by omega) (by omega))
    refine az_aloadn dX5_leavesLessKnots_14 rfl ?_
    refine az_iloadn dX5_leavesLessKnots_15 rfl ?_
    refine az_inv1 (N := mX5_countBeside) dX5_leavesLessKnots_16 lkX5_92 okX5_countBeside sh_371 rfl (Nat.le_of_ble_eq_true rfl) ?_
    refine s_X5_countBeside (by omega) (hb i hi) hlt ?_
    try dsimp only [az_ps]
    refine az_iconst (v := 1) dX5_leavesLessKnots_19 (by decide) ?_
    refine az_icmpne (t := 34) dX5_leavesLessKnots_20 (by decide) (fun h20 => ?_) (fun h20 => ?_)
    · have hne : ¬ zt_deg len N i = 1 := fun h => h20 (by rw [ed, h]; rfl)
      rw [if_neg hne, if_neg hne, Nat.or_zero, show ∀ x : Int32, x + 0 = x from Int32.add_zero] at ih
      refine az_iinc (w := 1) dX5_leavesLessKnots_34 rfl (by decide) (by decide) ?_
      dsimp only [List.set]
      refine az_goto (t := 6) dX5_leavesLessKnots_37 (by decide) ?_
      rw [nI_1]; exact ih
    · have h1 : zt_deg len N i = 1 := (nI_eq (b := 1) (by omega) (by decide)).mp h20
      rw [if_pos h1, if_pos h1] at ih
      refine az_iinc (w := 1) dX5_leavesLessKnots_23 rfl (by decide) (by decide) ?_
      dsimp only [List.set]
      refine az_iloadn dX5_leavesLessKnots_26 rfl ?_
      refine az_aloadn dX5_leavesLessKnots_27 rfl ?_
      refine az_iloadn dX5_leavesLessKnots_28 rfl ?_
      refine az_inv1 (N := mX5_knotOfLeaf) dX5_leavesLessKnots_29 lkX5_95 okX5_knotOfLeaf sh_371 rfl (Nat.le_of_ble_eq_true rfl) ?_
      refine s_X5_knotOfLeaf hn hN hb hG hi h1 ?_
      try dsimp only [az_ps]
      try dsimp only [az_ps]
      refine az_ior dX5_leavesLessKnots_32 ?_
      rw [fa_or]
      refine az_istoren dX5_leavesLessKnots_33 (by decide) ?_
      dsimp only [List.set]
      refine az_iinc (w := 1) dX5_leavesLessKnots_34 rfl (by decide) (by decide) ?_
      dsimp only [List.set]
      refine az_goto (t := 6) dX5_leavesLessKnots_37 (by decide) ?_
      rw [nI_1]; exact ih
  · have hk := zt_ko_lt (len := len) (N := N) N
    have e1 : zm_sum (fun p => if zt_deg len N p = 1 then 1 else 0) N = zt_lv len N := rfl
    rw [e1]
    have fin : ∀ v, v = (if 0 < zt_lv len N ∧ zt_ko len N N = 0 then (1 : Int32) else 0) → az_Ev X (d + 3) mX5_leavesLessKnots 53 [some (.inr 371), some (.inl (zt_lv len N)), some (.inl (nI (zt_ko len N N))), some (.inl (nI N))] [.inl v] mem Q := by
      intro v hv
      by_cases hc : 0 < zt_lv len N ∧ zt_ko len N N = 0
      · rw [if_pos hc] at hv hQ
        subst hv
        refine az_istoren dX5_leavesLessKnots_53 (by decide) ?_
        dsimp only [List.set]
        refine az_iloadn dX5_leavesLessKnots_54 rfl ?_
        refine az_ifeq (t := 62) dX5_leavesLessKnots_55 (by decide) (fun h55 => ?_) (fun h55 => ?_)
        · exact absurd h55 (by decide)
        refine az_iconst (v := 1) dX5_leavesLessKnots_58 (by decide) ?_
        refine az_goto (t := 68) dX5_leavesLessKnots_59 (by decide) ?_
        refine az_iret dX5_leavesLessKnots_68 rfl ?_
        exact hQ
      · rw [if_neg hc] at hv hQ
        subst hv
        refine az_istoren dX5_leavesLessKnots_53 (by decide) ?_
        dsimp only [List.set]
        refine az_iloadn dX5_leavesLessKnots_54 rfl ?_
        refine az_ifeq (t := 62) dX5_leavesLessKnots_55 (by decide) (fun h55 => ?_) (fun h55 => ?_)
        rotate_left 1
        · exact absurd rfl h55
        refine az_iloadn dX5_leavesLessKnots_62 rfl ?_
        refine az_iloadn dX5_leavesLessKnots_63 rfl ?_
        refine az_ins1 (N := mJ6_bitCount_0f7a4) dX5_leavesLessKnots_64 lsX5_87 okJ6_bitCount_0f7a4 (Nat.le_of_ble_eq_true rfl) ?_
        refine s_bitCount hk ?_
        try dsimp only [az_ps]
        refine az_isub dX5_leavesLessKnots_67 ?_
        refine az_iret dX5_leavesLessKnots_68 rfl ?_
        exact hQ
    refine az_iloadn dX5_leavesLessKnots_6 rfl ?_
    refine az_aloadn dX5_leavesLessKnots_7 rfl ?_
    refine az_geti dX5_leavesLessKnots_8 flX5_9 sh_371 rfl ?_
    rw [hn]
    refine az_icmpge (t := 40) dX5_leavesLessKnots_11 (by decide) (fun h11 => ?_) (fun h11 => ?_)
    rotate_left 1
    · exact absurd (Int32.le_refl _) h11
    refine az_iloadn dX5_leavesLessKnots_40 rfl ?_
    refine az_ifle (t := 52) dX5_leavesLessKnots_41 (by decide) (fun h41 => ?_) (fun h41 => ?_)
    · refine az_iconst (v := 0) dX5_leavesLessKnots_52 (by decide) ?_
      first
      | exact fin _ (by rw [if_neg (fun h => absurd h41 (Int32.not_le.mpr h.1))])
      | exact fin _ (by rw [if_neg (fun h => h45 (by rw [h.2]; rfl))])
      | exact fin _ (by rw [if_pos ⟨Int32.not_le.mp h41, (nI_eq (b := 0) (by omega) (by decide)).mp h45⟩])
    · refine az_iloadn dX5_leavesLessKnots_44 rfl ?_
      refine az_ifne (t := 52) dX5_leavesLessKnots_45 (by decide) (fun h45 => ?_) (fun h45 => ?_)
      · refine az_iconst (v := 0) dX5_leavesLessKnots_52 (by decide) ?_
        first
        | exact fin _ (by rw [if_neg (fun h => absurd h41 (Int32.not_le.mpr h.1))])
        | exact fin _ (by rw [if_neg (fun h => h45 (by rw [h.2]; rfl))])
        | exact fin _ (by rw [if_pos ⟨Int32.not_le.mp h41, (nI_eq (b := 0) (by omega) (by decide)).mp h45⟩])
      · refine az_iconst (v := 1) dX5_leavesLessKnots_48 (by decide) ?_
        refine az_goto (t := 53) dX5_leavesLessKnots_49 (by decide) ?_
        first
        | exact fin _ (by rw [if_neg (fun h => absurd h41 (Int32.not_le.mpr h.1))])
        | exact fin _ (by rw [if_neg (fun h => h45 (by rw [h.2]; rfl))])
        | exact fin _ (by rw [if_pos ⟨Int32.not_le.mp h41, (nI_eq (b := 0) (by omega) (by decide)).mp h45⟩])
theorem s_X7_tree (hS : zS mem N) (h1N : 1 ≤ N) (hG : zl_G (mem 2) N) (hQ1 : ∀ m', zSf mem m' N → Q (some (.inl (if zm_reach (m' 373) N 0 = nI N ∧ zm_ends (mem 2) N / 2 = nI N - 1 then (if 0 < zt_lv (mem 2) N ∧ zt_ko (mem 2) N N = 0 then 1 else zt_lv (mem 2) N - nI (zn_pc (zt_ko (mem 2) N N))) else -1))) m') : az_Sp X (d + 4) mX7_tree [.inr 0] mem Q := by
  have hN := hS.2.1
  refine az_body (by decide +kernel) (Nat.le_of_ble_eq_true rfl) ?_
  show az_Ev X _ mX7_tree 0 [some (.inr 0), none, none] [] mem Q
  refine az_aloadn dX7_tree_0 rfl ?_
  refine az_inv0 (N := mX7_freshSight) dX7_tree_1 lkX7_131 okX7_freshSight sh_0 rfl (Nat.le_of_ble_eq_true rfl) ?_
  refine t_X7_fresh hS (fun m1 hF => ?_)
  have hQ := hQ1 m1 hF
  have e1 : m1 1 = mem 1 := hF.1 1 (by decide) (by omega)
  have e2 : m1 2 = mem 2 := hF.1 2 (by decide) (by omega)
  have hn1 : m1 1 0 = nI N := by rw [e1]; exact hS.1
  have hb : ∀ p, p < N → m1 372 p = nI (zn_bs (mem 2) N p) := fun p hp => by rw [hF.2.2.1.2.1 p hp, e2, zm_mask_n _ N (by omega)]; rfl
  try dsimp only [az_ps]
  refine az_astoren dX7_tree_4 (by decide) ?_
  dsimp only [List.set]
  refine az_aloadn dX7_tree_5 rfl ?_
  refine az_iconst (v := 0) dX7_tree_6 (by decide) ?_
  refine az_inv1 (N := mX5_countReachedFrom) dX7_tree_7 lkX7_146 okX5_countReachedFrom sh_371 rfl (Nat.le_of_ble_eq_true rfl) ?_
  refine s_X5_countReachedFrom (p := 0) hF.2.2.1.1 hN (by decide) ?_
  try dsimp only [az_ps]
  refine az_aloadn dX7_tree_10 rfl ?_
  refine az_getr dX7_tree_11 flX7_12 sh_0 rfl ?_
  refine az_geti dX7_tree_14 flX7_66 sh_1 rfl ?_
  rw [hn1]
  refine az_icmpne (t := 24) dX7_tree_17 (by decide) (fun h17 => ?_) (fun h17 => ?_)
  · rw [if_neg (fun h => h17 h.1)] at hQ
    refine az_iconst (v := 0) dX7_tree_24 (by decide) ?_
    refine az_istoren dX7_tree_25 (by decide) ?_
    dsimp only [List.set]
    refine az_iloadn dX7_tree_26 rfl ?_
    refine az_ifeq (t := 49) dX7_tree_27 (by decide) (fun _ => ?_) (fun h => absurd rfl h)
    refine az_iconst (v := -1) dX7_tree_49 (by decide) ?_
    exact az_iret dX7_tree_50 rfl hQ
  refine az_iconst (v := 1) dX7_tree_20 (by decide) ?_
  refine az_goto (t := 25) dX7_tree_21 (by decide) ?_
  refine az_istoren dX7_tree_25 (by decide) ?_
  dsimp only [List.set]
  refine az_pc 26 (by decide) ?_
  refine az_iloadn dX7_tree_26 rfl ?_
  refine az_ifeq (t := 49) dX7_tree_27 (by decide) (fun h27 => ?_) (fun h27 => ?_)
  · exact absurd h27 (by decide)
  refine az_aloadn dX7_tree_30 rfl ?_
  refine az_getr dX7_tree_31 flX7_12 sh_0 rfl ?_
  refine az_inv0 (N := mX2_countRoads) dX7_tree_34 lkX7_230 okX2_countRoads sh_1 rfl (Nat.le_of_ble_eq_true rfl) ?_
  refine s_X2_countRoads hn1 hN ?_
  rw [e2]
  try dsimp only [az_ps]
  refine az_aloadn dX7_tree_37 rfl ?_
  refine az_getr dX7_tree_38 flX7_12 sh_0 rfl ?_
  refine az_geti dX7_tree_41 flX7_66 sh_1 rfl ?_
  rw [hn1]
  refine az_iconst (v := 1) dX7_tree_44 (by decide) ?_
  refine az_isub dX7_tree_45 ?_
  refine az_icmpeq (t := 51) dX7_tree_46 (by decide) (fun h46 => ?_) (fun h46 => ?_)
  · rw [if_pos ⟨h17, h46⟩] at hQ
    refine az_aloadn dX7_tree_51 rfl ?_
    refine az_inv0 (N := mX5_leavesLessKnots) dX7_tree_52 lkX7_233 okX5_leavesLessKnots sh_371 rfl (Nat.le_of_ble_eq_true rfl) ?_
    refine s_X5_leavesLessKnots hF.2.2.1.1 hN hb hG ?_
    try dsimp only [az_ps]
    refine az_iret dX7_tree_55 rfl ?_
    exact hQ
  · rw [if_neg (fun h => h46 h.2)] at hQ
    refine az_iconst (v := -1) dX7_tree_49 (by decide) ?_
    refine az_iret dX7_tree_50 rfl ?_
    exact hQ
end CJ

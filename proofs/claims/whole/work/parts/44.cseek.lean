/-! the class's seeking -/
theorem zj_split {k : Nat} (hk : k < 65536) (h0 : k ≠ 0) : ∃ m, k = 2 ^ (zl_lo k + 1) * m + 2 ^ zl_lo k := by
  obtain ⟨-, h2, h3, h4⟩ := zl_lo_spec hk h0
  generalize zl_lo k = t at h2 h3 h4
  have hm : k % 2 ^ t = 0 := by
    apply Nat.eq_of_testBit_eq
    intro i
    rw [Nat.testBit_mod_two_pow, Nat.zero_testBit]
    by_cases hi : i < t
    · rw [h4 i hi]; simp
    · simp [hi]
  have ho : k / 2 ^ t % 2 = 1 := by
    rw [Nat.testBit_eq_decide_div_mod_eq] at h3
    simpa using h3
  refine ⟨k / 2 ^ t / 2, ?_⟩
  have d1 := Nat.div_add_mod k (2 ^ t)
  have d2 := Nat.div_add_mod (k / 2 ^ t) 2
  rw [hm, Nat.add_zero] at d1
  rw [ho] at d2
  rw [Nat.pow_succ, Nat.mul_assoc]
  calc k = 2 ^ t * (k / 2 ^ t) := d1.symm
    _ = 2 ^ t * (2 * (k / 2 ^ t / 2) + 1) := by rw [d2]
    _ = 2 ^ t * (2 * (k / 2 ^ t / 2)) + 2 ^ t := by rw [Nat.mul_add, Nat.mul_one]
/-- the set without its least post -/
def zn_tl (k : Nat) : Nat := zn_diff k (2 ^ zl_lo k)
theorem zn_tl_0 : zn_tl 0 = 0 := by decide +kernel
theorem zn_tl_bit {k : Nat} (hk : k < 65536) (i : Nat) : (zn_tl k).testBit i = (k.testBit i && !decide (zl_lo k = i)) := by
  unfold zn_tl
  rw [zn_diff_bit (by omega), Nat.testBit_two_pow]
theorem zb_tl {k : Nat} (hk : k < 65536) : nI k &&& (nI k - 1) = nI (zn_tl k) := by
  by_cases h0 : k = 0
  · subst h0; decide +kernel
  · obtain ⟨m, hm⟩ := zj_split hk h0
    obtain ⟨-, h2, h3, h4⟩ := zl_lo_spec hk h0
    have e1 : nI k - 1 = nI (k - 1) := by
      obtain ⟨q, rfl⟩ : ∃ q, k = q + 1 := ⟨k - 1, by omega⟩
      rw [nI_pred, Nat.add_sub_cancel]
    rw [e1, fa_and]
    congr 1
    apply Nat.eq_of_testBit_eq
    intro i
    rw [Nat.testBit_and, zn_tl_bit hk]
    generalize zl_lo k = t at hm h2 h3 h4
    have hp : 0 < 2 ^ t := Nat.two_pow_pos t
    have hk1 : k - 1 = 2 ^ (t + 1) * m + (2 ^ t - 1) := by omega
    have hlt : 2 ^ t - 1 < 2 ^ (t + 1) := by rw [Nat.pow_succ]; omega
    have hlt2 : 2 ^ t < 2 ^ (t + 1) := by rw [Nat.pow_succ]; omega
    rw [hk1, Nat.testBit_two_pow_mul_add m hlt, Nat.testBit_two_pow_sub_one]
    by_cases hi : i < t
    · rw [h4 i hi]; rfl
    · by_cases hit : i = t
      · subst hit; simp
      · have hgt : ¬ i < t + 1 := by omega
        rw [if_neg hgt]
        have : k.testBit i = m.testBit (i - (t + 1)) := by
          conv => lhs; rw [hm]
          rw [Nat.testBit_two_pow_mul_add m hlt2, if_neg hgt]
        rw [this]
        have hne : ¬ t = i := fun h => hit h.symm
        simp [hne]
theorem zn_tl_lt {k n : Nat} (hn : n ≤ 31) (hk : k < 2 ^ n) : zn_tl k < 2 ^ n := zn_diff_lt hk hn
theorem zn_tl_pc {k : Nat} (hk : k < 65536) (h0 : k ≠ 0) : zn_pc (zn_tl k) + 1 = zn_pc k := by
  obtain ⟨-, h2, h3, -⟩ := zl_lo_spec hk h0
  have := fb_ct_upd (fun j => k.testBit j) false h2
  have e : (fun j => if j = zl_lo k then false else k.testBit j) = fun j => (zn_tl k).testBit j := by
    funext j
    rw [zn_tl_bit hk]
    by_cases hj : j = zl_lo k
    · rw [if_pos hj, hj]; simp
    · have : ¬ zl_lo k = j := fun h => hj h.symm
      rw [if_neg hj]; simp [this]
  rw [e, if_pos h3, if_neg (by decide)] at this
  exact this
theorem zn_tl_z {k : Nat} (hk : k < 65536) : zn_tl k = 0 ↔ zn_pc k < 2 := by
  by_cases h0 : k = 0
  · subst h0
    have : zn_pc 0 = 0 := by decide +kernel
    rw [this, zn_tl_0]; simp
  · have h1 := zn_tl_pc hk h0
    constructor
    · intro h
      rw [h, show zn_pc 0 = 0 by decide +kernel] at h1
      omega
    · intro h
      have : zn_pc (zn_tl k) = 0 := by omega
      exact zn_zero (n := 16) (zn_tl_lt (by decide) hk) (fun i hi => fb_ct_zero.mp this i hi)
theorem zn_tl_lt_self {k : Nat} (hk : k < 65536) (h0 : k ≠ 0) : zn_tl k < k := by
  have hs : zn_sub (zn_tl k) k := fun i hi => by
    rw [zn_tl_bit hk] at hi
    simp only [Bool.and_eq_true] at hi
    exact hi.1
  have := zn_sub_le hs
  have h1 := zn_tl_pc hk h0
  rcases Nat.lt_or_ge (zn_tl k) k with q | q
  · exact q
  · have e : zn_tl k = k := by omega
    rw [e] at h1; omega
theorem zn_mv_bit (B : Nat → Nat) (s i : Nat) : ∀ n, (zn_mv B s n).testBit i = true ↔ (s.testBit i = true ∨ ∃ j, j < n ∧ s.testBit j = true ∧ (B j).testBit i = true)
  | 0 => ⟨Or.inl, fun h => h.elim id (fun ⟨j, hj, _⟩ => absurd hj (by omega))⟩
  | n + 1 => by
    rw [zn_mv, Nat.testBit_or, Bool.or_eq_true, zn_mv_bit B s i n]
    constructor
    · rintro ((h | ⟨j, h1, h2⟩) | h)
      · exact Or.inl h
      · exact Or.inr ⟨j, by omega, h2⟩
      · by_cases hb : s.testBit n = true
        · rw [if_pos hb] at h; exact Or.inr ⟨n, by omega, hb, h⟩
        · rw [if_neg hb, Nat.zero_testBit] at h; cases h
    · rintro (h | ⟨j, h1, h2, h3⟩)
      · exact Or.inl (Or.inl h)
      · by_cases hj : j = n
        · subst hj; right; rw [if_pos h2]; exact h3
        · exact Or.inl (Or.inr ⟨j, by omega, h2, h3⟩)
theorem zq_nx_tl {len : Nat → Int32} {N s : Nat} (hN : N ≤ 16) (hs : s < 2 ^ N) (h0 : s ≠ 0) : zq_nx len N s = zq_nx len N (zn_tl s) ||| 2 ^ zl_lo s ||| zn_bs len N (zl_lo s) := by
  have hs16 : s < 65536 := Nat.lt_of_lt_of_le hs (zi_pow hN)
  obtain ⟨-, h2, h3, h4⟩ := zl_lo_spec hs16 h0
  have hloN : zl_lo s < N := by
    rcases Nat.lt_or_ge (zl_lo s) N with q | q
    · exact q
    · rw [zn_high hs q] at h3; cases h3
  apply Nat.eq_of_testBit_eq
  intro i
  rw [Bool.eq_iff_iff, Nat.testBit_or, Nat.testBit_or, Bool.or_eq_true, Bool.or_eq_true]
  unfold zq_nx
  rw [zn_mv_bit, zn_mv_bit, Nat.testBit_two_pow]
  constructor
  · rintro (h | ⟨j, h5, h6, h7⟩)
    · by_cases hi : zl_lo s = i
      · exact Or.inl (Or.inr (by simpa using hi))
      · refine Or.inl (Or.inl (Or.inl ?_))
        rw [zn_tl_bit hs16, h]; simp [hi]
    · by_cases hj : zl_lo s = j
      · subst hj; exact Or.inr h7
      · refine Or.inl (Or.inl (Or.inr ⟨j, h5, ?_, h7⟩))
        rw [zn_tl_bit hs16, h6]; simp [hj]
  · rintro (((h | ⟨j, h5, h6, h7⟩) | h) | h)
    · rw [zn_tl_bit hs16, Bool.and_eq_true] at h; exact Or.inl h.1
    · rw [zn_tl_bit hs16, Bool.and_eq_true] at h6; exact Or.inr ⟨j, h5, h6.1, h7⟩
    · have : zl_lo s = i := by simpa using h
      rw [← this]; exact Or.inl h3
    · exact Or.inr ⟨zl_lo s, hloN, h3, h⟩
def zq_0c (s : Nat) : Int32 := if zn_pc s < 2 then 0 else -2
section CL
variable {X : az_X} {d : Nat} {mem : az_M} {Q : Option az_V → az_M → Prop} {N : Nat}
theorem s_X4_prepare {len : Nat → Int32} (hN : N ≤ 10) (hb : ∀ p, p < N → mem 372 p = nI (zn_bs len N p)) (hQ : ∀ m', (∀ k, k ≠ 389 → k ≠ 390 → m' k = mem k) → (∀ s, s < 2 ^ N → m' 389 s = zq_0c s ∧ m' 390 s = nI (zq_nx len N s)) → Q none m') : az_Sp X (d + 1) mX4_prepare [.inr 388, .inl (nI (2 ^ N)), .inr 371] mem Q := by
  have hp : 2 ^ N ≤ 1024 := Nat.pow_le_pow_right (by decide) hN
  have hp1 : 1 ≤ 2 ^ N := Nat.one_le_two_pow
  refine az_body (by decide +kernel) (Nat.le_of_ble_eq_true rfl) ?_
  show az_Ev X _ mX4_prepare 0 [some (.inr 388), some (.inl (nI (2 ^ N))), some (.inr 371), none, none, none] [] mem Q
  refine az_aloadn dX4_prepare_0 rfl ?_
  refine az_getr dX4_prepare_1 flX4_15 sh_388 rfl ?_
  refine az_iconst (v := 0) dX4_prepare_4 (by decide) ?_
  refine az_iconst (v := 0) dX4_prepare_5 (by decide) ?_
  refine az_iast (0) dX4_prepare_6 sh_390 (by omega) (by decide) (by simp only [az_lit, nI_add, pk_mul, Nat.add_assoc]) ?_
  refine az_aloadn dX4_prepare_7 rfl ?_
  refine az_getr dX4_prepare_8 flX4_11 sh_388 rfl ?_
  refine az_iconst (v := 0) dX4_prepare_11 (by decide) ?_
  refine az_iconst (v := 0) dX4_prepare_12 (by decide) ?_
  refine az_iast (0) dX4_prepare_13 sh_389 (by omega) (by decide) (by simp only [az_lit, nI_add, pk_mul, Nat.add_assoc]) ?_
  refine az_iconst (v := 1) dX4_prepare_14 (by decide) ?_
  refine az_istoren dX4_prepare_15 (by decide) ?_
  dsimp only [List.set]
  skip
  refine az_up (fun s => ∀ m' L4 L5, (∀ k, k ≠ 389 → k ≠ 390 → m' k = mem k) → (∀ t, t < s → m' 389 t = zq_0c t ∧ m' 390 t = nI (zq_nx len N t)) → az_Ev X (d + 1) mX4_prepare 16 [some (.inr 388), some (.inl (nI (2 ^ N))), some (.inr 371), some (.inl (nI s)), L4, L5] [] m' Q) (2 ^ N) 1 hp1 (fun s hs1 hs ih m' L4 L5 hf h1 => ?_) (fun m' L4 L5 hf h1 => ?_) _ none none (fun k k1 k2 => by rw [az_w_ne _ k1, az_w_ne _ k2]) (fun t ht => ?_)
  · have hs16 : s < 65536 := by omega
    obtain ⟨-, l2, l3, l4⟩ := zl_lo_spec hs16 (by omega)
    have hloN : zl_lo s < N := by
      rcases Nat.lt_or_ge (zl_lo s) N with q | q
      · exact q
      · rw [zn_high hs q] at l3; cases l3
    have htl := zn_tl_lt_self hs16 (by omega)
    have fin : ∀ v m2 L4 L5, v = zq_0c s → m2 = az_w m' 390 s (nI (zq_nx len N s)) → az_Ev X (d + 1) mX4_prepare 16 [some (.inr 388), some (.inl (nI (2 ^ N))), some (.inr 371), some (.inl (nI (s + 1))), L4, L5] [] (az_w m2 389 s v) Q := by
      intro v m2 L4 L5 hv hm2
      subst hm2
      refine ih _ _ _ (fun k k1 k2 => by rw [az_w_ne _ k1, az_w_ne _ k2]; exact hf k k1 k2) (fun t ht => ?_)
      by_cases hts : t = s
      · subst hts
        refine ⟨by rw [az_w_eq, if_pos ⟨rfl, rfl⟩]; exact hv, ?_⟩
        rw [az_w_ne _ (by decide), az_w_eq, if_pos ⟨rfl, rfl⟩]
      · rw [az_w_eq, if_neg (fun h => hts h.2), az_w_ne _ (by decide), az_w_ne _ (by decide), az_w_eq, if_neg (fun h => hts h.2)]
        exact h1 t (by omega)
    refine az_iloadn dX4_prepare_16 rfl ?_
    refine az_iloadn dX4_prepare_17 rfl ?_
    refine az_icmpge (t := 83) dX4_prepare_18 (by decide) (fun h18 => ?_) (fun h18 => ?_)
    · exact absurd h18 (nI_ge (by omega) (by omega))
    refine az_iloadn dX4_prepare_21 rfl ?_
    refine az_ins1 (N := mJ6_numberOfTrailingZeros_0f7a4) dX4_prepare_22 lsX4_38 okJ6_numberOfTrailingZeros_0f7a4 (Nat.le_of_ble_eq_true rfl) ?_
    refine s_ntz hs16 ?_
    rw [if_neg (by omega)]
    try dsimp only [az_ps]
    refine az_istore dX4_prepare_25 (by decide) ?_
    dsimp only [List.set]
    refine az_iloadn dX4_prepare_27 rfl ?_
    refine az_iloadn dX4_prepare_28 rfl ?_
    refine az_iconst (v := 1) dX4_prepare_29 (by decide) ?_
    refine az_isub dX4_prepare_30 ?_
    refine az_iand dX4_prepare_31 ?_
    rw [zb_tl hs16]
    refine az_istore dX4_prepare_32 (by decide) ?_
    dsimp only [List.set]
    refine az_aloadn dX4_prepare_34 rfl ?_
    refine az_pc 35 (by decide) ?_
    refine az_getr dX4_prepare_35 flX4_15 sh_388 rfl ?_
    refine az_iloadn dX4_prepare_38 rfl ?_
    refine az_aloadn dX4_prepare_39 rfl ?_
    refine az_getr dX4_prepare_40 flX4_15 sh_388 rfl ?_
    refine az_iload dX4_prepare_43 rfl ?_
    refine az_iald (zn_tl s) dX4_prepare_45 sh_390 (by omega) (by decide) (by simp only [az_lit, nI_add, pk_mul, Nat.add_assoc]) ?_
    refine az_iconst (v := 1) dX4_prepare_46 (by decide) ?_
    refine az_iload dX4_prepare_47 rfl ?_
    refine az_ishl dX4_prepare_49 ?_
    refine az_ior dX4_prepare_50 ?_
    rw [(h1 (zn_tl s) htl).2, zb_shl1 (zl_lo s) (by omega), fa_or]
    refine az_aloadn dX4_prepare_51 rfl ?_
    refine az_getr dX4_prepare_52 flX4_44 sh_371 rfl ?_
    refine az_iload dX4_prepare_55 rfl ?_
    refine az_iald (zl_lo s) dX4_prepare_57 sh_372 (by omega) (by decide) (by simp only [az_lit, nI_add, pk_mul, Nat.add_assoc]) ?_
    refine az_pc 58 (by decide) ?_
    refine az_ior dX4_prepare_58 ?_
    rw [hf 372 (by decide) (by decide), hb (zl_lo s) hloN, fa_or, ← zq_nx_tl (by omega) hs (by omega)]
    refine az_iast (s) dX4_prepare_59 sh_390 (by omega) (by decide) (by simp only [az_lit, nI_add, pk_mul, Nat.add_assoc]) ?_
    refine az_aloadn dX4_prepare_60 rfl ?_
    refine az_getr dX4_prepare_61 flX4_11 sh_388 rfl ?_
    refine az_iloadn dX4_prepare_64 rfl ?_
    refine az_iload dX4_prepare_65 rfl ?_
    refine az_ifne (t := 74) dX4_prepare_67 (by decide) (fun h67 => ?_) (fun h67 => ?_)
    · have hpc : ¬ zn_pc s < 2 := fun h => h67 (by rw [(zn_tl_z hs16).mpr h]; rfl)
      refine az_bipush (v := -2) dX4_prepare_74 (by decide) ?_
      refine az_iast (s) dX4_prepare_76 sh_389 (by omega) (by decide) (by simp only [az_lit, nI_add, pk_mul, Nat.add_assoc]) ?_
      refine az_iinc (w := 1) dX4_prepare_77 rfl (by decide) (by decide) ?_
      dsimp only [List.set]
      refine az_goto (t := 16) dX4_prepare_80 (by decide) ?_
      rw [nI_1]
      first
      | exact fin _ _ _ _ (by unfold zq_0c; rw [if_neg hpc]) rfl
      | exact fin _ _ _ _ (by unfold zq_0c; rw [if_pos hpc]) rfl
    · have hpc : zn_pc s < 2 := (zn_tl_z hs16).mp ((nI_eq (b := 0) (by omega) (by decide)).mp h67)
      refine az_iconst (v := 0) dX4_prepare_70 (by decide) ?_
      refine az_goto (t := 76) dX4_prepare_71 (by decide) ?_
      refine az_iast (s) dX4_prepare_76 sh_389 (by omega) (by decide) (by simp only [az_lit, nI_add, pk_mul, Nat.add_assoc]) ?_
      refine az_iinc (w := 1) dX4_prepare_77 rfl (by decide) (by decide) ?_
      dsimp only [List.set]
      refine az_goto (t := 16) dX4_prepare_80 (by decide) ?_
      rw [nI_1]
      first
      | exact fin _ _ _ _ (by unfold zq_0c; rw [if_neg hpc]) rfl
      | exact fin _ _ _ _ (by unfold zq_0c; rw [if_pos hpc]) rfl
  · refine az_iloadn dX4_prepare_16 rfl ?_
    refine az_iloadn dX4_prepare_17 rfl ?_
    refine az_icmpge (t := 83) dX4_prepare_18 (by decide) (fun h18 => ?_) (fun h18 => ?_)
    rotate_left 1
    · exact absurd (Int32.le_refl _) h18
    refine az_vret dX4_prepare_83 rfl ?_
    exact hQ m' hf h1
  · have : t = 0 := by omega
    subst this
    refine ⟨by rw [az_w_eq, if_pos ⟨rfl, rfl⟩]; decide +kernel, ?_⟩
    rw [az_w_ne _ (by decide), az_w_eq, if_pos ⟨rfl, rfl⟩]
    have : zq_nx len N 0 = 0 := by
      apply Nat.eq_of_testBit_eq
      intro i
      rw [Nat.zero_testBit]
      cases hz : (zq_nx len N 0).testBit i with
      | false => rfl
      | true =>
        unfold zq_nx at hz
        rw [zn_mv_bit] at hz
        rcases hz with h | ⟨j, -, h, -⟩
        · rw [Nat.zero_testBit] at h; cases h
        · rw [Nat.zero_testBit] at h; cases h
    rw [this]; rfl
end CL

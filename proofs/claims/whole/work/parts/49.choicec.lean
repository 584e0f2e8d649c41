/-! the class's search: the tries -/
theorem zh_none {D : Nat → Nat} {n nd put op s i : Nat} (hs : zh_cb put op s = true) (hm : zh_meet D n nd s) (hi : i < n) (h : zn_pc (put &&& D i) + zn_pc (op &&& D i) < nd) : False := by
  have hc := zh_cb_iff.mp hs
  have := hm i hi
  have : zn_pc (s &&& D i) ≤ zn_pc (put &&& D i) + zn_pc (op &&& D i) := zn_pc_le_or (fun q hq => by
    rw [Nat.testBit_and, Bool.and_eq_true] at hq
    rw [Nat.testBit_and, Nat.testBit_and]
    rcases hc.2 q hq.1 with g | g
    · left; rw [g, hq.2]; rfl
    · right; rw [g, hq.2]; rfl)
  omega
theorem zh_dis {put op : Nat} (hd : put &&& op = 0) {i : Nat} (h : put.testBit i = true) : op.testBit i = false := by
  cases g : op.testBit i
  · rfl
  · have : (put &&& op).testBit i = true := by rw [Nat.testBit_and, h, g]; rfl
    rw [hd, Nat.zero_testBit] at this; cases this
theorem zh_low {c : Nat → Nat} {N put op s sn lc : Nat} (hN : N ≤ 16) (ho : op < 2 ^ N) (hd : put &&& op = 0) (hl : ∀ p, p < N → lc ≤ c p) (hs : zh_cb put op s = true) (h : sn ≤ zn_pc (s &&& op)) : zh_cs c N put + sn * lc ≤ zh_cs c N s := by
  have hc := zh_cb_iff.mp hs
  have h1 := zh_cs_sum (c := c) (N := N) (a := put) (b := s &&& op) (s := s) (fun i _ hi => ⟨hc.1 i hi, by rw [Nat.testBit_and, zh_dis hd hi, Bool.and_false]⟩) (fun i _ hi => by rw [Nat.testBit_and, Bool.and_eq_true] at hi; exact hi.1)
  have h2 := zh_cs_low (c := c) (lc := lc) (s &&& op) (N := N) hl
  have h3 : zn_pc (s &&& op) = fb_ct (fun i => (s &&& op).testBit i) N := zn_pc_ext hN (Nat.lt_of_le_of_lt Nat.and_le_right ho)
  have h4 : sn * lc ≤ zn_pc (s &&& op) * lc := Nat.mul_le_mul_right _ h
  rw [h3] at h4
  omega
theorem zh_more {c : Nat → Nat} {N put op s : Nat} (hs2 : s < 2 ^ N) (hc1 : ∀ p, p < N → 1 ≤ c p) (hs : zh_cb put op s = true) (hne : s ≠ put) : zh_cs c N put < zh_cs c N s := by
  have hc := zh_cb_iff.mp hs
  have hex : ∃ i, i < N ∧ s.testBit i = true ∧ put.testBit i = false := by
    refine Classical.byContradiction (fun h => hne ?_)
    apply Nat.eq_of_testBit_eq
    intro i
    cases hp : put.testBit i
    · cases hsi : s.testBit i
      · rfl
      · refine absurd ⟨i, ?_, hsi, hp⟩ h
        rcases Nat.lt_or_ge i N with q | q
        · exact q
        · rw [zn_high hs2 q] at hsi; cases hsi
    · exact hc.1 i hp
  obtain ⟨i, hi, h1, h2⟩ := hex
  have := zh_cs_sum (c := c) (N := N) (a := put) (b := 2 ^ i) (s := s) (fun j _ hj => ⟨hc.1 j hj, by rw [Nat.testBit_two_pow]; refine decide_eq_false (fun e => ?_); rw [e, hj] at h2; cases h2⟩) (fun j _ hj => by rw [Nat.testBit_two_pow, decide_eq_true_eq] at hj; rw [← hj]; exact h1)
  have h3 := zh_cs_low (c := c) (lc := 1) (2 ^ i) (N := N) hc1
  have h4 : 0 < fb_ct (fun j => (2 ^ i).testBit j) N := fb_ct_pos.mpr ⟨i, hi, by rw [Nat.testBit_two_pow]; simp⟩
  omega
theorem zh_cs_put {c : Nat → Nat} {p put : Nat} (hp : put.testBit p = false) : ∀ N, p < N → zh_cs c N (put ||| 2 ^ p) = zh_cs c N put + c p := by
  intro N hN
  have := fb_sm_upd (fun q => if put.testBit q then c q else 0) (c p) hN
  rw [hp] at this
  simp only [Bool.false_eq_true, if_false, Nat.add_zero] at this
  unfold zh_cs
  rw [← this]
  refine fb_sm_cong (fun q _ => ?_)
  rw [fb_bit_set]
  by_cases e : q = p
  · simp [e]
  · simp [e]
theorem zh_I_b {mt : Nat → Bool} {cs : Nat → Nat} {N : Nat} {A : Nat → Bool} {B S C : Nat} (hI : zh_I mt cs N A B S C) (h : ∀ s, cs s ≤ 16000) : B ≤ 1000000 ∧ S < 2 ^ N := by
  rcases hI.2.2 with ⟨h1, h2⟩ | ⟨h1, h2, h3, h4, h5⟩
  · exact ⟨by omega, by rw [h2]; exact Nat.two_pow_pos N⟩
  · have := h S; exact ⟨by omega, h1⟩
section CP
variable {X : az_X} {d : Nat} {N : Nat}
theorem s_X1_decide {D c : Nat → Nat} {n nd lc : Nat} {mt : Nat → Bool} (hN : N ≤ 16) (hmt : ∀ s, mt s = true ↔ zh_meet D n nd s) : ∀ (f : Nat) {mem : az_M} {Q : Option az_V → az_M → Prop} {put op dp B S C : Nat} {A : Nat → Bool}, zh_E mem D n nd c lc N → put < 2 ^ N → op < 2 ^ N → put &&& op = 0 → zn_pc op ≤ f → dp + f ≤ 16 → mem 379 7 = nI B → mem 379 8 = nI S → mem 379 9 = nI C → zh_I mt (zh_cs c N) N A B S C → (∀ s, A s = true → zh_cb put op s = false) → (∀ m' B' S' C', zh_fr mem m' → m' 379 7 = nI B' → m' 379 8 = nI S' → m' 379 9 = nI C' → zh_I mt (zh_cs c N) N (fun s => A s || zh_cb put op s) B' S' C' → Q none m') → az_Sp X (d + f + 2) mX1_decide [.inr 379, .inl (nI put), .inl (nI op), .inl (nI (zh_cs c N put)), .inl (nI dp)] mem Q := by
  intro f
  induction f using Nat.strongRecOn with
  | ind f ihf =>
    intro mem Q put op dp B S C A hE hp ho hd hf hdp h7 h8 h9 hI hA hQ
    have hp16 := zi_pow hN
    have hcs : ∀ s, zh_cs c N s ≤ 16000 := fun s => zh_cs_le hN (fun p hp => (hE.2.2.2.2.2 p hp).2.2.2)
    obtain ⟨hB, hS⟩ := zh_I_b hI hcs
    have hsum := hcs put
    have hlc := hE.2.2.2.2.1
    refine az_body (by decide +kernel) (Nat.le_of_ble_eq_true rfl) ?_
    show az_Ev X _ mX1_decide 0 [some (.inr 379), some (.inl (nI put)), some (.inl (nI op)), some (.inl (nI (zh_cs c N put))), some (.inl (nI dp)), none, none] [] mem Q
    refine az_iload dX1_decide_0 rfl ?_
    refine az_bipush (v := 16) dX1_decide_2 (by decide) ?_
    refine az_icmpgt (t := 16) dX1_decide_4 (by decide) (fun h4 => ?_) (fun h4 => ?_)
    · exact absurd h4 (nI_nlt (a := 16) (b := dp) (by omega) (by decide))
    refine az_aloadn dX1_decide_7 rfl ?_
    refine az_iloadn dX1_decide_8 rfl ?_
    refine az_iloadn dX1_decide_9 rfl ?_
    refine az_inv2 (N := mX1_canBeMet) dX1_decide_10 lkX1_89 okX1_canBeMet sh_379 rfl (Nat.le_of_ble_eq_true rfl) ?_
    refine s_X1_canBeMet (d := d + f) hE.1 hE.2.1 hE.2.2.1 (by omega) (by omega) (fun m1 ok t sn fr f7 k5 k6 hno hyes => ?_)
    have hE1 := zh_E_fr fr hE
    have b7 : m1 379 7 = nI B := by rw [f7 7 (by decide)]; exact h7
    have b8 : m1 379 8 = nI S := by rw [f7 8 (by decide)]; exact h8
    have b9 : m1 379 9 = nI C := by rw [f7 9 (by decide)]; exact h9
    have b4 : m1 379 4 = nI lc := hE1.2.2.2.1
    try dsimp only [az_ps]
    refine az_ifne (t := 17) dX1_decide_13 (by decide) (fun h13 => ?_) (fun h13 => ?_)
    · replace h13 := zb_n h13
      obtain ⟨y1, y2, y3, y4, y5⟩ := hyes h13
      have hmul : sn * lc ≤ 16 * 1000 := Nat.mul_le_mul y3 hlc
      refine az_iloadn dX1_decide_17 rfl ?_
      refine az_aloadn dX1_decide_18 rfl ?_
      refine az_geti dX1_decide_19 flX1_31 sh_379 rfl ?_
      rw [k6]
      refine az_aloadn dX1_decide_22 rfl ?_
      refine az_geti dX1_decide_23 flX1_25 sh_379 rfl ?_
      rw [b4]
      refine az_imul dX1_decide_26 ?_
      rw [pk_mul]
      refine az_iadd dX1_decide_27 ?_
      rw [nI_add]
      refine az_aloadn dX1_decide_28 rfl ?_
      refine az_geti dX1_decide_29 flX1_34 sh_379 rfl ?_
      rw [b7]
      refine az_icmple (t := 36) dX1_decide_32 (by decide) (fun h32 => ?_) (fun h32 => ?_)
      · refine az_aloadn dX1_decide_36 rfl ?_
        refine az_geti dX1_decide_37 flX1_28 sh_379 rfl ?_
        rw [k5]
        refine az_ifne (t := 50) dX1_decide_40 (by decide) (fun h40 => ?_) (fun h40 => ?_)
        · have ht0 : t ≠ 0 := fun e => h40 (by rw [e]; rfl)
          obtain ⟨-, z1, z2, -⟩ := zl_lo_spec y2 ht0
          have z3 := y1 _ z2
          have zN : zl_lo t < N := by
            rcases Nat.lt_or_ge (zl_lo t) N with q | q
            · exact q
            · rw [zn_high ho q] at z3; cases z3
          obtain ⟨g, rfl⟩ : ∃ g, f = g + 1 := by
            have : 0 < zn_pc op := fb_ct_pos.mpr ⟨zl_lo t, z1, z3⟩
            exact ⟨f - 1, by omega⟩
          refine az_aloadn dX1_decide_50 rfl ?_
          refine az_geti dX1_decide_51 flX1_28 sh_379 rfl ?_
          rw [k5]
          refine az_ins1 (N := mJ6_numberOfTrailingZeros_0f7a4) dX1_decide_54 lsX1_96 okJ6_numberOfTrailingZeros_0f7a4 (Nat.le_of_ble_eq_true rfl) ?_
          refine s_ntz y2 ?_
          rw [if_neg ht0]
          try dsimp only [az_ps]
          refine az_istore dX1_decide_57 (by decide) ?_
          dsimp only [List.set]
          refine az_iload dX1_decide_59 rfl ?_
          refine az_bipush (v := 16) dX1_decide_61 (by decide) ?_
          refine az_icmpge (t := 113) dX1_decide_63 (by decide) (fun h63 => ?_) (fun h63 => ?_)
          · exact absurd h63 (nI_ge (b := 16) z1 (by decide))
          refine az_iloadn dX1_decide_66 rfl ?_
          refine az_iconst (v := 1) dX1_decide_67 (by decide) ?_
          refine az_iload dX1_decide_68 rfl ?_
          refine az_ishl dX1_decide_70 ?_
          rw [zb_shl1 _ (by omega)]
          generalize hpl : zl_lo t = p at z1 z2 z3 zN ⊢
          have hpw : 2 ^ p < 65536 := Nat.pow_lt_pow_right (n := 16) (by decide) z1
          have hpwN : 2 ^ p < 2 ^ N := Nat.pow_lt_pow_right (by decide) zN
          have hpb : put.testBit p = false := by
            cases hq : put.testBit p with
            | false => rfl
            | true => rw [zh_dis hd hq] at z3; cases z3
          have hdf : ∀ i, (zn_diff op (2 ^ p)).testBit i = (op.testBit i && !decide (p = i)) := fun i => by rw [zn_diff_bit (by omega), Nat.testBit_two_pow]
          have hd1 : (put ||| 2 ^ p) &&& zn_diff op (2 ^ p) = 0 := by
            apply Nat.eq_of_testBit_eq
            intro i
            rw [Nat.testBit_and, fb_bit_set, hdf, Nat.zero_testBit]
            by_cases e : p = i
            · simp [e]
            · have e' : ¬ i = p := fun h => e h.symm
              cases hq : put.testBit i
              · simp [e']
              · simp [zh_dis hd hq]
          have hd2 : put &&& zn_diff op (2 ^ p) = 0 := by
            apply Nat.eq_of_testBit_eq
            intro i
            rw [Nat.testBit_and, hdf, Nat.zero_testBit]
            cases hq : put.testBit i
            · rfl
            · simp [zh_dis hd hq]
          have hpc : zn_pc (zn_diff op (2 ^ p)) ≤ g := by
            have := zn_pc_or (a := zn_diff op (2 ^ p)) (b := 2 ^ p) (by
              apply Nat.eq_of_testBit_eq
              intro i
              rw [Nat.testBit_and, hdf, Nat.testBit_two_pow, Nat.zero_testBit]
              by_cases e : p = i <;> simp [e])
            have h2 : zn_pc (zn_diff op (2 ^ p) ||| 2 ^ p) ≤ zn_pc op := zn_pc_mono (fun i hi => by
              rw [fb_bit_set, hdf, Bool.or_eq_true, Bool.and_eq_true, decide_eq_true_eq] at hi
              rcases hi with h | h
              · exact h.1
              · rw [h]; exact z3)
            have h3 : 0 < zn_pc (2 ^ p) := fb_ct_pos.mpr ⟨p, z1, by rw [Nat.testBit_two_pow]; simp⟩
            omega
          have hor : put ||| 2 ^ p < 2 ^ N := Nat.or_lt_two_pow hp hpwN
          have hdl : zn_diff op (2 ^ p) < 2 ^ N := zn_diff_lt ho (by omega)
          refine az_iconst (v := -1) dX1_decide_71 (by decide) ?_
          refine az_ixor dX1_decide_72 ?_
          refine az_pc 73 (by decide) ?_
          refine az_iand dX1_decide_73 ?_
          rw [zb_diff (by omega) (by omega)]
          refine az_istore dX1_decide_74 (by decide) ?_
          dsimp only [List.set]
          refine az_aloadn dX1_decide_76 rfl ?_
          refine az_iloadn dX1_decide_77 rfl ?_
          refine az_iconst (v := 1) dX1_decide_78 (by decide) ?_
          refine az_iload dX1_decide_79 rfl ?_
          refine az_ishl dX1_decide_81 ?_
          rw [zb_shl1 _ (by omega)]
          refine az_ior dX1_decide_82 ?_
          rw [fa_or]
          refine az_iload dX1_decide_83 rfl ?_
          refine az_iloadn dX1_decide_85 rfl ?_
          refine az_aloadn dX1_decide_86 rfl ?_
          refine az_getr dX1_decide_87 flX1_22 sh_379 rfl ?_
          refine az_iload dX1_decide_90 rfl ?_
          refine az_iald (p) dX1_decide_92 sh_381 (by omega) (by decide) (by simp only [az_lit, nI_add, pk_mul, Nat.add_assoc]) ?_
          refine az_pc 93 (by decide) ?_
          rw [(hE1.2.2.2.2.2 p zN).1]
          refine az_iadd dX1_decide_93 ?_
          rw [nI_add, ← zh_cs_put hpb N zN]
          refine az_iload dX1_decide_94 rfl ?_
          refine az_iconst (v := 1) dX1_decide_96 (by decide) ?_
          refine az_iadd dX1_decide_97 ?_
          rw [nI_1]
          refine az_inv4 (N := mX1_decide) dX1_decide_98 lkX1_65 okX1_decide sh_379 rfl (Nat.le_of_ble_eq_true rfl) ?_
          refine ihf g (by omega) hE1 hor hdl hd1 hpc (by omega) b7 b8 b9 hI (fun s hs => ?_) (fun m2 B2 S2 C2 fr2 g7 g8 g9 I2 => ?_)
          · have := hA s hs
            rw [zh_cb_split (p := p) (by omega) z3 hd, Bool.or_eq_false_iff] at this
            exact this.1
          try dsimp only [az_ps]
          refine az_aloadn dX1_decide_101 rfl ?_
          refine az_iloadn dX1_decide_102 rfl ?_
          refine az_iload dX1_decide_103 rfl ?_
          refine az_iloadn dX1_decide_105 rfl ?_
          refine az_iload dX1_decide_106 rfl ?_
          refine az_iconst (v := 1) dX1_decide_108 (by decide) ?_
          refine az_iadd dX1_decide_109 ?_
          rw [nI_1]
          refine az_inv4 (N := mX1_decide) dX1_decide_110 lkX1_65 okX1_decide sh_379 rfl (Nat.le_of_ble_eq_true rfl) ?_
          refine ihf g (by omega) (zh_E_fr fr2 hE1) hp hdl hd2 hpc (by omega) g7 g8 g9 I2 (fun s hs => ?_) (fun m3 B3 S3 C3 fr3 g7 g8 g9 I3 => ?_)
          · rw [Bool.or_eq_true] at hs
            rcases hs with hs | hs
            · have := hA s hs
              rw [zh_cb_split (p := p) (by omega) z3 hd, Bool.or_eq_false_iff] at this
              exact this.2
            · exact zh_cb_dis (by omega) z3 hd hs
          try dsimp only [az_ps]
          refine az_vret dX1_decide_113 rfl ?_
          exact hQ m3 B3 S3 C3 (zh_fr_trans (zh_fr_trans fr fr2) fr3) g7 g8 g9 (zh_I_congr I3 (fun s _ => by rw [zh_cb_split (p := p) (by omega) z3 hd, Bool.or_assoc]))
        · have ht0 : t = 0 := (nI_eq (b := 0) (by omega) (by decide)).mp h40
          refine az_aloadn dX1_decide_43 rfl ?_
          refine az_iloadn dX1_decide_44 rfl ?_
          refine az_iloadn dX1_decide_45 rfl ?_
          refine az_inv2 (N := mX1_takeIfBest) dX1_decide_46 lkX1_92 okX1_takeIfBest sh_379 rfl (Nat.le_of_ble_eq_true rfl) ?_
          refine s_X1_takeIfBest b7 b8 b9 (by omega) (by omega) (by omega) (by omega) (fun m2 fr2 g7 g8 g9 => ?_)
          try dsimp only [az_ps]
          refine az_vret dX1_decide_49 rfl ?_
          refine hQ m2 _ _ _ (zh_fr_trans fr fr2) g7 g8 g9 (zh_I_take hI hp ((hmt put).mpr (y4 ht0)) zh_cb_self ?_ (by omega) (fun s hs hcb hne => zh_more hs (fun p hp => (hE.2.2.2.2.2 p hp).2.2.1) hcb hne))
          cases hAp : A put with
          | false => rfl
          | true => have := hA put hAp; rw [zh_cb_self] at this; cases this
      · have hgt : B < zh_cs c N put + sn * lc := (nI_ltI (by omega) (by omega)).mp (Int32.not_le.mp h32)
        refine az_vret dX1_decide_35 rfl ?_
        exact hQ m1 B S C fr b7 b8 b9 (zh_I_none hI (fun s hs hcb hm => Nat.lt_of_lt_of_le hgt (zh_low hN ho hd (fun p hp => (hE.2.2.2.2.2 p hp).2.1) hcb (y5 s hcb ((hmt s).mp hm)))))
    · replace h13 := zb_z h13
      obtain ⟨i, hi, hlt⟩ := hno (by simpa using h13)
      refine az_vret dX1_decide_16 rfl ?_
      exact hQ m1 B S C fr b7 b8 b9 (zh_I_none hI (fun s hs hcb hm => absurd (zh_none hcb ((hmt s).mp hm) hi hlt) id))
end CP

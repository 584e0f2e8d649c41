/-! the class's questions -/
def zS (mem : az_M) (N : Nat) : Prop := mem 1 0 = nI N ∧ N ≤ 16 ∧ (mem 0 7 = 0 ∨ mem 0 7 = 1) ∧ (mem 0 7 = 0 → zC mem N)
/-- as before, but sight is fresh now -/
def zSf (mem m' : az_M) (N : Nat) : Prop := (∀ k, k ≠ 0 → (k < 371 ∨ 378 < k) → m' k = mem k) ∧ (∀ j, m' 0 j = if j = 7 then 0 else mem 0 j) ∧ zC m' N ∧ (mem 0 7 = 0 → m' = mem)
theorem zSf_S {mem m' : az_M} {N : Nat} (h : zS mem N) (hf : zSf mem m' N) : zS m' N := ⟨by rw [hf.1 1 (by decide) (by omega)]; exact h.1, h.2.1, Or.inl (by rw [hf.2.1, if_pos rfl]), fun _ => hf.2.2.1⟩
theorem zSf_trans {mem m1 m2 : az_M} {N : Nat} (h1 : zSf mem m1 N) (h2 : zSf m1 m2 N) : zSf mem m2 N := by
  have : m2 = m1 := h2.2.2.2 (by rw [h1.2.1, if_pos rfl])
  rw [this]; exact h1
theorem zC_P {mem : az_M} {N : Nat} (hN : N ≤ 16) (h : zC mem N) : zP mem N := fun a b ha hb => by rw [h.2.2.2.2.1 a b ha hb]; exact zm_mask_ex _ hN
theorem zC_Y {mem : az_M} {N : Nat} (hN : N ≤ 16) (h : zC mem N) : ∀ p, p < N → ∃ k, k < 65536 ∧ mem 376 p = nI k := fun p hp => by rw [h.2.2.2.2.2.1 p hp]; exact zm_mask_ex _ hN
def zw_agc (wd : Nat) (wo an : Nat → Int32) (p m : Nat) : Bool := wd.testBit m && !decide (wo m = an (16 * m + p))
def zw_fitc (wd : Nat) (wo an : Nat → Int32) (l f : Int32) (N p : Nat) : Bool := decide (zm_many (zm_mask (zw_agc wd wo an p) N) ≤ if l = 0 then 0 else f)
section CH
variable {X : az_X} {d : Nat} {mem : az_M} {Q : Option az_V → az_M → Prop} {N : Nat}
theorem t_X7_fresh (h : zS mem N) (hQ : ∀ m', zSf mem m' N → Q (some (.inr 371)) m') : az_Sp X (d + 3) mX7_freshSight [.inr 0] mem Q := by
  rcases h.2.2.1 with h0 | h1
  · have hq := hQ mem ⟨fun _ _ _ => rfl, fun j => by by_cases hj : j = 7; rw [if_pos hj, hj]; exact h0; rw [if_neg hj], h.2.2.2 h0, fun _ => rfl⟩
    refine az_body (by decide +kernel) (Nat.le_of_ble_eq_true rfl) ?_
    show az_Ev X _ mX7_freshSight 0 [some (.inr 0)] [] mem Q
    refine az_aloadn dX7_freshSight_0 rfl ?_
    refine az_geti dX7_freshSight_1 flX7_58 sh_0 rfl ?_
    refine az_ifeq (t := 23) dX7_freshSight_4 (by decide) (fun h4 => ?_) (fun h4 => ?_)
    rotate_left 1
    · exact absurd h0 h4
    refine az_aloadn dX7_freshSight_23 rfl ?_
    refine az_getr dX7_freshSight_24 flX7_33 sh_0 rfl ?_
    refine az_aret dX7_freshSight_27 rfl ?_
    exact hq
  · exact s_X7_freshSight h.1 h.2.1 h.2.2.1 h.2.2.2 (fun m' a b c => hQ m' ⟨a, b, c, fun q => absurd (h1.symm.trans q) (by decide)⟩)
theorem s_X7_way {a b : Int32} (hS : zS mem N) (hQ0 : ¬ ((0 ≤ a ∧ a < nI N) ∧ (0 ≤ b ∧ b < nI N)) → Q (some (.inl (-1))) mem) (hQ1 : ((0 ≤ a ∧ a < nI N) ∧ (0 ≤ b ∧ b < nI N)) → ∀ m', zSf mem m' N → Q (some (.inl (m' 373 (16 * a.toNatClampNeg + b.toNatClampNeg)))) m') : az_Sp X (d + 4) mX7_way [.inr 0, .inl a, .inl b] mem Q := by
  have hN := hS.2.1
  refine az_body (by decide +kernel) (Nat.le_of_ble_eq_true rfl) ?_
  show az_Ev X _ mX7_way 0 [some (.inr 0), some (.inl a), some (.inl b)] [] mem Q
  refine az_aloadn dX7_way_0 rfl ?_
  refine az_getr dX7_way_1 flX7_12 sh_0 rfl ?_
  refine az_iloadn dX7_way_4 rfl ?_
  refine az_inv1 (N := mX2_isPost) dX7_way_5 lkX7_80 okX2_isPost sh_1 rfl (Nat.le_of_ble_eq_true rfl) ?_
  refine s_X2_isPost ?_
  rw [hS.1]
  try dsimp only [az_ps]
  refine az_ifeq (t := 22) dX7_way_8 (by decide) (fun h8 => ?_) (fun h8 => ?_)
  · replace h8 := zb_z h8
    have hq := hQ0 (fun h => h8 h.1)
    refine az_iconst (v := -1) dX7_way_22 (by decide) ?_
    refine az_iret dX7_way_23 rfl ?_
    exact hq
  · replace h8 := zb_n h8
    refine az_aloadn dX7_way_11 rfl ?_
    refine az_getr dX7_way_12 flX7_12 sh_0 rfl ?_
    refine az_iloadn dX7_way_15 rfl ?_
    refine az_inv1 (N := mX2_isPost) dX7_way_16 lkX7_80 okX2_isPost sh_1 rfl (Nat.le_of_ble_eq_true rfl) ?_
    refine s_X2_isPost ?_
    rw [hS.1]
    try dsimp only [az_ps]
    refine az_ifne (t := 24) dX7_way_19 (by decide) (fun h19 => ?_) (fun h19 => ?_)
    · replace h19 := zb_n h19
      have hQ1 := hQ1 ⟨h8, h19⟩
      obtain ⟨A, hA, rfl⟩ := zi_ex (by omega) h8
      obtain ⟨B, hB, rfl⟩ := zi_ex (by omega) h19
      rw [nI_clamp (by omega), nI_clamp (by omega)] at hQ1
      refine az_aloadn dX7_way_24 rfl ?_
      refine az_inv0 (N := mX7_freshSight) dX7_way_25 lkX7_131 okX7_freshSight sh_0 rfl (Nat.le_of_ble_eq_true rfl) ?_
      refine t_X7_fresh hS (fun m1 hF => ?_)
      try dsimp only [az_ps]
      refine az_getr dX7_way_28 flX7_135 sh_371 rfl ?_
      refine az_bipush (v := 16) dX7_way_31 (by decide) ?_
      refine az_iloadn dX7_way_33 rfl ?_
      refine az_imul dX7_way_34 ?_
      refine az_iloadn dX7_way_35 rfl ?_
      refine az_iadd dX7_way_36 ?_
      refine az_iald (16 * A + B) dX7_way_37 sh_373 (by omega) (by decide) (by simp only [az_lit, nI_add, pk_mul, Nat.add_assoc]) ?_
      refine az_iret dX7_way_38 rfl ?_
      exact hQ1 m1 hF
    · replace h19 := zb_z h19
      have hq := hQ0 (fun h => h19 h.2)
      refine az_iconst (v := -1) dX7_way_22 (by decide) ?_
      refine az_iret dX7_way_23 rfl ?_
      exact hq
theorem s_X7_answer {a b : Int32} (hS : zS mem N) (hQ0 : ¬ ((0 ≤ a ∧ a < nI N) ∧ (0 ≤ b ∧ b < nI N)) → Q (some (.inl (-1))) mem) (hQ1 : ((0 ≤ a ∧ a < nI N) ∧ (0 ≤ b ∧ b < nI N)) → ∀ m', zSf mem m' N → Q (some (.inl (m' 374 (16 * a.toNatClampNeg + b.toNatClampNeg)))) m') : az_Sp X (d + 4) mX7_answer [.inr 0, .inl a, .inl b] mem Q := by
  have hN := hS.2.1
  refine az_body (by decide +kernel) (Nat.le_of_ble_eq_true rfl) ?_
  show az_Ev X _ mX7_answer 0 [some (.inr 0), some (.inl a), some (.inl b)] [] mem Q
  refine az_aloadn dX7_answer_0 rfl ?_
  refine az_getr dX7_answer_1 flX7_12 sh_0 rfl ?_
  refine az_iloadn dX7_answer_4 rfl ?_
  refine az_inv1 (N := mX2_isPost) dX7_answer_5 lkX7_80 okX2_isPost sh_1 rfl (Nat.le_of_ble_eq_true rfl) ?_
  refine s_X2_isPost ?_
  rw [hS.1]
  try dsimp only [az_ps]
  refine az_ifeq (t := 22) dX7_answer_8 (by decide) (fun h8 => ?_) (fun h8 => ?_)
  · replace h8 := zb_z h8
    have hq := hQ0 (fun h => h8 h.1)
    refine az_iconst (v := -1) dX7_answer_22 (by decide) ?_
    refine az_iret dX7_answer_23 rfl ?_
    exact hq
  · replace h8 := zb_n h8
    refine az_aloadn dX7_answer_11 rfl ?_
    refine az_getr dX7_answer_12 flX7_12 sh_0 rfl ?_
    refine az_iloadn dX7_answer_15 rfl ?_
    refine az_inv1 (N := mX2_isPost) dX7_answer_16 lkX7_80 okX2_isPost sh_1 rfl (Nat.le_of_ble_eq_true rfl) ?_
    refine s_X2_isPost ?_
    rw [hS.1]
    try dsimp only [az_ps]
    refine az_ifne (t := 24) dX7_answer_19 (by decide) (fun h19 => ?_) (fun h19 => ?_)
    · replace h19 := zb_n h19
      have hQ1 := hQ1 ⟨h8, h19⟩
      obtain ⟨A, hA, rfl⟩ := zi_ex (by omega) h8
      obtain ⟨B, hB, rfl⟩ := zi_ex (by omega) h19
      rw [nI_clamp (by omega), nI_clamp (by omega)] at hQ1
      refine az_aloadn dX7_answer_24 rfl ?_
      refine az_inv0 (N := mX7_freshSight) dX7_answer_25 lkX7_131 okX7_freshSight sh_0 rfl (Nat.le_of_ble_eq_true rfl) ?_
      refine t_X7_fresh hS (fun m1 hF => ?_)
      try dsimp only [az_ps]
      refine az_getr dX7_answer_28 flX7_149 sh_371 rfl ?_
      refine az_bipush (v := 16) dX7_answer_31 (by decide) ?_
      refine az_iloadn dX7_answer_33 rfl ?_
      refine az_imul dX7_answer_34 ?_
      refine az_iloadn dX7_answer_35 rfl ?_
      refine az_iadd dX7_answer_36 ?_
      refine az_iald (16 * A + B) dX7_answer_37 sh_374 (by omega) (by decide) (by simp only [az_lit, nI_add, pk_mul, Nat.add_assoc]) ?_
      refine az_iret dX7_answer_38 rfl ?_
      exact hQ1 m1 hF
    · replace h19 := zb_z h19
      have hq := hQ0 (fun h => h19 h.2)
      refine az_iconst (v := -1) dX7_answer_22 (by decide) ?_
      refine az_iret dX7_answer_23 rfl ?_
      exact hq
theorem s_X7_wordsAgainst {p wd : Nat} (hS : zS mem N) (hw : mem 1 6 = nI wd) (hw2 : wd < 65536) (hp : p < 16) (hQ1 : ∀ m', zSf mem m' N → Q (some (.inl (zm_mask (zw_agc wd (mem 6) (m' 374) p) N))) m') : az_Sp X (d + 4) mX7_wordsAgainst [.inr 0, .inl (nI p)] mem Q := by
  have hN := hS.2.1
  refine az_body (by decide +kernel) (Nat.le_of_ble_eq_true rfl) ?_
  show az_Ev X _ mX7_wordsAgainst 0 [some (.inr 0), some (.inl (nI p)), none, none, none] [] mem Q
  refine az_aloadn dX7_wordsAgainst_0 rfl ?_
  refine az_inv0 (N := mX7_freshSight) dX7_wordsAgainst_1 lkX7_131 okX7_freshSight sh_0 rfl (Nat.le_of_ble_eq_true rfl) ?_
  refine t_X7_fresh hS (fun m1 hF => ?_)
  try dsimp only [az_ps]
  refine az_astoren dX7_wordsAgainst_4 (by decide) ?_
  dsimp only [List.set]
  refine az_iconst (v := 0) dX7_wordsAgainst_5 (by decide) ?_
  refine az_istoren dX7_wordsAgainst_6 (by decide) ?_
  dsimp only [List.set]
  refine az_iconst (v := 0) dX7_wordsAgainst_7 (by decide) ?_
  refine az_istore dX7_wordsAgainst_8 (by decide) ?_
  dsimp only [List.set]
  skip
  have hQ := hQ1 m1 hF
  have e1 : m1 1 = mem 1 := hF.1 1 (by decide) (by omega)
  have e6 : m1 6 = mem 6 := hF.1 6 (by decide) (by omega)
  have hn : m1 1 0 = nI N := by rw [e1]; exact hS.1
  refine az_up (fun i => az_Ev X (d + 4) mX7_wordsAgainst 10 [some (.inr 0), some (.inl (nI p)), some (.inr 371), some (.inl (zm_mask (zw_agc wd (mem 6) (m1 374) p) i)), some (.inl (nI i))] [] m1 Q) N 0 (by omega) (fun i _ hi ih => ?_) ?_
  · refine az_iload dX7_wordsAgainst_10 rfl ?_
    refine az_aloadn dX7_wordsAgainst_12 rfl ?_
    refine az_getr dX7_wordsAgainst_13 flX7_12 sh_0 rfl ?_
    refine az_geti dX7_wordsAgainst_16 flX7_66 sh_1 rfl ?_
    rw [hn]
    refine az_icmpge (t := 72) dX7_wordsAgainst_19 (by decide) (fun h19 => ?_) (fun h19 => ?_)
    · exact absurd h19 (nI_ge (by omega) (by omega))
    refine az_aloadn dX7_wordsAgainst_22 rfl ?_
    refine az_getr dX7_wordsAgainst_23 flX7_12 sh_0 rfl ?_
    refine az_iload dX7_wordsAgainst_26 rfl ?_
    refine az_inv1 (N := mX2_hasWord) dX7_wordsAgainst_28 lkX7_198 okX2_hasWord sh_1 rfl (Nat.le_of_ble_eq_true rfl) ?_
    refine s_X2_hasWord ?_
    rw [e1, hw]
    try dsimp only [az_ps]
    refine az_ifeq (t := 66) dX7_wordsAgainst_31 (by decide) (fun h31 => ?_) (fun h31 => ?_)
    · replace h31 := zb_z h31
      rw [zb_bit1 (by omega) (by omega)] at h31
      rw [zm_mask_f0 (by simp [zw_agc, h31])] at ih
      refine az_iinc (w := 1) dX7_wordsAgainst_66 rfl (by decide) (by decide) ?_
      dsimp only [List.set]
      refine az_goto (t := 10) dX7_wordsAgainst_69 (by decide) ?_
      rw [nI_1]; exact ih
    · replace h31 := zb_n h31
      rw [zb_bit1 (by omega) (by omega)] at h31
      refine az_aloadn dX7_wordsAgainst_34 rfl ?_
      refine az_getr dX7_wordsAgainst_35 flX7_12 sh_0 rfl ?_
      refine az_getr dX7_wordsAgainst_38 flX7_204 sh_1 rfl ?_
      refine az_iload dX7_wordsAgainst_41 rfl ?_
      refine az_iald (i) dX7_wordsAgainst_43 sh_6 (by omega) (by decide) (by simp only [az_lit, nI_add, pk_mul, Nat.add_assoc]) ?_
      refine az_aloadn dX7_wordsAgainst_44 rfl ?_
      refine az_getr dX7_wordsAgainst_45 flX7_149 sh_371 rfl ?_
      refine az_bipush (v := 16) dX7_wordsAgainst_48 (by decide) ?_
      refine az_iload dX7_wordsAgainst_50 rfl ?_
      refine az_imul dX7_wordsAgainst_52 ?_
      refine az_iloadn dX7_wordsAgainst_53 rfl ?_
      refine az_iadd dX7_wordsAgainst_54 ?_
      refine az_iald (16 * i + p) dX7_wordsAgainst_55 sh_374 (by omega) (by decide) (by simp only [az_lit, nI_add, pk_mul, Nat.add_assoc]) ?_
      refine az_pc 56 (by decide) ?_
      refine az_icmpeq (t := 66) dX7_wordsAgainst_56 (by decide) (fun h56 => ?_) (fun h56 => ?_)
      · rw [e6] at h56; rw [zm_mask_f0 (by simp [zw_agc, h56])] at ih
        refine az_iinc (w := 1) dX7_wordsAgainst_66 rfl (by decide) (by decide) ?_
        dsimp only [List.set]
        refine az_goto (t := 10) dX7_wordsAgainst_69 (by decide) ?_
        rw [nI_1]; exact ih
      · rw [e6] at h56; rw [zm_mask_t (by simp [zw_agc, h31, h56])] at ih
        refine az_iloadn dX7_wordsAgainst_59 rfl ?_
        refine az_iconst (v := 1) dX7_wordsAgainst_60 (by decide) ?_
        refine az_iload dX7_wordsAgainst_61 rfl ?_
        refine az_ishl dX7_wordsAgainst_63 ?_
        refine az_ior dX7_wordsAgainst_64 ?_
        refine az_istoren dX7_wordsAgainst_65 (by decide) ?_
        dsimp only [List.set]
        refine az_iinc (w := 1) dX7_wordsAgainst_66 rfl (by decide) (by decide) ?_
        dsimp only [List.set]
        refine az_goto (t := 10) dX7_wordsAgainst_69 (by decide) ?_
        rw [nI_1]; exact ih
  · refine az_iload dX7_wordsAgainst_10 rfl ?_
    refine az_aloadn dX7_wordsAgainst_12 rfl ?_
    refine az_getr dX7_wordsAgainst_13 flX7_12 sh_0 rfl ?_
    refine az_geti dX7_wordsAgainst_16 flX7_66 sh_1 rfl ?_
    rw [hn]
    refine az_icmpge (t := 72) dX7_wordsAgainst_19 (by decide) (fun h19 => ?_) (fun h19 => ?_)
    rotate_left 1
    · exact absurd (Int32.le_refl _) h19
    refine az_iloadn dX7_wordsAgainst_72 rfl ?_
    refine az_iret dX7_wordsAgainst_73 rfl ?_
    exact hQ
theorem s_X7_fitsWords {p wd : Nat} (hS : zS mem N) (hw : mem 1 6 = nI wd) (hw2 : wd < 65536) (hp : p < 16) (hQ1 : ∀ m', zSf mem m' N → Q (some (.inl (if zw_fitc wd (mem 6) (m' 374) (mem 1 4) (mem 1 3) N p = true then 1 else 0))) m') : az_Sp X (d + 5) mX7_fitsWords [.inr 0, .inl (nI p)] mem Q := by
  have hN := hS.2.1
  have main : ∀ al, al = (if mem 1 4 = 0 then 0 else mem 1 3) → az_Ev X (d + 5) mX7_fitsWords 21 [some (.inr 0), some (.inl (nI p)), none] [.inl al] mem Q := by
    intro al hal
    refine az_istoren dX7_fitsWords_21 (by decide) ?_
    dsimp only [List.set]
    refine az_aloadn dX7_fitsWords_22 rfl ?_
    refine az_iloadn dX7_fitsWords_23 rfl ?_
    refine az_inv1 (N := mX7_wordsAgainst) dX7_fitsWords_24 lkX7_210 okX7_wordsAgainst sh_0 rfl (Nat.le_of_ble_eq_true rfl) ?_
    refine s_X7_wordsAgainst hS hw hw2 hp (fun m1 hF => ?_)
    have hQ := hQ1 m1 hF
    try dsimp only [az_ps]
    refine az_ins1 (N := mJ6_bitCount_0f7a4) dX7_fitsWords_27 lsX7_141 okJ6_bitCount_0f7a4 (Nat.le_of_ble_eq_true rfl) ?_
    refine t_bitCount (zm_mask_ex _ hN) ?_
    try dsimp only [az_ps]
    refine az_iloadn dX7_fitsWords_30 rfl ?_
    refine az_icmpgt (t := 38) dX7_fitsWords_31 (by decide) (fun h31 => ?_) (fun h31 => ?_)
    · rw [if_neg (by simp only [zw_fitc, decide_eq_true_eq]; rw [← hal]; exact Int32.not_le.mpr h31)] at hQ
      refine az_iconst (v := 0) dX7_fitsWords_38 (by decide) ?_
      refine az_zret dX7_fitsWords_39 rfl (by first | exact Or.inl rfl | exact Or.inr rfl | assumption) ?_
      exact hQ
    · rw [if_pos (by simp only [zw_fitc, decide_eq_true_eq]; rw [← hal]; exact Int32.not_lt.mp h31)] at hQ
      refine az_iconst (v := 1) dX7_fitsWords_34 (by decide) ?_
      refine az_goto (t := 39) dX7_fitsWords_35 (by decide) ?_
      refine az_zret dX7_fitsWords_39 rfl (by first | exact Or.inl rfl | exact Or.inr rfl | assumption) ?_
      exact hQ
  refine az_body (by decide +kernel) (Nat.le_of_ble_eq_true rfl) ?_
  show az_Ev X _ mX7_fitsWords 0 [some (.inr 0), some (.inl (nI p)), none] [] mem Q
  refine az_aloadn dX7_fitsWords_0 rfl ?_
  refine az_getr dX7_fitsWords_1 flX7_12 sh_0 rfl ?_
  refine az_geti dX7_fitsWords_4 flX7_121 sh_1 rfl ?_
  refine az_ifeq (t := 20) dX7_fitsWords_7 (by decide) (fun h7 => ?_) (fun h7 => ?_)
  · refine az_iconst (v := 0) dX7_fitsWords_20 (by decide) ?_
    first | exact main _ (by rw [if_pos h7]) | exact main _ (by rw [if_neg h7])
  · refine az_aloadn dX7_fitsWords_10 rfl ?_
    refine az_getr dX7_fitsWords_11 flX7_12 sh_0 rfl ?_
    refine az_geti dX7_fitsWords_14 flX7_118 sh_1 rfl ?_
    refine az_goto (t := 21) dX7_fitsWords_17 (by decide) ?_
    first | exact main _ (by rw [if_pos h7]) | exact main _ (by rw [if_neg h7])
theorem s_X7_fits {wd : Nat} (hS : zS mem N) (h1N : 1 ≤ N) (hw : mem 1 6 = nI wd) (hw2 : wd < 65536) (hQ1 : ∀ m', zSf mem m' N → Q (some (.inl (zm_sum (fun p => if zw_fitc wd (mem 6) (m' 374) (mem 1 4) (mem 1 3) N p then 1 else 0) N))) m') : az_Sp X (d + 6) mX7_fits [.inr 0] mem Q := by
  have hN := hS.2.1
  refine az_body (by decide +kernel) (Nat.le_of_ble_eq_true rfl) ?_
  show az_Ev X _ mX7_fits 0 [some (.inr 0), none, none] [] mem Q
  refine az_iconst (v := 0) dX7_fits_0 (by decide) ?_
  refine az_istoren dX7_fits_1 (by decide) ?_
  dsimp only [List.set]
  refine az_iconst (v := 0) dX7_fits_2 (by decide) ?_
  refine az_istoren dX7_fits_3 (by decide) ?_
  dsimp only [List.set]
  skip
  refine az_up (fun i => ∀ m', ((i = 0 ∧ m' = mem) ∨ zSf mem m' N) → az_Ev X (d + 6) mX7_fits 4 [some (.inr 0), some (.inl (zm_sum (fun p => if zw_fitc wd (mem 6) (m' 374) (mem 1 4) (mem 1 3) N p then 1 else 0) i)), some (.inl (nI i))] [] m' Q) N 0 (by omega) (fun i _ hi ih m' hm => ?_) (fun m' hm => ?_) mem (Or.inl ⟨rfl, rfl⟩)
  · have hS' : zS m' N := by rcases hm with ⟨-, rfl⟩ | h; exact hS; exact zSf_S hS h
    have e1 : m' 1 = mem 1 := by rcases hm with ⟨-, rfl⟩ | h; rfl; exact h.1 1 (by decide) (by omega)
    have e6 : m' 6 = mem 6 := by rcases hm with ⟨-, rfl⟩ | h; rfl; exact h.1 6 (by decide) (by omega)
    refine az_iloadn dX7_fits_4 rfl ?_
    refine az_aloadn dX7_fits_5 rfl ?_
    refine az_getr dX7_fits_6 flX7_12 sh_0 rfl ?_
    refine az_geti dX7_fits_9 flX7_66 sh_1 rfl ?_
    rw [hS'.1]
    refine az_icmpge (t := 32) dX7_fits_12 (by decide) (fun h12 => ?_) (fun h12 => ?_)
    · exact absurd h12 (nI_ge (by omega) (by omega))
    refine az_aloadn dX7_fits_15 rfl ?_
    refine az_iloadn dX7_fits_16 rfl ?_
    refine az_inv1 (N := mX7_fitsWords) dX7_fits_17 lkX7_207 okX7_fitsWords sh_0 rfl (Nat.le_of_ble_eq_true rfl) ?_
    refine s_X7_fitsWords hS' (by rw [e1]; exact hw) hw2 (by omega) (fun m1 hF => ?_)
    rw [e1, e6]
    have hF2 : zSf mem m1 N := by rcases hm with ⟨-, rfl⟩ | h; exact hF; exact zSf_trans h hF
    have ih := ih m1 (Or.inr hF2)
    rw [zm_sum] at ih
    have ea : zm_sum (fun p => if zw_fitc wd (mem 6) (m' 374) (mem 1 4) (mem 1 3) N p then 1 else 0) i = zm_sum (fun p => if zw_fitc wd (mem 6) (m1 374) (mem 1 4) (mem 1 3) N p then 1 else 0) i := by
      rcases hm with ⟨h0, -⟩ | h
      · subst h0; rw [zm_sum, zm_sum]
      · rw [hF.2.2.2 (by rw [h.2.1, if_pos rfl])]
    rw [ea]
    try dsimp only [az_ps]
    refine az_ifeq (t := 26) dX7_fits_20 (by decide) (fun h20 => ?_) (fun h20 => ?_)
    · replace h20 := zb_z h20
      rw [if_neg h20, show ∀ x : Int32, x + 0 = x from Int32.add_zero] at ih
      refine az_iinc (w := 1) dX7_fits_26 rfl (by decide) (by decide) ?_
      dsimp only [List.set]
      refine az_goto (t := 4) dX7_fits_29 (by decide) ?_
      rw [nI_1]; exact ih
    · replace h20 := zb_n h20
      rw [if_pos h20] at ih
      refine az_iinc (w := 1) dX7_fits_23 rfl (by decide) (by decide) ?_
      dsimp only [List.set]
      refine az_iinc (w := 1) dX7_fits_26 rfl (by decide) (by decide) ?_
      dsimp only [List.set]
      refine az_goto (t := 4) dX7_fits_29 (by decide) ?_
      rw [nI_1]; exact ih
  · have hF : zSf mem m' N := by rcases hm with ⟨h0, -⟩ | h; omega; exact h
    have hS' := zSf_S hS hF
    have hQ := hQ1 m' hF
    refine az_iloadn dX7_fits_4 rfl ?_
    refine az_aloadn dX7_fits_5 rfl ?_
    refine az_getr dX7_fits_6 flX7_12 sh_0 rfl ?_
    refine az_geti dX7_fits_9 flX7_66 sh_1 rfl ?_
    rw [hS'.1]
    refine az_icmpge (t := 32) dX7_fits_12 (by decide) (fun h12 => ?_) (fun h12 => ?_)
    rotate_left 1
    · exact absurd (Int32.le_refl _) h12
    refine az_iloadn dX7_fits_32 rfl ?_
    refine az_iret dX7_fits_33 rfl ?_
    exact hQ
theorem s_X7_where {wd : Nat} {k : Int32} (hS : zS mem N) (h1N : 1 ≤ N) (hw : mem 1 6 = nI wd) (hw2 : wd < 65536) (hQ1 : ∀ m', zSf mem m' N → Q (some (.inl (zr_k (zk_in (zw_fitc wd (mem 6) (m' 374) (mem 1 4) (mem 1 3) N) k N 0 0)))) m') : az_Sp X (d + 6) mX7_where [.inr 0, .inl k] mem Q := by
  have hN := hS.2.1
  refine az_body (by decide +kernel) (Nat.le_of_ble_eq_true rfl) ?_
  show az_Ev X _ mX7_where 0 [some (.inr 0), some (.inl k), none, none] [] mem Q
  refine az_iconst (v := 0) dX7_where_0 (by decide) ?_
  refine az_istoren dX7_where_1 (by decide) ?_
  dsimp only [List.set]
  refine az_iconst (v := 0) dX7_where_2 (by decide) ?_
  refine az_istoren dX7_where_3 (by decide) ?_
  dsimp only [List.set]
  skip
  refine az_up (fun j => ∀ m' c, ((j = 0 ∧ m' = mem ∧ c = 0) ∨ (zSf mem m' N ∧ zk_in (zw_fitc wd (mem 6) (m' 374) (mem 1 4) (mem 1 3) N) k (N - j) j c = zk_in (zw_fitc wd (mem 6) (m' 374) (mem 1 4) (mem 1 3) N) k N 0 0)) → az_Ev X (d + 6) mX7_where 4 [some (.inr 0), some (.inl k), some (.inl c), some (.inl (nI j))] [] m' Q) N 0 (by omega) (fun j hj1 hj ih2 m' c hm => ?_) (fun m' c hm => ?_) mem 0 (Or.inl ⟨rfl, rfl, rfl⟩)
  · have hS' : zS m' N := by rcases hm with ⟨-, rfl, -⟩ | h; exact hS; exact zSf_S hS h.1
    have e1 : m' 1 = mem 1 := by rcases hm with ⟨-, rfl, -⟩ | h; rfl; exact h.1.1 1 (by decide) (by omega)
    have e6 : m' 6 = mem 6 := by rcases hm with ⟨-, rfl, -⟩ | h; rfl; exact h.1.1 6 (by decide) (by omega)
    refine az_iloadn dX7_where_4 rfl ?_
    refine az_aloadn dX7_where_5 rfl ?_
    refine az_getr dX7_where_6 flX7_12 sh_0 rfl ?_
    refine az_geti dX7_where_9 flX7_66 sh_1 rfl ?_
    rw [hS'.1]
    refine az_icmpge (t := 39) dX7_where_12 (by decide) (fun h12 => ?_) (fun h12 => ?_)
    · exact absurd h12 (nI_ge (by omega) (by omega))
    refine az_aloadn dX7_where_15 rfl ?_
    refine az_iloadn dX7_where_16 rfl ?_
    refine az_inv1 (N := mX7_fitsWords) dX7_where_17 lkX7_207 okX7_fitsWords sh_0 rfl (Nat.le_of_ble_eq_true rfl) ?_
    refine s_X7_fitsWords hS' (by rw [e1]; exact hw) hw2 (by omega) (fun m1 hF => ?_)
    rw [e1, e6]
    have hF2 : zSf mem m1 N := by rcases hm with ⟨-, rfl, -⟩ | h; exact hF; exact zSf_trans h.1 hF
    have hQ := hQ1 m1 hF2
    have he2 : zk_in (zw_fitc wd (mem 6) (m1 374) (mem 1 4) (mem 1 3) N) k (N - j) j c = zk_in (zw_fitc wd (mem 6) (m1 374) (mem 1 4) (mem 1 3) N) k N 0 0 := by
      rcases hm with ⟨h0, -, hc⟩ | h
      · subst h0; subst hc; rfl
      · rw [hF.2.2.2 (by rw [h.1.2.1, if_pos rfl])]; exact h.2
    rw [zs_sub hj] at he2
    try dsimp only [az_ps]
    refine az_ifeq (t := 33) dX7_where_20 (by decide) (fun h20 => ?_) (fun h20 => ?_)
    · replace h20 := zb_z h20
      rw [zk_in_f (by simpa using h20)] at he2
      refine az_iinc (w := 1) dX7_where_33 rfl (by decide) (by decide) ?_
      dsimp only [List.set]
      refine az_goto (t := 4) dX7_where_36 (by decide) ?_
      rw [nI_1]; exact ih2 m1 _ (Or.inr ⟨hF2, he2⟩)
    · replace h20 := zb_n h20
      refine az_iloadn dX7_where_23 rfl ?_
      refine az_iloadn dX7_where_24 rfl ?_
      refine az_icmpne (t := 30) dX7_where_25 (by decide) (fun h25 => ?_) (fun h25 => ?_)
      · rw [zk_in_tf (by simpa using h20) h25] at he2
        refine az_iinc (w := 1) dX7_where_30 rfl (by decide) (by decide) ?_
        dsimp only [List.set]
        refine az_iinc (w := 1) dX7_where_33 rfl (by decide) (by decide) ?_
        dsimp only [List.set]
        refine az_goto (t := 4) dX7_where_36 (by decide) ?_
        rw [nI_1]; exact ih2 m1 _ (Or.inr ⟨hF2, he2⟩)
      · rw [zk_in_tt (by simpa using h20) h25] at he2
        rw [← he2] at hQ
        refine az_iloadn dX7_where_28 rfl ?_
        refine az_iret dX7_where_29 rfl ?_
        exact hQ
  · have hF : zSf mem m' N ∧ zk_in (zw_fitc wd (mem 6) (m' 374) (mem 1 4) (mem 1 3) N) k (N - N) N c = zk_in (zw_fitc wd (mem 6) (m' 374) (mem 1 4) (mem 1 3) N) k N 0 0 := by rcases hm with ⟨h0, -⟩ | h; omega; exact h
    have hS' := zSf_S hS hF.1
    have hQ := hQ1 m' hF.1
    rw [← hF.2, Nat.sub_self] at hQ
    refine az_iloadn dX7_where_4 rfl ?_
    refine az_aloadn dX7_where_5 rfl ?_
    refine az_getr dX7_where_6 flX7_12 sh_0 rfl ?_
    refine az_geti dX7_where_9 flX7_66 sh_1 rfl ?_
    rw [hS'.1]
    refine az_icmpge (t := 39) dX7_where_12 (by decide) (fun h12 => ?_) (fun h12 => ?_)
    rotate_left 1
    · exact absurd (Int32.le_refl _) h12
    refine az_iconst (v := -1) dX7_where_39 (by decide) ?_
    refine az_iret dX7_where_40 rfl ?_
    exact hQ
theorem s_X7_against {a : Int32} {wd : Nat} (hS : zS mem N) (hw : mem 1 6 = nI wd) (hw2 : wd < 65536) (hQ0 : ¬ (0 ≤ a ∧ a < nI N) → Q (some (.inl (-1))) mem) (hQ1 : (0 ≤ a ∧ a < nI N) → ∀ m', zSf mem m' N → Q (some (.inl (zm_mask (zw_agc wd (mem 6) (m' 374) a.toNatClampNeg) N))) m') : az_Sp X (d + 5) mX7_against [.inr 0, .inl a] mem Q := by
  have hN := hS.2.1
  refine az_body (by decide +kernel) (Nat.le_of_ble_eq_true rfl) ?_
  show az_Ev X _ mX7_against 0 [some (.inr 0), some (.inl a)] [] mem Q
  refine az_aloadn dX7_against_0 rfl ?_
  refine az_getr dX7_against_1 flX7_12 sh_0 rfl ?_
  refine az_iloadn dX7_against_4 rfl ?_
  refine az_inv1 (N := mX2_isPost) dX7_against_5 lkX7_80 okX2_isPost sh_1 rfl (Nat.le_of_ble_eq_true rfl) ?_
  refine s_X2_isPost ?_
  rw [hS.1]
  try dsimp only [az_ps]
  refine az_ifeq (t := 19) dX7_against_8 (by decide) (fun h8 => ?_) (fun h8 => ?_)
  · replace h8 := zb_z h8
    have hq := hQ0 h8
    refine az_iconst (v := -1) dX7_against_19 (by decide) ?_
    refine az_iret dX7_against_20 rfl ?_
    exact hq
  · replace h8 := zb_n h8
    have hQ1 := hQ1 h8
    obtain ⟨A, hA, rfl⟩ := zi_ex (by omega) h8
    rw [nI_clamp (by omega)] at hQ1
    refine az_aloadn dX7_against_11 rfl ?_
    refine az_iloadn dX7_against_12 rfl ?_
    refine az_inv1 (N := mX7_wordsAgainst) dX7_against_13 lkX7_210 okX7_wordsAgainst sh_0 rfl (Nat.le_of_ble_eq_true rfl) ?_
    refine s_X7_wordsAgainst hS hw hw2 (by omega) (fun m1 hF => ?_)
    have hq := hQ1 m1 hF
    try dsimp only [az_ps]
    refine az_goto (t := 20) dX7_against_16 (by decide) ?_
    refine az_iret dX7_against_20 rfl ?_
    exact hq
theorem s_X7_twins {k : Int32} (hS : zS mem N) (hQ1 : ∀ m', zSf mem m' N → Q (some (.inl (zr_pr (zk_pr (zt_tc (m' 375)) k N N 0 0)))) m') : az_Sp X (d + 4) mX7_twins [.inr 0, .inl k] mem Q := by
  refine az_body (by decide +kernel) (Nat.le_of_ble_eq_true rfl) ?_
  show az_Ev X _ mX7_twins 0 [some (.inr 0), some (.inl k)] [] mem Q
  refine az_aloadn dX7_twins_0 rfl ?_
  refine az_inv0 (N := mX7_freshSight) dX7_twins_1 lkX7_131 okX7_freshSight sh_0 rfl (Nat.le_of_ble_eq_true rfl) ?_
  refine t_X7_fresh hS (fun m1 hF => ?_)
  try dsimp only [az_ps]
  refine az_iloadn dX7_twins_4 rfl ?_
  refine az_inv1 (N := mX5_twinPair) dX7_twins_5 lkX7_173 okX5_twinPair sh_371 rfl (Nat.le_of_ble_eq_true rfl) ?_
  refine s_X5_twinPair hF.2.2.1.1 hS.2.1 ?_
  try dsimp only [az_ps]
  refine az_iret dX7_twins_8 rfl ?_
  exact hQ1 m1 hF
theorem s_X7_shown (hS : zS mem N) (hQ1 : ∀ m', zSf mem m' N → Q (some (.inl (nI (zp_pr (m' 375) N N 0 (0, [])).2.length))) m') : az_Sp X (d + 4) mX7_shown [.inr 0] mem Q := by
  refine az_body (by decide +kernel) (Nat.le_of_ble_eq_true rfl) ?_
  show az_Ev X _ mX7_shown 0 [some (.inr 0)] [] mem Q
  refine az_aloadn dX7_shown_0 rfl ?_
  refine az_inv0 (N := mX7_freshSight) dX7_shown_1 lkX7_131 okX7_freshSight sh_0 rfl (Nat.le_of_ble_eq_true rfl) ?_
  refine t_X7_fresh hS (fun m1 hF => ?_)
  try dsimp only [az_ps]
  refine az_inv0 (N := mX5_countApartPairs) dX7_shown_4 lkX7_186 okX5_countApartPairs sh_371 rfl (Nat.le_of_ble_eq_true rfl) ?_
  refine s_X5_countApartPairs hF.2.2.1.1 hS.2.1 ?_
  try dsimp only [az_ps]
  refine az_iret dX7_shown_7 rfl ?_
  exact hQ1 m1 hF
theorem s_X7_pair {k : Int32} (hS : zS mem N) (hQ1 : ∀ m', zSf mem m' N → Q (some (.inl (if 0 ≤ k ∧ k < nI (zp_pr (m' 375) N N 0 (0, [])).2.length then nI ((zp_pr (m' 375) N N 0 (0, [])).2.getD k.toNatClampNeg 0) else -1))) m') : az_Sp X (d + 4) mX7_pair [.inr 0, .inl k] mem Q := by
  refine az_body (by decide +kernel) (Nat.le_of_ble_eq_true rfl) ?_
  show az_Ev X _ mX7_pair 0 [some (.inr 0), some (.inl k)] [] mem Q
  refine az_aloadn dX7_pair_0 rfl ?_
  refine az_inv0 (N := mX7_freshSight) dX7_pair_1 lkX7_131 okX7_freshSight sh_0 rfl (Nat.le_of_ble_eq_true rfl) ?_
  refine t_X7_fresh hS (fun m1 hF => ?_)
  try dsimp only [az_ps]
  refine az_iloadn dX7_pair_4 rfl ?_
  refine az_inv1 (N := mX5_apartPair) dX7_pair_5 lkX7_189 okX5_apartPair sh_371 rfl (Nat.le_of_ble_eq_true rfl) ?_
  refine s_X5_apartPair hF.2.2.1.1 hS.2.1 ?_
  try dsimp only [az_ps]
  refine az_iret dX7_pair_8 rfl ?_
  exact hQ1 m1 hF
theorem s_X7_set (hQ : Q (some (.inl (mem 0 8))) mem) : az_Sp X d mX7_set [.inr 0] mem Q := by
  refine az_body (by decide +kernel) (Nat.le_of_ble_eq_true rfl) ?_
  show az_Ev X _ mX7_set 0 [some (.inr 0)] [] mem Q
  refine az_aloadn dX7_set_0 rfl ?_
  refine az_geti dX7_set_1 flX7_62 sh_0 rfl ?_
  refine az_iret dX7_set_4 rfl ?_
  exact hQ
end CH

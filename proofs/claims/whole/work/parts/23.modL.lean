/-! the model's trees -/
def zn_diff (a b : Nat) : Nat := zn_mask (fun i => a.testBit i && !b.testBit i) 31
theorem zn_diff_bit {a b : Nat} (ha : a < 2 ^ 31) (i : Nat) : (zn_diff a b).testBit i = (a.testBit i && !b.testBit i) := by
  unfold zn_diff
  rw [zn_bit]
  by_cases hi : i < 31
  · simp [hi]
  · rw [zn_high ha (by omega)]; simp
theorem zn_diff_lt {a b n : Nat} (ha : a < 2 ^ n) (hn : n ≤ 31) : zn_diff a b < 2 ^ n := by
  have h31 : a < 2 ^ 31 := Nat.lt_of_lt_of_le ha (Nat.pow_le_pow_right (by decide) hn)
  apply Nat.lt_pow_two_of_testBit
  intro i hi
  rw [zn_diff_bit h31, zn_high ha hi]; rfl
theorem zb_diff {a b : Nat} (ha : a < 2 ^ 31) (hb : b < 2 ^ 31) : nI a &&& (nI b ^^^ (-1)) = nI (zn_diff a b) := by
  have hd : zn_diff a b < 2 ^ 31 := zn_lt _ 31
  apply Int32.toBitVec_inj.mp
  apply BitVec.eq_of_getLsbD_eq
  intro i hi
  have h1 : (nI a &&& (nI b ^^^ (-1))).toBitVec = (nI a).toBitVec &&& ((nI b).toBitVec ^^^ (-1 : Int32).toBitVec) := rfl
  have h2 : (-1 : Int32).toBitVec = BitVec.allOnes 32 := by decide
  have h3 : ∀ n, (nI n).toBitVec = BitVec.ofNat 32 n := fun n => rfl
  rw [h1, h2, h3, h3, h3, BitVec.getLsbD_and, BitVec.getLsbD_xor, BitVec.getLsbD_allOnes, BitVec.getLsbD_ofNat, BitVec.getLsbD_ofNat, BitVec.getLsbD_ofNat, zn_diff_bit ha]
  simp [hi]
def zl_lo (k : Nat) : Nat := (zf_in (fun i => k.testBit i) 16 0).getD 0
theorem zl_lo_spec {k : Nat} (hk : k < 65536) (h0 : k ≠ 0) : zf_in (fun i => k.testBit i) 16 0 = some (zl_lo k) ∧ zl_lo k < 16 ∧ k.testBit (zl_lo k) = true ∧ ∀ j, j < zl_lo k → k.testBit j = false := by
  have h := zf_in_spec (f := fun i => k.testBit i) 16 0
  unfold zl_lo
  cases hz : zf_in (fun i => k.testBit i) 16 0 with
  | none =>
    rw [hz] at h
    exact absurd (zn_zero (n := 16) hk (fun i hi => h i (by omega) (by omega))) h0
  | some i =>
    rw [hz] at h
    exact ⟨rfl, by simpa using h.2.1, h.2.2.1, fun j hj => h.2.2.2 j (by omega) hj⟩
theorem zn_pc_pos {k : Nat} (h : 0 < zn_pc k) : k ≠ 0 := by
  intro h0
  subst h0
  obtain ⟨i, -, hi⟩ := fb_ct_pos.mp h
  rw [Nat.zero_testBit] at hi; cases hi
/-- one bit -/
theorem zn_pc_1 {k : Nat} (hk : k < 65536) (h : zn_pc k = 1) {i : Nat} (hi : k.testBit i = true) : i = zl_lo k := by
  have h0 := zl_lo_spec hk (zn_pc_pos (by omega))
  rcases Nat.lt_or_ge i 16 with q | q
  · by_cases he : i = zl_lo k
    · exact he
    · exfalso
      have h1 := fb_ct_upd (fun j => k.testBit j) false q
      have h2 : 0 < fb_ct (fun j => if j = i then false else k.testBit j) 16 := fb_ct_pos.mpr ⟨zl_lo k, h0.2.1, by rw [if_neg (fun z => he z.symm)]; exact h0.2.2.1⟩
      have h3 : fb_ct (fun j => k.testBit j) 16 = 1 := h
      rw [if_pos hi, if_neg (by decide)] at h1
      omega
  · rw [zn_high (n := 16) hk q] at hi; cases hi
/-- two bits -/
theorem zn_pc_2 {k f : Nat} (hk : k < 65536) (h : zn_pc k = 2) (hf : k.testBit f = true) : zn_pc (zn_diff k (2 ^ f)) = 1 ∧ (∀ i, k.testBit i = true → i = f ∨ i = zl_lo (zn_diff k (2 ^ f))) ∧ k.testBit (zl_lo (zn_diff k (2 ^ f))) = true ∧ zl_lo (zn_diff k (2 ^ f)) ≠ f := by
  have hf16 : f < 16 := by
    rcases Nat.lt_or_ge f 16 with q | q
    · exact q
    · rw [zn_high (n := 16) hk q] at hf; cases hf
  have hd := zn_diff_lt (b := 2 ^ f) (n := 16) hk (by decide)
  have hb : ∀ i, (zn_diff k (2 ^ f)).testBit i = (k.testBit i && !decide (f = i)) := fun i => by rw [zn_diff_bit (by omega), Nat.testBit_two_pow]
  have h1 : zn_pc (zn_diff k (2 ^ f)) = 1 := by
    have := fb_ct_upd (fun j => k.testBit j) false hf16
    have e : (fun j => if j = f then false else k.testBit j) = fun j => (zn_diff k (2 ^ f)).testBit j := by
      funext j
      rw [hb]
      by_cases hj : j = f
      · subst hj; simp
      · have : ¬ f = j := fun z => hj z.symm
        simp [hj, this]
    rw [e] at this
    have h3 : fb_ct (fun j => k.testBit j) 16 = 2 := h
    simp only [hf, if_true] at this
    simp at this
    unfold zn_pc
    omega
  have hlo := zl_lo_spec hd (zn_pc_pos (by omega))
  have h2 := hlo.2.2.1
  rw [hb] at h2
  simp only [Bool.and_eq_true, Bool.not_eq_true', decide_eq_false_iff_not] at h2
  refine ⟨h1, fun i hi => ?_, h2.1, fun z => h2.2 z.symm⟩
  by_cases hif : i = f
  · exact Or.inl hif
  · right
    refine zn_pc_1 hd h1 ?_
    rw [hb, hi]
    have : ¬ f = i := fun z => hif z.symm
    simp [this]
def zl_to (len : Nat → Int32) (N at' fr : Nat) : Nat := zl_lo (zn_diff (zn_bs len N at') (2 ^ fr))
def zl_go (len : Nat → Int32) (N : Nat) : Nat → Nat → Nat → Nat
  | 0, _, a => a
  | f + 1, fr, a => if zn_pc (zn_bs len N a) = 2 then zl_go len N f a (zl_to len N a fr) else a
def zl_end (len : Nat → Int32) (N q : Nat) : Nat := zl_go len N N q (zl_lo (zn_bs len N q))
/-- the net of lengths is one: roads go both ways, none leads from a post to itself -/
def zl_G (len : Nat → Int32) (N : Nat) : Prop := (∀ a b, a < N → b < N → zm_bf len a b = zm_bf len b a) ∧ ∀ a, a < N → zm_bf len a a = false
theorem zn_bs_bit {len : Nat → Int32} {N p q : Nat} : (zn_bs len N p).testBit q = (decide (q < N) && zm_bf len p q) := zn_bit _ q N
def zl_I (len : Nat → Int32) (N : Nat) (V : Nat → Bool) (fr a : Nat) : Prop := fr < N ∧ a < N ∧ V fr = true ∧ V a = false ∧ (zn_bs len N a).testBit fr = true ∧ (∀ u w, V u = true → u < N → (zn_bs len N u).testBit w = true → V w = true ∨ w = a) ∧ (∀ u, V u = true → u < N → (zn_bs len N u).testBit a = true → u = fr)
theorem zl_sym {len : Nat → Int32} {N a b : Nat} (h : zl_G len N) (ha : a < N) (hb : (zn_bs len N a).testBit b = true) : b < N ∧ (zn_bs len N b).testBit a = true ∧ b ≠ a := by
  rw [zn_bs_bit] at hb
  simp only [Bool.and_eq_true, decide_eq_true_eq] at hb
  refine ⟨hb.1, ?_, fun e => ?_⟩
  · rw [zn_bs_bit, ← h.1 a b ha hb.1, hb.2]; simp [ha]
  · subst e; rw [h.2 b ha] at hb; exact absurd hb.2 (by decide)
theorem zl_start {len : Nat → Int32} {N q : Nat} (hN : N ≤ 16) (h : zl_G len N) (hq : q < N) (h1 : zn_pc (zn_bs len N q) = 1) : zl_I len N (fun u => decide (u = q)) q (zl_lo (zn_bs len N q)) := by
  have hlt : zn_bs len N q < 65536 := Nat.lt_of_lt_of_le zn_bs_lt (zi_pow hN)
  have hlo := zl_lo_spec hlt (zn_pc_pos (by omega))
  obtain ⟨s1, s2, s3⟩ := zl_sym h hq hlo.2.2.1
  refine ⟨hq, s1, by simp, by simpa using s3, s2, fun u w hu _ hw => ?_, fun u hu _ _ => by simpa using hu⟩
  have hu : u = q := by simpa using hu
  subst hu
  exact Or.inr (zn_pc_1 hlt h1 hw)
theorem zl_next {len : Nat → Int32} {N fr a : Nat} {V : Nat → Bool} (hN : N ≤ 16) (h : zl_G len N) (hI : zl_I len N V fr a) (h2 : zn_pc (zn_bs len N a) = 2) : zl_I len N (fun u => if u = a then true else V u) a (zl_to len N a fr) := by
  obtain ⟨i1, i2, i3, i4, i5, i6, i7⟩ := hI
  have hlt : zn_bs len N a < 65536 := Nat.lt_of_lt_of_le zn_bs_lt (zi_pow hN)
  obtain ⟨p1, p2, p3, p4⟩ := zn_pc_2 hlt h2 i5
  obtain ⟨s1, s2, s3⟩ := zl_sym h i2 p3
  have e : zl_lo (zn_diff (zn_bs len N a) (2 ^ fr)) = zl_to len N a fr := rfl
  rw [e] at p2 p3 p4 s1 s2 s3
  have hto : V (zl_to len N a fr) = false := by
    cases hv : V (zl_to len N a fr) with
    | false => rfl
    | true => exact absurd (i7 _ hv s1 s2) p4
  refine ⟨i2, s1, by simp, by simp [s3, hto], s2, fun u w hu hun hw => ?_, fun u hu hun hw => ?_⟩
  · by_cases hua : u = a
    · subst hua
      rcases p2 w hw with q | q
      · subst q
        left
        by_cases hwa : w = u
        · simp [hwa]
        · simp [hwa, i3]
      · exact Or.inr q
    · simp only [hua, if_false] at hu
      rcases i6 u w hu hun hw with q | q
      · left
        by_cases hwa : w = a <;> simp [hwa, q]
      · left; simp [q]
  · by_cases hua : u = a
    · exact hua
    · simp only [hua, if_false] at hu
      rcases i6 u _ hu hun hw with q | q
      · rw [hto] at q; cases q
      · exact absurd q s3
theorem zl_ct {N a : Nat} {V : Nat → Bool} (ha : a < N) (hv : V a = false) : fb_ct (fun u => if u = a then true else V u) N = fb_ct V N + 1 := by
  have := fb_ct_upd V true ha
  simp only [hv] at this
  simpa using this
theorem zl_full {N a : Nat} {V : Nat → Bool} (ha : a < N) (hv : V a = false) : fb_ct V N < N := by
  have h1 := fb_ct_le V N
  rcases Nat.lt_or_ge (fb_ct V N) N with q | q
  · exact q
  · have := fb_ct_all.mp (Nat.le_antisymm h1 q) a ha
    rw [hv] at this; cases this
def zl_led (len : Nat → Int32) (N p q : Nat) : Bool := decide (zn_pc (zn_bs len N q) = 1) && decide (zl_end len N q = p)
def zl_isl (len : Nat → Int32) (N p : Nat) : Bool := (zf_in (zl_led len N p) N 0).isSome
def zt_deg (len : Nat → Int32) (N p : Nat) : Nat := zn_pc (zn_bs len N p)
def zt_lv (len : Nat → Int32) (N : Nat) : Int32 := zm_sum (fun p => if zt_deg len N p = 1 then 1 else 0) N
def zt_kn (len : Nat → Int32) (N : Nat) : Int32 := zm_sum (fun p => if 2 < zt_deg len N p ∧ zl_isl len N p = true then 1 else 0) N
def zt_tree (len w : Nat → Int32) (N : Nat) : Int32 := if zm_ends len N = 2 * (nI N - 1) ∧ zm_reach w N 0 = nI N then (if N = 1 then 0 else if zt_lv len N = 2 ∧ zt_kn len N = 0 then 1 else zt_lv len N - zt_kn len N) else -1
section ML
variable {X : az_X} {d : Nat} {mem : az_M} {Q : Option az_V → az_M → Prop} {N : Nat}
theorem s_X8_only {k : Nat} (hk : k < 65536) (h0 : k ≠ 0) (hQ : Q (some (.inl (nI (zl_lo k)))) mem) : az_Sp X d mX8_only [.inl (nI k)] mem Q := by
  obtain ⟨h1, h2, h3, h4⟩ := zl_lo_spec hk h0
  refine az_body (by decide +kernel) (Nat.le_of_ble_eq_true rfl) ?_
  show az_Ev X _ mX8_only 0 [some (.inl (nI k)), none] [] mem Q
  refine az_iconst (v := 0) dX8_only_0 (by decide) ?_
  refine az_istoren dX8_only_1 (by decide) ?_
  dsimp only [List.set]
  skip
  refine az_up (fun i => az_Ev X d mX8_only 2 [some (.inl (nI k)), some (.inl (nI i))] [] mem Q) (zl_lo k) 0 (by omega) (fun i _ hi ih => ?_) ?_
  · refine az_iloadn dX8_only_2 rfl ?_
    refine az_iloadn dX8_only_3 rfl ?_
    refine az_ishr dX8_only_4 ?_
    refine az_iconst (v := 1) dX8_only_5 (by decide) ?_
    refine az_iand dX8_only_6 ?_
    refine az_ifne (t := 16) dX8_only_7 (by decide) (fun h7 => ?_) (fun h7 => ?_)
    · exact absurd ((zb_bit0 (by omega) (by omega)).mpr (h4 i hi)) h7
    refine az_iinc (w := 1) dX8_only_10 rfl (by decide) (by decide) ?_
    dsimp only [List.set]
    refine az_goto (t := 2) dX8_only_13 (by decide) ?_
    rw [nI_1]; exact ih
  · refine az_iloadn dX8_only_2 rfl ?_
    refine az_iloadn dX8_only_3 rfl ?_
    refine az_ishr dX8_only_4 ?_
    refine az_iconst (v := 1) dX8_only_5 (by decide) ?_
    refine az_iand dX8_only_6 ?_
    refine az_ifne (t := 16) dX8_only_7 (by decide) (fun h7 => ?_) (fun h7 => ?_)
    rotate_left 1
    · rw [zb_bit0 (by omega) (by omega), h3] at h7; cases h7
    refine az_iloadn dX8_only_16 rfl ?_
    refine az_iret dX8_only_17 rfl ?_
    exact hQ
theorem t_X8_bs {p : Nat} (hn : mem 392 0 = nI N) (hN : N ≤ 16) (hp : p < 16) (hQ : Q (some (.inl (nI (zn_bs (zm_len (mem 392)) N p)))) mem) : az_Sp X (d + 1) mX8_besideBits [.inr 391, .inl (nI p)] mem Q := by
  refine s_X8_besideBits hn hN hp ?_
  rw [zm_mask_n _ N (by omega)]
  exact hQ
theorem x_led {q : Nat} {p : Int32} (hn : mem 392 0 = nI N) (hN : N ≤ 16) (hG : zl_G (zm_len (mem 392)) N) {Ld : Option az_V} (R : Nat)
    (K : ∀ L4 L6, az_Ev X (d + 2) mX8_isLed 86 [some (.inr 391), some (.inl p), Ld, some (.inl (nI q)), L4, some (.inl (nI R)), L6] [] mem Q) : ∀ (f fr a : Nat) (V : Nat → Bool) (L6 : Option az_V), zl_I (zm_len (mem 392)) N V fr a → N ≤ fb_ct V N + f → zl_go (zm_len (mem 392)) N f fr a = R → az_Ev X (d + 2) mX8_isLed 44 [some (.inr 391), some (.inl p), Ld, some (.inl (nI q)), some (.inl (nI fr)), some (.inl (nI a)), L6] [] mem Q
  | 0, fr, a, V, L6, hI, hf, hR => by
    have := zl_full hI.2.1 hI.2.2.2.1
    omega
  | f + 1, fr, a, V, L6, hI, hf, hR => by
    have hlt : zn_bs (zm_len (mem 392)) N a < 65536 := Nat.lt_of_lt_of_le zn_bs_lt (zi_pow hN)
    have hfr := hI.1
    have ha := hI.2.1
    have hpc := zn_pc_le (zn_bs (zm_len (mem 392)) N a)
    rw [zl_go] at hR
    refine az_aloadn dX8_isLed_44 rfl ?_
    refine az_iload dX8_isLed_45 rfl ?_
    refine az_inv1 (N := mX8_besideBits) dX8_isLed_47 lkX8_98 okX8_besideBits sh_391 rfl (Nat.le_of_ble_eq_true rfl) ?_
    refine t_X8_bs hn hN (by omega) ?_
    try dsimp only [az_ps]
    refine az_ins1 (N := mX8_many) dX8_isLed_50 lsX8_102 okX8_many (Nat.le_of_ble_eq_true rfl) ?_
    refine s_X8_many ?_
    try dsimp only [az_ps]
    rw [zm_many_n (by omega)]
    refine az_iconst (v := 2) dX8_isLed_53 (by decide) ?_
    refine az_icmpne (t := 86) dX8_isLed_54 (by decide) (fun h54 => ?_) (fun h54 => ?_)
    · rw [if_neg (fun z => h54 (by rw [z]; rfl))] at hR
      subst hR
      exact K _ _
    · have h2 : zn_pc (zn_bs (zm_len (mem 392)) N a) = 2 := (nI_eq (b := 2) (by omega) (by decide)).mp h54
      rw [if_pos h2] at hR
      have hfb := hI.2.2.2.2.1
      have hp2 := zn_pc_2 hlt h2 hfb
      have hnx := zl_next hN hG hI h2
      refine az_aloadn dX8_isLed_57 rfl ?_
      refine az_iload dX8_isLed_58 rfl ?_
      refine az_inv1 (N := mX8_besideBits) dX8_isLed_60 lkX8_98 okX8_besideBits sh_391 rfl (Nat.le_of_ble_eq_true rfl) ?_
      refine t_X8_bs hn hN (by omega) ?_
      try dsimp only [az_ps]
      refine az_iconst (v := 1) dX8_isLed_63 (by decide) ?_
      refine az_iload dX8_isLed_64 rfl ?_
      refine az_ishl dX8_isLed_66 ?_
      refine az_iconst (v := -1) dX8_isLed_67 (by decide) ?_
      refine az_ixor dX8_isLed_68 ?_
      refine az_iand dX8_isLed_69 ?_
      refine az_ins1 (N := mX8_only) dX8_isLed_70 lsX8_184 okX8_only (Nat.le_of_ble_eq_true rfl) ?_
      rw [zb_shl1 fr (by omega), zb_diff (by omega) (Nat.lt_of_lt_of_le (Nat.pow_lt_pow_right (by decide) (show fr < 16 by omega)) (by decide))]
      refine s_X8_only (zn_diff_lt (n := 16) hlt (by decide)) (zn_pc_pos (by omega)) ?_
      try dsimp only [az_ps]
      refine az_istore dX8_isLed_73 (by decide) ?_
      dsimp only [List.set]
      refine az_iload dX8_isLed_75 rfl ?_
      refine az_istore dX8_isLed_77 (by decide) ?_
      dsimp only [List.set]
      refine az_iload dX8_isLed_79 rfl ?_
      refine az_istore dX8_isLed_81 (by decide) ?_
      dsimp only [List.set]
      refine az_goto (t := 44) dX8_isLed_83 (by decide) ?_
      exact x_led hn hN hG R K f a _ _ _ hnx (by rw [zl_ct ha hI.2.2.2.1]; omega) hR
theorem s_X8_isLed {p : Nat} (hn : mem 392 0 = nI N) (hN : N ≤ 16) (hG : zl_G (zm_len (mem 392)) N) (hp : p < 16) (hQ : Q (some (.inl (if zl_isl (zm_len (mem 392)) N p = true then 1 else 0))) mem) : az_Sp X (d + 2) mX8_isLed [.inr 391, .inl (nI p)] mem Q := by
  refine az_body (by decide +kernel) (Nat.le_of_ble_eq_true rfl) ?_
  show az_Ev X _ mX8_isLed 0 [some (.inr 391), some (.inl (nI p)), none, none, none, none, none] [] mem Q
  refine az_iconst (v := 0) dX8_isLed_0 (by decide) ?_
  refine az_istoren dX8_isLed_1 (by decide) ?_
  dsimp only [List.set]
  refine az_iconst (v := 0) dX8_isLed_2 (by decide) ?_
  refine az_istoren dX8_isLed_3 (by decide) ?_
  dsimp only [List.set]
  skip
  unfold zl_isl at hQ
  have fin1 : ∀ L3 L4 L5 L6, (zf_in (zl_led (zm_len (mem 392)) N p) N 0).isSome = true → az_Ev X (d + 2) mX8_isLed 98 [some (.inr 391), some (.inl (nI p)), some (.inl 1), some (.inl L3), L4, L5, L6] [] mem Q := by
    intro L3 L4 L5 L6 h
    rw [if_pos h] at hQ
    refine az_iinc (w := 1) dX8_isLed_98 rfl (by decide) (by decide) ?_
    dsimp only [List.set]
    refine az_goto (t := 4) dX8_isLed_101 (by decide) ?_
    refine az_iloadn dX8_isLed_4 rfl ?_
    refine az_aloadn dX8_isLed_5 rfl ?_
    refine az_inv0 (N := mX8_n) dX8_isLed_6 lkX8_62 okX8_n sh_391 rfl (Nat.le_of_ble_eq_true rfl) ?_
    refine t_X8_n hn ?_
    try dsimp only [az_ps]
    refine az_icmpge (t := 104) dX8_isLed_9 (by decide) (fun h9 => ?_) (fun h9 => ?_)
    · refine az_iloadn dX8_isLed_104 rfl ?_
      refine az_zret dX8_isLed_105 rfl (by first | exact Or.inl rfl | exact Or.inr rfl | assumption) ?_
      exact hQ
    · refine az_iloadn dX8_isLed_12 rfl ?_
      refine az_ifne (t := 104) dX8_isLed_13 (by decide) (fun h13 => ?_) (fun h13 => ?_)
      rotate_left 1
      · exact absurd h13 (by decide)
      refine az_iloadn dX8_isLed_104 rfl ?_
      refine az_zret dX8_isLed_105 rfl (by first | exact Or.inl rfl | exact Or.inr rfl | assumption) ?_
      exact hQ
  refine az_up (fun q => zf_in (zl_led (zm_len (mem 392)) N p) (N - q) q = zf_in (zl_led (zm_len (mem 392)) N p) N 0 → ∀ L4 L5 L6, az_Ev X (d + 2) mX8_isLed 4 [some (.inr 391), some (.inl (nI p)), some (.inl 0), some (.inl (nI q)), L4, L5, L6] [] mem Q) N 0 (by omega) (fun q _ hq ih he L4 L5 L6 => ?_) (fun he L4 L5 L6 => ?_) rfl none none none
  · have hlt : zn_bs (zm_len (mem 392)) N q < 65536 := Nat.lt_of_lt_of_le zn_bs_lt (zi_pow hN)
    have hpc := zn_pc_le (zn_bs (zm_len (mem 392)) N q)
    rw [zs_sub hq] at he
    refine az_iloadn dX8_isLed_4 rfl ?_
    refine az_aloadn dX8_isLed_5 rfl ?_
    refine az_inv0 (N := mX8_n) dX8_isLed_6 lkX8_62 okX8_n sh_391 rfl (Nat.le_of_ble_eq_true rfl) ?_
    refine t_X8_n hn ?_
    try dsimp only [az_ps]
    refine az_icmpge (t := 104) dX8_isLed_9 (by decide) (fun h9 => ?_) (fun h9 => ?_)
    · exact absurd h9 (nI_ge (by omega) (by omega))
    refine az_iloadn dX8_isLed_12 rfl ?_
    refine az_ifne (t := 104) dX8_isLed_13 (by decide) (fun h13 => ?_) (fun h13 => ?_)
    · exact absurd rfl h13
    refine az_aloadn dX8_isLed_16 rfl ?_
    refine az_iloadn dX8_isLed_17 rfl ?_
    refine az_inv1 (N := mX8_besideBits) dX8_isLed_18 lkX8_98 okX8_besideBits sh_391 rfl (Nat.le_of_ble_eq_true rfl) ?_
    refine t_X8_bs hn hN (by omega) ?_
    try dsimp only [az_ps]
    refine az_ins1 (N := mX8_many) dX8_isLed_21 lsX8_102 okX8_many (Nat.le_of_ble_eq_true rfl) ?_
    refine s_X8_many ?_
    try dsimp only [az_ps]
    rw [zm_many_n (by omega)]
    refine az_iconst (v := 1) dX8_isLed_24 (by decide) ?_
    refine az_icmpeq (t := 31) dX8_isLed_25 (by decide) (fun h25 => ?_) (fun h25 => ?_)
    rotate_left 1
    · rw [zf_in_f (by
          have : ¬ zn_pc (zn_bs (zm_len (mem 392)) N q) = 1 := fun z => h25 (by rw [z]; rfl)
          simp [zl_led, this])] at he
      refine az_goto (t := 98) dX8_isLed_28 (by decide) ?_
      refine az_iinc (w := 1) dX8_isLed_98 rfl (by decide) (by decide) ?_
      dsimp only [List.set]
      refine az_goto (t := 4) dX8_isLed_101 (by decide) ?_
      rw [nI_1]; exact ih he _ _ _
    have h1 : zn_pc (zn_bs (zm_len (mem 392)) N q) = 1 := (nI_eq (b := 1) (by omega) (by decide)).mp h25
    refine az_iloadn dX8_isLed_31 rfl ?_
    refine az_istore dX8_isLed_32 (by decide) ?_
    dsimp only [List.set]
    refine az_aloadn dX8_isLed_34 rfl ?_
    refine az_iloadn dX8_isLed_35 rfl ?_
    refine az_inv1 (N := mX8_besideBits) dX8_isLed_36 lkX8_98 okX8_besideBits sh_391 rfl (Nat.le_of_ble_eq_true rfl) ?_
    refine t_X8_bs hn hN (by omega) ?_
    try dsimp only [az_ps]
    refine az_ins1 (N := mX8_only) dX8_isLed_39 lsX8_184 okX8_only (Nat.le_of_ble_eq_true rfl) ?_
    refine s_X8_only hlt (zn_pc_pos (by omega)) ?_
    try dsimp only [az_ps]
    refine az_istore dX8_isLed_42 (by decide) ?_
    dsimp only [List.set]
    skip
    have hst := zl_start hN hG hq h1
    refine x_led hn hN hG (zl_end (zm_len (mem 392)) N q) (fun L4 L6 => ?_) N q _ _ _ hst (by omega) rfl
    have hend : zl_end (zm_len (mem 392)) N q < 16 := by
      have go : ∀ (f fr a : Nat), a < 16 → zl_go (zm_len (mem 392)) N f fr a < 16 := by
        intro f
        induction f with
        | zero => intro fr a h; exact h
        | succ f ihf =>
          intro fr a h
          rw [zl_go]
          split
          · refine ihf _ _ ?_
            unfold zl_to zl_lo
            have hs := zf_in_spec (f := fun i => (zn_diff (zn_bs (zm_len (mem 392)) N a) (2 ^ fr)).testBit i) 16 0
            cases hz : zf_in (fun i => (zn_diff (zn_bs (zm_len (mem 392)) N a) (2 ^ fr)).testBit i) 16 0 with
            | none => simp
            | some i => rw [hz] at hs; simpa using hs.2.1
          · exact h
      exact go N q _ (by have := hst.2.1; omega)
    refine az_iload dX8_isLed_86 rfl ?_
    refine az_iloadn dX8_isLed_88 rfl ?_
    refine az_icmpne (t := 96) dX8_isLed_89 (by decide) (fun h89 => ?_) (fun h89 => ?_)
    · have hne : ¬ zl_end (zm_len (mem 392)) N q = p := fun z => h89 (by rw [z])
      rw [zf_in_f (by simp [zl_led, hne])] at he
      refine az_iconst (v := 0) dX8_isLed_96 (by decide) ?_
      refine az_istoren dX8_isLed_97 (by decide) ?_
      dsimp only [List.set]
      refine az_iinc (w := 1) dX8_isLed_98 rfl (by decide) (by decide) ?_
      dsimp only [List.set]
      refine az_goto (t := 4) dX8_isLed_101 (by decide) ?_
      rw [nI_1]; exact ih he _ _ _
    · have heq : zl_end (zm_len (mem 392)) N q = p := (nI_eq (by omega) (by omega)).mp h89
      rw [zf_in_t (by simp [zl_led, h1, heq])] at he
      refine az_iconst (v := 1) dX8_isLed_92 (by decide) ?_
      refine az_goto (t := 97) dX8_isLed_93 (by decide) ?_
      refine az_istoren dX8_isLed_97 (by decide) ?_
      dsimp only [List.set]
      exact fin1 _ _ _ _ (by rw [← he]; rfl)
      skip
  · rw [Nat.sub_self] at he
    rw [← he] at hQ
    refine az_iloadn dX8_isLed_4 rfl ?_
    refine az_aloadn dX8_isLed_5 rfl ?_
    refine az_inv0 (N := mX8_n) dX8_isLed_6 lkX8_62 okX8_n sh_391 rfl (Nat.le_of_ble_eq_true rfl) ?_
    refine t_X8_n hn ?_
    try dsimp only [az_ps]
    refine az_icmpge (t := 104) dX8_isLed_9 (by decide) (fun h9 => ?_) (fun h9 => ?_)
    rotate_left 1
    · exact absurd (Int32.le_refl _) h9
    refine az_iloadn dX8_isLed_104 rfl ?_
    refine az_zret dX8_isLed_105 rfl (by first | exact Or.inl rfl | exact Or.inr rfl | assumption) ?_
    exact hQ
theorem s_X8_tree (hn : mem 392 0 = nI N) (hN : N ≤ 16) (h1N : 1 ≤ N) (hG : zl_G (zm_len (mem 392)) N) (hQ : Q (some (.inl (zt_tree (zm_len (mem 392)) (mem 395) N))) mem) : az_Sp X (d + 3) mX8_tree [.inr 391] mem Q := by
  unfold zt_tree at hQ
  have hlt : ∀ p, zn_bs (zm_len (mem 392)) N p < 65536 := fun p => Nat.lt_of_lt_of_le zn_bs_lt (zi_pow hN)
  have hpc : ∀ p, zt_deg (zm_len (mem 392)) N p ≤ 16 := fun p => zn_pc_le _
  refine az_body (by decide +kernel) (Nat.le_of_ble_eq_true rfl) ?_
  show az_Ev X _ mX8_tree 0 [some (.inr 391), none, none, none, none] [] mem Q
  refine az_iconst (v := 0) dX8_tree_0 (by decide) ?_
  refine az_istoren dX8_tree_1 (by decide) ?_
  dsimp only [List.set]
  refine az_iconst (v := 0) dX8_tree_2 (by decide) ?_
  refine az_istoren dX8_tree_3 (by decide) ?_
  dsimp only [List.set]
  skip
  refine az_up (fun i => az_Ev X (d + 3) mX8_tree 4 [some (.inr 391), some (.inl (zm_sum (fun p => zm_many (zm_mask (zm_bf (zm_len (mem 392)) p) N)) i)), some (.inl (nI i)), none, none] [] mem Q) N 0 (by omega) (fun i _ hi ih => ?_) ?_
  · rw [zm_sum] at ih
    refine az_iloadn dX8_tree_4 rfl ?_
    refine az_aloadn dX8_tree_5 rfl ?_
    refine az_inv0 (N := mX8_n) dX8_tree_6 lkX8_62 okX8_n sh_391 rfl (Nat.le_of_ble_eq_true rfl) ?_
    refine t_X8_n hn ?_
    try dsimp only [az_ps]
    refine az_icmpge (t := 29) dX8_tree_9 (by decide) (fun h9 => ?_) (fun h9 => ?_)
    · exact absurd h9 (nI_ge (by omega) (by omega))
    refine az_iloadn dX8_tree_12 rfl ?_
    refine az_aloadn dX8_tree_13 rfl ?_
    refine az_iloadn dX8_tree_14 rfl ?_
    refine az_inv1 (N := mX8_besideBits) dX8_tree_15 lkX8_98 okX8_besideBits sh_391 rfl (Nat.le_of_ble_eq_true rfl) ?_
    refine s_X8_besideBits hn hN (by omega) ?_
    try dsimp only [az_ps]
    refine az_ins1 (N := mX8_many) dX8_tree_18 lsX8_102 okX8_many (Nat.le_of_ble_eq_true rfl) ?_
    refine s_X8_many ?_
    try dsimp only [az_ps]
    refine az_iadd dX8_tree_21 ?_
    refine az_istoren dX8_tree_22 (by decide) ?_
    dsimp only [List.set]
    refine az_iinc (w := 1) dX8_tree_23 rfl (by decide) (by decide) ?_
    dsimp only [List.set]
    refine az_goto (t := 4) dX8_tree_26 (by decide) ?_
    rw [nI_1]; exact ih
  refine az_iloadn dX8_tree_4 rfl ?_
  refine az_aloadn dX8_tree_5 rfl ?_
  refine az_inv0 (N := mX8_n) dX8_tree_6 lkX8_62 okX8_n sh_391 rfl (Nat.le_of_ble_eq_true rfl) ?_
  refine t_X8_n hn ?_
  try dsimp only [az_ps]
  refine az_icmpge (t := 29) dX8_tree_9 (by decide) (fun h9 => ?_) (fun h9 => ?_)
  rotate_left 1
  · exact absurd (Int32.le_refl _) h9
  refine az_iloadn dX8_tree_29 rfl ?_
  refine az_iconst (v := 2) dX8_tree_30 (by decide) ?_
  refine az_aloadn dX8_tree_31 rfl ?_
  refine az_inv0 (N := mX8_n) dX8_tree_32 lkX8_62 okX8_n sh_391 rfl (Nat.le_of_ble_eq_true rfl) ?_
  refine t_X8_n hn ?_
  try dsimp only [az_ps]
  refine az_iconst (v := 1) dX8_tree_35 (by decide) ?_
  rw [show zm_sum (fun p => zm_many (zm_mask (zm_bf (zm_len (mem 392)) p) N)) N = zm_ends (zm_len (mem 392)) N from rfl]
  refine az_isub dX8_tree_36 ?_
  refine az_imul dX8_tree_37 ?_
  refine az_icmpne (t := 54) dX8_tree_38 (by decide) (fun h38 => ?_) (fun h38 => ?_)
  · rw [if_neg (fun z => h38 z.1)] at hQ
    refine az_iconst (v := -1) dX8_tree_54 (by decide) ?_
    exact az_iret dX8_tree_55 rfl hQ
  refine az_aloadn dX8_tree_41 rfl ?_
  refine az_iconst (v := 0) dX8_tree_42 (by decide) ?_
  refine az_iconst (v := 5) dX8_tree_43 (by decide) ?_
  refine az_inv2 (N := mX8_of) dX8_tree_44 lkX8_178 okX8_of sh_391 rfl (Nat.le_of_ble_eq_true rfl) ?_
  refine s_X8_of hn hN ?_
  rw [show zm_of (mem 392) (mem 395) N 0 5 = zm_reach (mem 395) N 0 from by unfold zm_of; rw [if_pos (show 0 ≤ (0 : Int32) ∧ 0 < nI N from zi_yes (P := 0) (by omega) (by omega))]; rfl]
  try dsimp only [az_ps]
  refine az_aloadn dX8_tree_47 rfl ?_
  refine az_inv0 (N := mX8_n) dX8_tree_48 lkX8_62 okX8_n sh_391 rfl (Nat.le_of_ble_eq_true rfl) ?_
  refine t_X8_n hn ?_
  try dsimp only [az_ps]
  refine az_icmpeq (t := 56) dX8_tree_51 (by decide) (fun h51 => ?_) (fun h51 => ?_)
  rotate_left 1
  · rw [if_neg (fun z => h51 z.2)] at hQ
    refine az_iconst (v := -1) dX8_tree_54 (by decide) ?_
    exact az_iret dX8_tree_55 rfl hQ
  rw [if_pos ⟨h38, h51⟩] at hQ
  refine az_aloadn dX8_tree_56 rfl ?_
  refine az_inv0 (N := mX8_n) dX8_tree_57 lkX8_62 okX8_n sh_391 rfl (Nat.le_of_ble_eq_true rfl) ?_
  refine t_X8_n hn ?_
  try dsimp only [az_ps]
  refine az_iconst (v := 1) dX8_tree_60 (by decide) ?_
  refine az_icmpne (t := 66) dX8_tree_61 (by decide) (fun h61 => ?_) (fun h61 => ?_)
  rotate_left 1
  · rw [if_pos ((nI_eq (b := 1) (by omega) (by decide)).mp h61)] at hQ
    refine az_iconst (v := 0) dX8_tree_64 (by decide) ?_
    exact az_iret dX8_tree_65 rfl hQ
  rw [if_neg (fun z => h61 (by rw [z]; rfl))] at hQ
  refine az_iconst (v := 0) dX8_tree_66 (by decide) ?_
  refine az_istoren dX8_tree_67 (by decide) ?_
  dsimp only [List.set]
  refine az_iconst (v := 0) dX8_tree_68 (by decide) ?_
  refine az_istoren dX8_tree_69 (by decide) ?_
  dsimp only [List.set]
  refine az_iconst (v := 0) dX8_tree_70 (by decide) ?_
  refine az_istore dX8_tree_71 (by decide) ?_
  dsimp only [List.set]
  skip
  refine az_up (fun i => az_Ev X (d + 3) mX8_tree 73 [some (.inr 391), some (.inl (zm_ends (zm_len (mem 392)) N)), some (.inl (zm_sum (fun p => if zt_deg (zm_len (mem 392)) N p = 1 then 1 else 0) i)), some (.inl (zm_sum (fun p => if 2 < zt_deg (zm_len (mem 392)) N p ∧ zl_isl (zm_len (mem 392)) N p = true then 1 else 0) i)), some (.inl (nI i))] [] mem Q) N 0 (by omega) (fun i _ hi ih => ?_) ?_
  · rw [zm_sum, zm_sum] at ih
    have hd := hpc i
    have hl := hlt i
    have ed : zn_pc (zn_bs (zm_len (mem 392)) N i) = zt_deg (zm_len (mem 392)) N i := rfl
    refine az_iload dX8_tree_73 rfl ?_
    refine az_aloadn dX8_tree_75 rfl ?_
    refine az_inv0 (N := mX8_n) dX8_tree_76 lkX8_62 okX8_n sh_391 rfl (Nat.le_of_ble_eq_true rfl) ?_
    refine t_X8_n hn ?_
    try dsimp only [az_ps]
    refine az_icmpge (t := 139) dX8_tree_79 (by decide) (fun h79 => ?_) (fun h79 => ?_)
    · exact absurd h79 (nI_ge (by omega) (by omega))
    refine az_iloadn dX8_tree_82 rfl ?_
    refine az_aloadn dX8_tree_83 rfl ?_
    refine az_iload dX8_tree_84 rfl ?_
    refine az_inv1 (N := mX8_besideBits) dX8_tree_86 lkX8_98 okX8_besideBits sh_391 rfl (Nat.le_of_ble_eq_true rfl) ?_
    refine t_X8_bs hn hN (by omega) ?_
    try dsimp only [az_ps]
    refine az_ins1 (N := mX8_many) dX8_tree_89 lsX8_102 okX8_many (Nat.le_of_ble_eq_true rfl) ?_
    refine s_X8_many ?_
    try dsimp only [az_ps]
    rw [zm_many_n (by omega), ed]
    refine az_iconst (v := 1) dX8_tree_92 (by decide) ?_
    refine az_icmpne (t := 100) dX8_tree_93 (by decide) (fun h93 => ?_) (fun h93 => ?_)
    · rw [if_neg (fun z => h93 (by rw [z]; rfl))] at ih
      refine az_iconst (v := 0) dX8_tree_100 (by decide) ?_
      refine az_iadd dX8_tree_101 ?_
      refine az_istoren dX8_tree_102 (by decide) ?_
      dsimp only [List.set]
      refine az_iloadn dX8_tree_103 rfl ?_
      refine az_aloadn dX8_tree_104 rfl ?_
      refine az_iload dX8_tree_105 rfl ?_
      refine az_inv1 (N := mX8_besideBits) dX8_tree_107 lkX8_98 okX8_besideBits sh_391 rfl (Nat.le_of_ble_eq_true rfl) ?_
      refine t_X8_bs hn hN (by omega) ?_
      try dsimp only [az_ps]
      refine az_ins1 (N := mX8_many) dX8_tree_110 lsX8_102 okX8_many (Nat.le_of_ble_eq_true rfl) ?_
      refine s_X8_many ?_
      try dsimp only [az_ps]
      rw [zm_many_n (by omega), ed]
      refine az_iconst (v := 2) dX8_tree_113 (by decide) ?_
      refine az_icmple (t := 130) dX8_tree_114 (by decide) (fun h114 => ?_) (fun h114 => ?_)
      · have h2 : ¬ 2 < zt_deg (zm_len (mem 392)) N i := fun z => absurd h114 (Int32.not_le.mpr (nI_lt (a := 2) z (by omega)))
        rw [if_neg (fun z => h2 z.1)] at ih
        refine az_iconst (v := 0) dX8_tree_130 (by decide) ?_
        refine az_iadd dX8_tree_131 ?_
        refine az_istoren dX8_tree_132 (by decide) ?_
        dsimp only [List.set]
        refine az_iinc (w := 1) dX8_tree_133 rfl (by decide) (by decide) ?_
        dsimp only [List.set]
        refine az_goto (t := 73) dX8_tree_136 (by decide) ?_
        rw [nI_1]; exact ih
      · have h2 : 2 < zt_deg (zm_len (mem 392)) N i := (nI_ltI (a := 2) (by decide) (by omega)).mp (Int32.not_le.mp h114)
        refine az_aloadn dX8_tree_117 rfl ?_
        refine az_iload dX8_tree_118 rfl ?_
        refine az_inv1 (N := mX8_isLed) dX8_tree_120 lkX8_181 okX8_isLed sh_391 rfl (Nat.le_of_ble_eq_true rfl) ?_
        refine s_X8_isLed hn hN hG (by omega) ?_
        try dsimp only [az_ps]
        refine az_ifeq (t := 130) dX8_tree_123 (by decide) (fun h123 => ?_) (fun h123 => ?_)
        · replace h123 := zb_z h123
          rw [if_neg (fun z => h123 z.2)] at ih
          refine az_iconst (v := 0) dX8_tree_130 (by decide) ?_
          refine az_iadd dX8_tree_131 ?_
          refine az_istoren dX8_tree_132 (by decide) ?_
          dsimp only [List.set]
          refine az_iinc (w := 1) dX8_tree_133 rfl (by decide) (by decide) ?_
          dsimp only [List.set]
          refine az_goto (t := 73) dX8_tree_136 (by decide) ?_
          rw [nI_1]; exact ih
        · replace h123 := zb_n h123
          rw [if_pos ⟨h2, h123⟩] at ih
          refine az_iconst (v := 1) dX8_tree_126 (by decide) ?_
          refine az_goto (t := 131) dX8_tree_127 (by decide) ?_
          refine az_iadd dX8_tree_131 ?_
          refine az_istoren dX8_tree_132 (by decide) ?_
          dsimp only [List.set]
          refine az_iinc (w := 1) dX8_tree_133 rfl (by decide) (by decide) ?_
          dsimp only [List.set]
          refine az_goto (t := 73) dX8_tree_136 (by decide) ?_
          rw [nI_1]; exact ih
    · rw [if_pos ((nI_eq (b := 1) (by omega) (by decide)).mp h93)] at ih
      refine az_iconst (v := 1) dX8_tree_96 (by decide) ?_
      refine az_goto (t := 101) dX8_tree_97 (by decide) ?_
      refine az_iadd dX8_tree_101 ?_
      refine az_istoren dX8_tree_102 (by decide) ?_
      dsimp only [List.set]
      refine az_iloadn dX8_tree_103 rfl ?_
      refine az_aloadn dX8_tree_104 rfl ?_
      refine az_iload dX8_tree_105 rfl ?_
      refine az_inv1 (N := mX8_besideBits) dX8_tree_107 lkX8_98 okX8_besideBits sh_391 rfl (Nat.le_of_ble_eq_true rfl) ?_
      refine t_X8_bs hn hN (by omega) ?_
      try dsimp only [az_ps]
      refine az_ins1 (N := mX8_many) dX8_tree_110 lsX8_102 okX8_many (Nat.le_of_ble_eq_true rfl) ?_
      refine s_X8_many ?_
      try dsimp only [az_ps]
      rw [zm_many_n (by omega), ed]
      refine az_iconst (v := 2) dX8_tree_113 (by decide) ?_
      refine az_icmple (t := 130) dX8_tree_114 (by decide) (fun h114 => ?_) (fun h114 => ?_)
      · have h2 : ¬ 2 < zt_deg (zm_len (mem 392)) N i := fun z => absurd h114 (Int32.not_le.mpr (nI_lt (a := 2) z (by omega)))
        rw [if_neg (fun z => h2 z.1)] at ih
        refine az_iconst (v := 0) dX8_tree_130 (by decide) ?_
        refine az_iadd dX8_tree_131 ?_
        refine az_istoren dX8_tree_132 (by decide) ?_
        dsimp only [List.set]
        refine az_iinc (w := 1) dX8_tree_133 rfl (by decide) (by decide) ?_
        dsimp only [List.set]
        refine az_goto (t := 73) dX8_tree_136 (by decide) ?_
        rw [nI_1]; exact ih
      · have h2 : 2 < zt_deg (zm_len (mem 392)) N i := (nI_ltI (a := 2) (by decide) (by omega)).mp (Int32.not_le.mp h114)
        refine az_aloadn dX8_tree_117 rfl ?_
        refine az_iload dX8_tree_118 rfl ?_
        refine az_inv1 (N := mX8_isLed) dX8_tree_120 lkX8_181 okX8_isLed sh_391 rfl (Nat.le_of_ble_eq_true rfl) ?_
        refine s_X8_isLed hn hN hG (by omega) ?_
        try dsimp only [az_ps]
        refine az_ifeq (t := 130) dX8_tree_123 (by decide) (fun h123 => ?_) (fun h123 => ?_)
        · replace h123 := zb_z h123
          rw [if_neg (fun z => h123 z.2)] at ih
          refine az_iconst (v := 0) dX8_tree_130 (by decide) ?_
          refine az_iadd dX8_tree_131 ?_
          refine az_istoren dX8_tree_132 (by decide) ?_
          dsimp only [List.set]
          refine az_iinc (w := 1) dX8_tree_133 rfl (by decide) (by decide) ?_
          dsimp only [List.set]
          refine az_goto (t := 73) dX8_tree_136 (by decide) ?_
          rw [nI_1]; exact ih
        · replace h123 := zb_n h123
          rw [if_pos ⟨h2, h123⟩] at ih
          refine az_iconst (v := 1) dX8_tree_126 (by decide) ?_
          refine az_goto (t := 131) dX8_tree_127 (by decide) ?_
          refine az_iadd dX8_tree_131 ?_
          refine az_istoren dX8_tree_132 (by decide) ?_
          dsimp only [List.set]
          refine az_iinc (w := 1) dX8_tree_133 rfl (by decide) (by decide) ?_
          dsimp only [List.set]
          refine az_goto (t := 73) dX8_tree_136 (by decide) ?_
          rw [nI_1]; exact ih
  · have e1 : zm_sum (fun p => if zt_deg (zm_len (mem 392)) N p = 1 then 1 else 0) N = zt_lv (zm_len (mem 392)) N := rfl
    have e2 : zm_sum (fun p => if 2 < zt_deg (zm_len (mem 392)) N p ∧ zl_isl (zm_len (mem 392)) N p = true then 1 else 0) N = zt_kn (zm_len (mem 392)) N := rfl
    rw [e1, e2]
    refine az_iload dX8_tree_73 rfl ?_
    refine az_aloadn dX8_tree_75 rfl ?_
    refine az_inv0 (N := mX8_n) dX8_tree_76 lkX8_62 okX8_n sh_391 rfl (Nat.le_of_ble_eq_true rfl) ?_
    refine t_X8_n hn ?_
    try dsimp only [az_ps]
    refine az_icmpge (t := 139) dX8_tree_79 (by decide) (fun h79 => ?_) (fun h79 => ?_)
    rotate_left 1
    · exact absurd (Int32.le_refl _) h79
    refine az_iloadn dX8_tree_139 rfl ?_
    refine az_iconst (v := 2) dX8_tree_140 (by decide) ?_
    refine az_icmpne (t := 152) dX8_tree_141 (by decide) (fun h141 => ?_) (fun h141 => ?_)
    · rw [if_neg (fun z => h141 z.1)] at hQ
      refine az_iloadn dX8_tree_152 rfl ?_
      refine az_iloadn dX8_tree_153 rfl ?_
      refine az_isub dX8_tree_154 ?_
      refine az_iret dX8_tree_155 rfl ?_
      exact hQ
    · refine az_iloadn dX8_tree_144 rfl ?_
      refine az_ifne (t := 152) dX8_tree_145 (by decide) (fun h145 => ?_) (fun h145 => ?_)
      · rw [if_neg (fun z => h145 z.2)] at hQ
        refine az_iloadn dX8_tree_152 rfl ?_
        refine az_iloadn dX8_tree_153 rfl ?_
        refine az_isub dX8_tree_154 ?_
        refine az_iret dX8_tree_155 rfl ?_
        exact hQ
      · rw [if_pos ⟨h141, h145⟩] at hQ
        refine az_iconst (v := 1) dX8_tree_148 (by decide) ?_
        refine az_goto (t := 155) dX8_tree_149 (by decide) ?_
        refine az_iret dX8_tree_155 rfl ?_
        exact hQ
end ML

/-! the class's nets, tape, past -/
theorem zm_mask_f0 {f : Nat → Bool} {n : Nat} (h : f n = false) : zm_mask f (n + 1) = zm_mask f n := by
  rw [zm_mask_f h]; exact Int32.or_zero
abbrev zc_rd (n0 : Int32) (len : Nat → Int32) (a b v : Int32) : Prop := (0 ≤ a ∧ a < n0) ∧ (0 ≤ b ∧ b < n0) ∧ a ≠ b ∧ 1 ≤ v ∧ v ≤ 1000 ∧ ¬ 0 < len (16 * a.toNatClampNeg + b.toNatClampNeg)
theorem zm_mask_ex (f : Nat → Bool) {n : Nat} (hn : n ≤ 16) : ∃ k, k < 65536 ∧ zm_mask f n = nI k := ⟨zn_mask f n, Nat.lt_of_lt_of_le (zn_lt f n) (zi_pow hn), zm_mask_n f n (by omega)⟩
section CA
variable {X : az_X} {d : Nat} {mem : az_M} {Q : Option az_V → az_M → Prop} {N : Nat}
theorem s_X2_isPost {p : Int32} (hQ : Q (some (.inl (if 0 ≤ p ∧ p < mem 1 0 then 1 else 0))) mem) : az_Sp X d mX2_isPost [.inr 1, .inl p] mem Q := by
  refine az_body (by decide +kernel) (Nat.le_of_ble_eq_true rfl) ?_
  show az_Ev X _ mX2_isPost 0 [some (.inr 1), some (.inl p)] [] mem Q
  refine az_iloadn dX2_isPost_0 rfl ?_
  refine az_iflt (t := 16) dX2_isPost_1 (by decide) (fun h1 => ?_) (fun h1 => ?_)
  · rw [if_neg (fun h => absurd h1 (Int32.not_lt.mpr h.1))] at hQ
    refine az_iconst (v := 0) dX2_isPost_16 (by decide) ?_
    refine az_zret dX2_isPost_17 rfl (by first | exact Or.inl rfl | exact Or.inr rfl | assumption) ?_
    exact hQ
  · have h1' : 0 ≤ p := Int32.not_lt.mp h1
    refine az_iloadn dX2_isPost_4 rfl ?_
    refine az_aloadn dX2_isPost_5 rfl ?_
    refine az_geti dX2_isPost_6 flX2_9 sh_1 rfl ?_
    refine az_icmpge (t := 16) dX2_isPost_9 (by decide) (fun h9 => ?_) (fun h9 => ?_)
    · rw [if_neg (fun h => absurd h9 (Int32.not_le.mpr h.2))] at hQ
      refine az_iconst (v := 0) dX2_isPost_16 (by decide) ?_
      refine az_zret dX2_isPost_17 rfl (by first | exact Or.inl rfl | exact Or.inr rfl | assumption) ?_
      exact hQ
    · rw [if_pos ⟨h1', Int32.not_le.mp h9⟩] at hQ
      refine az_iconst (v := 1) dX2_isPost_12 (by decide) ?_
      refine az_goto (t := 17) dX2_isPost_13 (by decide) ?_
      refine az_zret dX2_isPost_17 rfl (by first | exact Or.inl rfl | exact Or.inr rfl | assumption) ?_
      exact hQ
theorem s_X2_isSet {p : Int32} (hQ : Q (some (.inl (if 0 ≤ p ∧ p < (1 : Int32) <<< (mem 1 0 &&& 31) then 1 else 0))) mem) : az_Sp X d mX2_isSet [.inr 1, .inl p] mem Q := by
  refine az_body (by decide +kernel) (Nat.le_of_ble_eq_true rfl) ?_
  show az_Ev X _ mX2_isSet 0 [some (.inr 1), some (.inl p)] [] mem Q
  refine az_iloadn dX2_isSet_0 rfl ?_
  refine az_iflt (t := 18) dX2_isSet_1 (by decide) (fun h1 => ?_) (fun h1 => ?_)
  · rw [if_neg (fun h => absurd h1 (Int32.not_lt.mpr h.1))] at hQ
    refine az_iconst (v := 0) dX2_isSet_18 (by decide) ?_
    refine az_zret dX2_isSet_19 rfl (by first | exact Or.inl rfl | exact Or.inr rfl | assumption) ?_
    exact hQ
  · have h1' : 0 ≤ p := Int32.not_lt.mp h1
    refine az_iloadn dX2_isSet_4 rfl ?_
    refine az_iconst (v := 1) dX2_isSet_5 (by decide) ?_
    refine az_aloadn dX2_isSet_6 rfl ?_
    refine az_geti dX2_isSet_7 flX2_9 sh_1 rfl ?_
    refine az_ishl dX2_isSet_10 ?_
    refine az_icmpge (t := 18) dX2_isSet_11 (by decide) (fun h11 => ?_) (fun h11 => ?_)
    · rw [if_neg (fun h => absurd h11 (Int32.not_le.mpr h.2))] at hQ
      refine az_iconst (v := 0) dX2_isSet_18 (by decide) ?_
      refine az_zret dX2_isSet_19 rfl (by first | exact Or.inl rfl | exact Or.inr rfl | assumption) ?_
      exact hQ
    · rw [if_pos ⟨h1', Int32.not_le.mp h11⟩] at hQ
      refine az_iconst (v := 1) dX2_isSet_14 (by decide) ?_
      refine az_goto (t := 19) dX2_isSet_15 (by decide) ?_
      refine az_zret dX2_isSet_19 rfl (by first | exact Or.inl rfl | exact Or.inr rfl | assumption) ?_
      exact hQ
theorem s_X2_hasRoad {a b : Nat} (ha : a < 16) (hb : b < 16) (hQ : Q (some (.inl (if 0 < mem 2 (16 * a + b) then 1 else 0))) mem) : az_Sp X d mX2_hasRoad [.inr 1, .inl (nI a), .inl (nI b)] mem Q := by
  refine az_body (by decide +kernel) (Nat.le_of_ble_eq_true rfl) ?_
  show az_Ev X _ mX2_hasRoad 0 [some (.inr 1), some (.inl (nI a)), some (.inl (nI b))] [] mem Q
  refine az_aloadn dX2_hasRoad_0 rfl ?_
  refine az_getr dX2_hasRoad_1 flX2_34 sh_1 rfl ?_
  refine az_bipush (v := 16) dX2_hasRoad_4 (by decide) ?_
  refine az_iloadn dX2_hasRoad_6 rfl ?_
  refine az_imul dX2_hasRoad_7 ?_
  refine az_iloadn dX2_hasRoad_8 rfl ?_
  refine az_iadd dX2_hasRoad_9 ?_
  refine az_iald (16 * a + b) dX2_hasRoad_10 sh_2 (by omega) (by decide) (by simp only [az_lit, nI_add, pk_mul, Nat.add_assoc]) ?_
  refine az_ifle (t := 18) dX2_hasRoad_11 (by decide) (fun h11 => ?_) (fun h11 => ?_)
  · rw [if_neg (Int32.not_lt.mpr h11)] at hQ
    refine az_iconst (v := 0) dX2_hasRoad_18 (by decide) ?_
    refine az_zret dX2_hasRoad_19 rfl (by first | exact Or.inl rfl | exact Or.inr rfl | assumption) ?_
    exact hQ
  · rw [if_pos (Int32.not_le.mp h11)] at hQ
    refine az_iconst (v := 1) dX2_hasRoad_14 (by decide) ?_
    refine az_goto (t := 19) dX2_hasRoad_15 (by decide) ?_
    refine az_zret dX2_hasRoad_19 rfl (by first | exact Or.inl rfl | exact Or.inr rfl | assumption) ?_
    exact hQ
theorem t_X2_hasRoad {a b : Int32} {A B : Nat} (ea : a = nI A) (eb : b = nI B) (ha : A < 16) (hb : B < 16) (hQ : Q (some (.inl (if 0 < mem 2 (16 * A + B) then 1 else 0))) mem) : az_Sp X d mX2_hasRoad [.inr 1, .inl a, .inl b] mem Q := by
  subst ea; subst eb; exact s_X2_hasRoad ha hb hQ
theorem s_X2_hasWord {p : Int32} (hQ : Q (some (.inl (if (mem 1 6 >>> (p &&& 31)) &&& 1 = 1 then 1 else 0))) mem) : az_Sp X d mX2_hasWord [.inr 1, .inl p] mem Q := by
  refine az_body (by decide +kernel) (Nat.le_of_ble_eq_true rfl) ?_
  show az_Ev X _ mX2_hasWord 0 [some (.inr 1), some (.inl p)] [] mem Q
  refine az_aloadn dX2_hasWord_0 rfl ?_
  refine az_geti dX2_hasWord_1 flX2_31 sh_1 rfl ?_
  refine az_iloadn dX2_hasWord_4 rfl ?_
  refine az_ishr dX2_hasWord_5 ?_
  refine az_iconst (v := 1) dX2_hasWord_6 (by decide) ?_
  refine az_iand dX2_hasWord_7 ?_
  refine az_iconst (v := 1) dX2_hasWord_8 (by decide) ?_
  refine az_icmpne (t := 16) dX2_hasWord_9 (by decide) (fun h9 => ?_) (fun h9 => ?_)
  · rw [if_neg h9] at hQ
    refine az_iconst (v := 0) dX2_hasWord_16 (by decide) ?_
    refine az_zret dX2_hasWord_17 rfl (by first | exact Or.inl rfl | exact Or.inr rfl | assumption) ?_
    exact hQ
  · rw [if_pos h9] at hQ
    refine az_iconst (v := 1) dX2_hasWord_12 (by decide) ?_
    refine az_goto (t := 17) dX2_hasWord_13 (by decide) ?_
    refine az_zret dX2_hasWord_17 rfl (by first | exact Or.inl rfl | exact Or.inr rfl | assumption) ?_
    exact hQ
theorem s_X2_roadCanBe {a b v : Int32} (hn : mem 1 0 = nI N) (hN : N ≤ 16) (hQ : Q (some (.inl (if zc_rd (mem 1 0) (mem 2) a b v then 1 else 0))) mem) : az_Sp X (d + 1) mX2_roadCanBe [.inr 1, .inl a, .inl b, .inl v] mem Q := by
  refine az_body (by decide +kernel) (Nat.le_of_ble_eq_true rfl) ?_
  show az_Ev X _ mX2_roadCanBe 0 [some (.inr 1), some (.inl a), some (.inl b), some (.inl v)] [] mem Q
  refine az_aloadn dX2_roadCanBe_0 rfl ?_
  refine az_iloadn dX2_roadCanBe_1 rfl ?_
  refine az_inv1 (N := mX2_isPost) dX2_roadCanBe_2 lkX2_62 okX2_isPost sh_1 rfl (Nat.le_of_ble_eq_true rfl) ?_
  refine s_X2_isPost ?_
  try dsimp only [az_ps]
  refine az_ifeq (t := 46) dX2_roadCanBe_5 (by decide) (fun h5 => ?_) (fun h5 => ?_)
  · replace h5 := zb_z h5
    rw [if_neg (fun h => h5 h.1)] at hQ
    refine az_iconst (v := 0) dX2_roadCanBe_46 (by decide) ?_
    refine az_zret dX2_roadCanBe_47 rfl (by first | exact Or.inl rfl | exact Or.inr rfl | assumption) ?_
    exact hQ
  · replace h5 := zb_n h5
    refine az_aloadn dX2_roadCanBe_8 rfl ?_
    refine az_iloadn dX2_roadCanBe_9 rfl ?_
    refine az_inv1 (N := mX2_isPost) dX2_roadCanBe_10 lkX2_62 okX2_isPost sh_1 rfl (Nat.le_of_ble_eq_true rfl) ?_
    refine s_X2_isPost ?_
    try dsimp only [az_ps]
    refine az_ifeq (t := 46) dX2_roadCanBe_13 (by decide) (fun h13 => ?_) (fun h13 => ?_)
    · replace h13 := zb_z h13
      rw [if_neg (fun h => h13 h.2.1)] at hQ
      refine az_iconst (v := 0) dX2_roadCanBe_46 (by decide) ?_
      refine az_zret dX2_roadCanBe_47 rfl (by first | exact Or.inl rfl | exact Or.inr rfl | assumption) ?_
      exact hQ
    · replace h13 := zb_n h13
      refine az_iloadn dX2_roadCanBe_16 rfl ?_
      refine az_iloadn dX2_roadCanBe_17 rfl ?_
      refine az_icmpeq (t := 46) dX2_roadCanBe_18 (by decide) (fun h18 => ?_) (fun h18 => ?_)
      · rw [if_neg (fun h => h.2.2.1 h18)] at hQ
        refine az_iconst (v := 0) dX2_roadCanBe_46 (by decide) ?_
        refine az_zret dX2_roadCanBe_47 rfl (by first | exact Or.inl rfl | exact Or.inr rfl | assumption) ?_
        exact hQ
      · refine az_iloadn dX2_roadCanBe_21 rfl ?_
        refine az_iconst (v := 1) dX2_roadCanBe_22 (by decide) ?_
        refine az_icmplt (t := 46) dX2_roadCanBe_23 (by decide) (fun h23 => ?_) (fun h23 => ?_)
        · rw [if_neg (fun h => absurd h23 (Int32.not_lt.mpr h.2.2.2.1))] at hQ
          refine az_iconst (v := 0) dX2_roadCanBe_46 (by decide) ?_
          refine az_zret dX2_roadCanBe_47 rfl (by first | exact Or.inl rfl | exact Or.inr rfl | assumption) ?_
          exact hQ
        · refine az_iloadn dX2_roadCanBe_26 rfl ?_
          refine az_sipush (v := 1000) dX2_roadCanBe_27 (by decide) ?_
          refine az_icmpgt (t := 46) dX2_roadCanBe_30 (by decide) (fun h30 => ?_) (fun h30 => ?_)
          · rw [if_neg (fun h => absurd h30 (Int32.not_lt.mpr h.2.2.2.2.1))] at hQ
            refine az_iconst (v := 0) dX2_roadCanBe_46 (by decide) ?_
            refine az_zret dX2_roadCanBe_47 rfl (by first | exact Or.inl rfl | exact Or.inr rfl | assumption) ?_
            exact hQ
          · have h5' := h5
            have h13' := h13
            rw [hn] at h5' h13'
            have ea := zi_of (by omega) h5'
            have eb := zi_of (by omega) h13'
            refine az_aloadn dX2_roadCanBe_33 rfl ?_
            refine az_iloadn dX2_roadCanBe_34 rfl ?_
            refine az_iloadn dX2_roadCanBe_35 rfl ?_
            refine az_inv2 (N := mX2_hasRoad) dX2_roadCanBe_36 lkX2_66 okX2_hasRoad sh_1 rfl (Nat.le_of_ble_eq_true rfl) ?_
            refine t_X2_hasRoad ea.2 eb.2 (by omega) (by omega) ?_
            try dsimp only [az_ps]
            refine az_ifne (t := 46) dX2_roadCanBe_39 (by decide) (fun h39 => ?_) (fun h39 => ?_)
            · replace h39 := zb_n h39
              rw [if_neg (fun h => h.2.2.2.2.2 h39)] at hQ
              refine az_iconst (v := 0) dX2_roadCanBe_46 (by decide) ?_
              refine az_zret dX2_roadCanBe_47 rfl (by first | exact Or.inl rfl | exact Or.inr rfl | assumption) ?_
              exact hQ
            · replace h39 := zb_z h39
              rw [if_pos ⟨h5, h13, h18, Int32.not_lt.mp h23, Int32.not_lt.mp h30, h39⟩] at hQ
              refine az_iconst (v := 1) dX2_roadCanBe_42 (by decide) ?_
              refine az_goto (t := 47) dX2_roadCanBe_43 (by decide) ?_
              refine az_zret dX2_roadCanBe_47 rfl (by first | exact Or.inl rfl | exact Or.inr rfl | assumption) ?_
              exact hQ
theorem s_X2_layRoad {a b v : Int32} {A B : Nat} (ea : a = nI A) (eb : b = nI B) (ha : A < 16) (hb : B < 16) (hQ : Q none (az_w (az_w mem 2 (16 * A + B) v) 2 (16 * B + A) v)) : az_Sp X d mX2_layRoad [.inr 1, .inl a, .inl b, .inl v] mem Q := by
  subst ea; subst eb
  refine az_body (by decide +kernel) (Nat.le_of_ble_eq_true rfl) ?_
  show az_Ev X _ mX2_layRoad 0 [some (.inr 1), some (.inl (nI A)), some (.inl (nI B)), some (.inl v)] [] mem Q
  refine az_aloadn dX2_layRoad_0 rfl ?_
  refine az_getr dX2_layRoad_1 flX2_34 sh_1 rfl ?_
  refine az_bipush (v := 16) dX2_layRoad_4 (by decide) ?_
  refine az_iloadn dX2_layRoad_6 rfl ?_
  refine az_imul dX2_layRoad_7 ?_
  refine az_iloadn dX2_layRoad_8 rfl ?_
  refine az_iadd dX2_layRoad_9 ?_
  refine az_iloadn dX2_layRoad_10 rfl ?_
  refine az_iast (16 * A + B) dX2_layRoad_11 sh_2 (by omega) (by decide) (by simp only [az_lit, nI_add, pk_mul, Nat.add_assoc]) ?_
  refine az_aloadn dX2_layRoad_12 rfl ?_
  refine az_getr dX2_layRoad_13 flX2_34 sh_1 rfl ?_
  refine az_bipush (v := 16) dX2_layRoad_16 (by decide) ?_
  refine az_iloadn dX2_layRoad_18 rfl ?_
  refine az_pc 19 (by decide) ?_
  refine az_imul dX2_layRoad_19 ?_
  refine az_iloadn dX2_layRoad_20 rfl ?_
  refine az_iadd dX2_layRoad_21 ?_
  refine az_iloadn dX2_layRoad_22 rfl ?_
  refine az_iast (16 * B + A) dX2_layRoad_23 sh_2 (by omega) (by decide) (by simp only [az_lit, nI_add, pk_mul, Nat.add_assoc]) ?_
  refine az_vret dX2_layRoad_24 rfl ?_
  exact hQ
theorem s_X2_besideBits {p : Nat} (hn : mem 1 0 = nI N) (hN : N ≤ 16) (hp : p < 16) (hQ : Q (some (.inl (zm_mask (zm_bf (mem 2) p) N))) mem) : az_Sp X (d + 1) mX2_besideBits [.inr 1, .inl (nI p)] mem Q := by
  refine az_body (by decide +kernel) (Nat.le_of_ble_eq_true rfl) ?_
  show az_Ev X _ mX2_besideBits 0 [some (.inr 1), some (.inl (nI p)), none, none] [] mem Q
  refine az_iconst (v := 0) dX2_besideBits_0 (by decide) ?_
  refine az_istoren dX2_besideBits_1 (by decide) ?_
  dsimp only [List.set]
  refine az_iconst (v := 0) dX2_besideBits_2 (by decide) ?_
  refine az_istoren dX2_besideBits_3 (by decide) ?_
  dsimp only [List.set]
  skip
  refine az_up (fun i => az_Ev X (d + 1) mX2_besideBits 4 [some (.inr 1), some (.inl (nI p)), some (.inl (zm_mask (zm_bf (mem 2) p) i)), some (.inl (nI i))] [] mem Q) N 0 (by omega) (fun i _ hi ih => ?_) ?_
  · refine az_iloadn dX2_besideBits_4 rfl ?_
    refine az_aloadn dX2_besideBits_5 rfl ?_
    refine az_geti dX2_besideBits_6 flX2_9 sh_1 rfl ?_
    rw [hn]
    refine az_icmpge (t := 33) dX2_besideBits_9 (by decide) (fun h9 => ?_) (fun h9 => ?_)
    · exact absurd h9 (nI_ge (by omega) (by omega))
    refine az_aloadn dX2_besideBits_12 rfl ?_
    refine az_iloadn dX2_besideBits_13 rfl ?_
    refine az_iloadn dX2_besideBits_14 rfl ?_
    refine az_inv2 (N := mX2_hasRoad) dX2_besideBits_15 lkX2_66 okX2_hasRoad sh_1 rfl (Nat.le_of_ble_eq_true rfl) ?_
    refine s_X2_hasRoad (by omega) (by omega) ?_
    try dsimp only [az_ps]
    refine az_ifeq (t := 27) dX2_besideBits_18 (by decide) (fun h18 => ?_) (fun h18 => ?_)
    · replace h18 := zb_z h18
      rw [zm_mask_f0 (by simpa [zm_bf] using h18)] at ih
      refine az_iinc (w := 1) dX2_besideBits_27 rfl (by decide) (by decide) ?_
      dsimp only [List.set]
      refine az_goto (t := 4) dX2_besideBits_30 (by decide) ?_
      rw [nI_1]; exact ih
    · replace h18 := zb_n h18
      rw [zm_mask_t (by simpa [zm_bf] using h18)] at ih
      refine az_iloadn dX2_besideBits_21 rfl ?_
      refine az_iconst (v := 1) dX2_besideBits_22 (by decide) ?_
      refine az_iloadn dX2_besideBits_23 rfl ?_
      refine az_ishl dX2_besideBits_24 ?_
      refine az_ior dX2_besideBits_25 ?_
      refine az_istoren dX2_besideBits_26 (by decide) ?_
      dsimp only [List.set]
      refine az_iinc (w := 1) dX2_besideBits_27 rfl (by decide) (by decide) ?_
      dsimp only [List.set]
      refine az_goto (t := 4) dX2_besideBits_30 (by decide) ?_
      rw [nI_1]; exact ih
  · refine az_iloadn dX2_besideBits_4 rfl ?_
    refine az_aloadn dX2_besideBits_5 rfl ?_
    refine az_geti dX2_besideBits_6 flX2_9 sh_1 rfl ?_
    rw [hn]
    refine az_icmpge (t := 33) dX2_besideBits_9 (by decide) (fun h9 => ?_) (fun h9 => ?_)
    rotate_left 1
    · exact absurd (Int32.le_refl _) h9
    refine az_iloadn dX2_besideBits_33 rfl ?_
    refine az_iret dX2_besideBits_34 rfl ?_
    exact hQ
theorem s_X2_countRoads (hn : mem 1 0 = nI N) (hN : N ≤ 16) (hQ : Q (some (.inl (zm_ends (mem 2) N / 2))) mem) : az_Sp X (d + 2) mX2_countRoads [.inr 1] mem Q := by
  refine az_body (by decide +kernel) (Nat.le_of_ble_eq_true rfl) ?_
  show az_Ev X _ mX2_countRoads 0 [some (.inr 1), none, none] [] mem Q
  refine az_iconst (v := 0) dX2_countRoads_0 (by decide) ?_
  refine az_istoren dX2_countRoads_1 (by decide) ?_
  dsimp only [List.set]
  refine az_iconst (v := 0) dX2_countRoads_2 (by decide) ?_
  refine az_istoren dX2_countRoads_3 (by decide) ?_
  dsimp only [List.set]
  skip
  refine az_up (fun i => az_Ev X (d + 2) mX2_countRoads 4 [some (.inr 1), some (.inl (zm_sum (fun p => zm_many (zm_mask (zm_bf (mem 2) p) N)) i)), some (.inl (nI i))] [] mem Q) N 0 (by omega) (fun i _ hi ih => ?_) ?_
  · rw [zm_sum] at ih
    refine az_iloadn dX2_countRoads_4 rfl ?_
    refine az_aloadn dX2_countRoads_5 rfl ?_
    refine az_geti dX2_countRoads_6 flX2_9 sh_1 rfl ?_
    rw [hn]
    refine az_icmpge (t := 29) dX2_countRoads_9 (by decide) (fun h9 => ?_) (fun h9 => ?_)
    · exact absurd h9 (nI_ge (by omega) (by omega))
    refine az_iloadn dX2_countRoads_12 rfl ?_
    refine az_aloadn dX2_countRoads_13 rfl ?_
    refine az_iloadn dX2_countRoads_14 rfl ?_
    refine az_inv1 (N := mX2_besideBits) dX2_countRoads_15 lkX2_70 okX2_besideBits sh_1 rfl (Nat.le_of_ble_eq_true rfl) ?_
    refine s_X2_besideBits hn hN (by omega) ?_
    try dsimp only [az_ps]
    refine az_ins1 (N := mJ6_bitCount_0f7a4) dX2_countRoads_18 lsX2_74 okJ6_bitCount_0f7a4 (Nat.le_of_ble_eq_true rfl) ?_
    refine t_bitCount (zm_mask_ex _ hN) ?_
    try dsimp only [az_ps]
    refine az_iadd dX2_countRoads_21 ?_
    refine az_istoren dX2_countRoads_22 (by decide) ?_
    dsimp only [List.set]
    refine az_iinc (w := 1) dX2_countRoads_23 rfl (by decide) (by decide) ?_
    dsimp only [List.set]
    refine az_goto (t := 4) dX2_countRoads_26 (by decide) ?_
    rw [nI_1]; exact ih
  · refine az_iloadn dX2_countRoads_4 rfl ?_
    refine az_aloadn dX2_countRoads_5 rfl ?_
    refine az_geti dX2_countRoads_6 flX2_9 sh_1 rfl ?_
    rw [hn]
    refine az_icmpge (t := 29) dX2_countRoads_9 (by decide) (fun h9 => ?_) (fun h9 => ?_)
    rotate_left 1
    · exact absurd (Int32.le_refl _) h9
    refine az_iloadn dX2_countRoads_29 rfl ?_
    refine az_iconst (v := 2) dX2_countRoads_30 (by decide) ?_
    refine az_idiv dX2_countRoads_31 (by decide) ?_
    refine az_iret dX2_countRoads_32 rfl ?_
    exact hQ
theorem s_X2_need (hl : mem 1 4 = 0 ∨ mem 1 4 = 1) (hQ : Q (some (.inl (zm_need (mem 1 3) (mem 1 4)))) mem) : az_Sp X d mX2_need [.inr 1] mem Q := by
  unfold zm_need at hQ
  refine az_body (by decide +kernel) (Nat.le_of_ble_eq_true rfl) ?_
  show az_Ev X _ mX2_need 0 [some (.inr 1)] [] mem Q
  refine az_aloadn dX2_need_0 rfl ?_
  refine az_geti dX2_need_1 flX2_24 sh_1 rfl ?_
  refine az_ifeq (t := 18) dX2_need_4 (by decide) (fun h4 => ?_) (fun h4 => ?_)
  · rw [h4, if_neg (by decide), Int32.one_mul, Int32.add_comm] at hQ
    refine az_aloadn dX2_need_18 rfl ?_
    refine az_geti dX2_need_19 flX2_21 sh_1 rfl ?_
    refine az_iconst (v := 1) dX2_need_22 (by decide) ?_
    refine az_iadd dX2_need_23 ?_
    refine az_iret dX2_need_24 rfl ?_
    exact hQ
  · rw [hl.resolve_left h4, if_pos rfl, Int32.add_comm] at hQ
    refine az_iconst (v := 2) dX2_need_7 (by decide) ?_
    refine az_aloadn dX2_need_8 rfl ?_
    refine az_geti dX2_need_9 flX2_21 sh_1 rfl ?_
    refine az_imul dX2_need_12 ?_
    refine az_iconst (v := 1) dX2_need_13 (by decide) ?_
    refine az_iadd dX2_need_14 ?_
    refine az_goto (t := 24) dX2_need_15 (by decide) ?_
    refine az_iret dX2_need_24 rfl ?_
    exact hQ
/-- a net: its object and its five rows -/
def zc_net (b : Nat) : Prop := az_Ob b 2 (az_net b) ∧ az_Ar (b + 1) 256 ∧ az_Ar (b + 2) 16 ∧ az_Ar (b + 3) 16 ∧ az_Ar (b + 4) 16 ∧ az_Ar (b + 5) 16
theorem zc_net_1 : zc_net 1 := ⟨sh_1, sh_2, sh_3, sh_4, sh_5, sh_6⟩
theorem zc_net_p {i : Nat} (h : i < 60) : zc_net (9 + 6 * i) := by
  have e : ∀ q, q < 6 → 9 + 6 * i + q < az_K ∧ az_sh (9 + 6 * i + q) = if q = 0 then .inr (.inl (2, az_net (9 + 6 * i + q))) else .inl (az_arr q) := by
    intro q hq
    refine ⟨by unfold az_K; omega, ?_⟩
    unfold az_sh
    rw [if_neg (by omega), if_pos (by omega), show (9 + 6 * i + q - 9) % 6 = q by omega]
  refine ⟨?_, ?_, ?_, ?_, ?_, ?_⟩
  · have := e 0 (by decide)
    exact ⟨this.1, by rw [show 9 + 6 * i = 9 + 6 * i + 0 from rfl, this.2]; rfl⟩
  · have := e 1 (by decide); exact ⟨this.1, this.2⟩
  · have := e 2 (by decide); exact ⟨this.1, this.2⟩
  · have := e 3 (by decide); exact ⟨this.1, this.2⟩
  · have := e 4 (by decide); exact ⟨this.1, this.2⟩
  · have := e 5 (by decide); exact ⟨this.1, this.2⟩
/-- net b is now as net b2 was -/
def zc_as (b b2 : Nat) (mem m' : az_M) : Prop := (∀ j, j < 7 → m' b j = mem b2 j) ∧ (∀ i, i < 256 → m' (b + 1) i = mem (b2 + 1) i) ∧ ∀ q i, 2 ≤ q → q < 6 → i < 16 → m' (b + q) i = mem (b2 + q) i
theorem s_X2_become {b b2 : Nat} (h1 : zc_net b) (h2 : zc_net b2) (hz4 : mem b2 4 = 0 ∨ mem b2 4 = 1) (hz5 : mem b2 5 = 0 ∨ mem b2 5 = 1) (hap : b + 6 ≤ b2 ∨ b2 + 6 ≤ b) (hQ : ∀ m', (∀ k, k < b ∨ b + 6 ≤ k → m' k = mem k) → zc_as b b2 mem m' → Q none m') : az_Sp X (d + 2) mX2_become [.inr b, .inr b2] mem Q := by
  obtain ⟨ob, r1, r2, r3, r4, r5⟩ := h1
  obtain ⟨ob2, q1, q2, q3, q4, q5⟩ := h2
  have hne : b2 ≠ b := by omega
  refine az_body (by decide +kernel) (Nat.le_of_ble_eq_true rfl) ?_
  show az_Ev X _ mX2_become 0 [some (.inr b), some (.inr b2)] [] mem Q
  refine az_aloadn dX2_become_0 rfl ?_
  refine az_aloadn dX2_become_1 rfl ?_
  refine az_geti dX2_become_2 flX2_9 ob2 rfl ?_
  refine az_puti dX2_become_5 plX2_9 ob rfl ?_
  refine az_aloadn dX2_become_8 rfl ?_
  refine az_aloadn dX2_become_9 rfl ?_
  refine az_geti dX2_become_10 flX2_15 ob2 rfl ?_
  refine az_puti dX2_become_13 plX2_15 ob rfl ?_
  refine az_aloadn dX2_become_16 rfl ?_
  refine az_aloadn dX2_become_17 rfl ?_
  refine az_geti dX2_become_18 flX2_18 ob2 rfl ?_
  refine az_puti dX2_become_21 plX2_18 ob rfl ?_
  refine az_aloadn dX2_become_24 rfl ?_
  refine az_pc 25 (by decide) ?_
  refine az_aloadn dX2_become_25 rfl ?_
  refine az_geti dX2_become_26 flX2_21 ob2 rfl ?_
  refine az_puti dX2_become_29 plX2_21 ob rfl ?_
  refine az_aloadn dX2_become_32 rfl ?_
  refine az_aloadn dX2_become_33 rfl ?_
  refine az_geti dX2_become_34 flX2_24 ob2 rfl ?_
  refine az_putz dX2_become_37 plX2_24 ob rfl (by simp only [az_w_ne _ hne]; exact hz4) ?_
  refine az_aloadn dX2_become_40 rfl ?_
  refine az_aloadn dX2_become_41 rfl ?_
  refine az_geti dX2_become_42 flX2_28 ob2 rfl ?_
  refine az_putz dX2_become_45 plX2_28 ob rfl (by simp only [az_w_ne _ hne]; exact hz5) ?_
  refine az_aloadn dX2_become_48 rfl ?_
  refine az_aloadn dX2_become_49 rfl ?_
  refine az_geti dX2_become_50 flX2_31 ob2 rfl ?_
  refine az_pc 53 (by decide) ?_
  refine az_puti dX2_become_53 plX2_31 ob rfl ?_
  refine az_aloadn dX2_become_56 rfl ?_
  refine az_getr dX2_become_57 flX2_34 ob2 rfl ?_
  refine az_iconst (v := 0) dX2_become_60 (by decide) ?_
  refine az_aloadn dX2_become_61 rfl ?_
  refine az_getr dX2_become_62 flX2_34 ob rfl ?_
  refine az_iconst (v := 0) dX2_become_65 (by decide) ?_
  refine az_sipush (v := 256) dX2_become_66 (by decide) ?_
  refine az_copy (M := mX2_become) (pc := 69) dX2_become_69 lsX2_56 q1 r1 0 0 256 (by omega) (by omega) (by decide) (by decide) rfl rfl rfl (Nat.le_of_ble_eq_true rfl) (by omega) az_acw ?_
  refine az_aloadn dX2_become_72 rfl ?_
  refine az_getr dX2_become_73 flX2_38 ob2 rfl ?_
  refine az_iconst (v := 0) dX2_become_76 (by decide) ?_
  refine az_aloadn dX2_become_77 rfl ?_
  refine az_getr dX2_become_78 flX2_38 ob rfl ?_
  refine az_pc 81 (by decide) ?_
  refine az_iconst (v := 0) dX2_become_81 (by decide) ?_
  refine az_bipush (v := 16) dX2_become_82 (by decide) ?_
  refine az_copy (M := mX2_become) (pc := 84) dX2_become_84 lsX2_56 q2 r2 0 0 16 (by omega) (by omega) (by decide) (by decide) rfl rfl rfl (Nat.le_of_ble_eq_true rfl) (by omega) az_acw ?_
  refine az_aloadn dX2_become_87 rfl ?_
  refine az_getr dX2_become_88 flX2_41 ob2 rfl ?_
  refine az_iconst (v := 0) dX2_become_91 (by decide) ?_
  refine az_aloadn dX2_become_92 rfl ?_
  refine az_getr dX2_become_93 flX2_41 ob rfl ?_
  refine az_iconst (v := 0) dX2_become_96 (by decide) ?_
  refine az_bipush (v := 16) dX2_become_97 (by decide) ?_
  refine az_copy (M := mX2_become) (pc := 99) dX2_become_99 lsX2_56 q3 r3 0 0 16 (by omega) (by omega) (by decide) (by decide) rfl rfl rfl (Nat.le_of_ble_eq_true rfl) (by omega) az_acw ?_
  refine az_aloadn dX2_become_102 rfl ?_
  refine az_getr dX2_become_103 flX2_44 ob2 rfl ?_
  refine az_iconst (v := 0) dX2_become_106 (by decide) ?_
  refine az_pc 107 (by decide) ?_
  refine az_aloadn dX2_become_107 rfl ?_
  refine az_getr dX2_become_108 flX2_44 ob rfl ?_
  refine az_iconst (v := 0) dX2_become_111 (by decide) ?_
  refine az_bipush (v := 16) dX2_become_112 (by decide) ?_
  refine az_copy (M := mX2_become) (pc := 114) dX2_become_114 lsX2_56 q4 r4 0 0 16 (by omega) (by omega) (by decide) (by decide) rfl rfl rfl (Nat.le_of_ble_eq_true rfl) (by omega) az_acw ?_
  refine az_aloadn dX2_become_117 rfl ?_
  refine az_getr dX2_become_118 flX2_47 ob2 rfl ?_
  refine az_iconst (v := 0) dX2_become_121 (by decide) ?_
  refine az_aloadn dX2_become_122 rfl ?_
  refine az_getr dX2_become_123 flX2_47 ob rfl ?_
  refine az_iconst (v := 0) dX2_become_126 (by decide) ?_
  refine az_bipush (v := 16) dX2_become_127 (by decide) ?_
  refine az_copy (M := mX2_become) (pc := 129) dX2_become_129 lsX2_56 q5 r5 0 0 16 (by omega) (by omega) (by decide) (by decide) rfl rfl rfl (Nat.le_of_ble_eq_true rfl) (by omega) az_acw ?_
  refine az_vret dX2_become_132 rfl ?_
  skip
  refine hQ _ (fun k hk => ?_) ⟨fun j hj => ?_, fun i hi => ?_, fun q i hq1 hq2 hi => ?_⟩
  · have n0 : k ≠ b := by omega
    have n1 : k ≠ b + 1 := by omega
    have n2 : k ≠ b + 2 := by omega
    have n3 : k ≠ b + 3 := by omega
    have n4 : k ≠ b + 4 := by omega
    have n5 : k ≠ b + 5 := by omega
    simp only [az_st_eq, if_neg n1, if_neg n2, if_neg n3, if_neg n4, if_neg n5, az_w_ne _ n0]
  · have n1 : b ≠ b + 1 := by omega
    have n2 : b ≠ b + 2 := by omega
    have n3 : b ≠ b + 3 := by omega
    have n4 : b ≠ b + 4 := by omega
    have n5 : b ≠ b + 5 := by omega
    simp only [az_st_eq, if_neg n1, if_neg n2, if_neg n3, if_neg n4, if_neg n5]
    rcases (show j = 0 ∨ j = 1 ∨ j = 2 ∨ j = 3 ∨ j = 4 ∨ j = 5 ∨ j = 6 by omega) with rfl | rfl | rfl | rfl | rfl | rfl | rfl <;> simp [az_w_eq, hne]
  · have n1 : b2 + 1 ≠ b := by omega
    have n2 : b + 1 ≠ b + 2 := by omega
    have n3 : b + 1 ≠ b + 3 := by omega
    have n4 : b + 1 ≠ b + 4 := by omega
    have n5 : b + 1 ≠ b + 5 := by omega
    simp only [az_st_eq, if_neg n2, if_neg n3, if_neg n4, if_neg n5, if_true, az_w_ne _ n1]
    rw [pk_cpy_in (Nat.zero_le _) (by omega), Nat.zero_add, Nat.sub_zero]
  · rcases (show q = 2 ∨ q = 3 ∨ q = 4 ∨ q = 5 by omega) with rfl | rfl | rfl | rfl
    · have m1 : b2 + 2 ≠ b := by omega
      have m2 : b2 + 2 ≠ b + 1 := by omega
      have n3 : b + 2 ≠ b + 3 := by omega
      have n4 : b + 2 ≠ b + 4 := by omega
      have n5 : b + 2 ≠ b + 5 := by omega
      simp only [az_st_eq, if_neg n3, if_neg n4, if_neg n5, if_true, if_neg m2, az_w_ne _ m1]
      rw [pk_cpy_in (Nat.zero_le _) (by omega), Nat.zero_add, Nat.sub_zero]
    · have m1 : b2 + 3 ≠ b := by omega
      have m2 : b2 + 3 ≠ b + 1 := by omega
      have m3 : b2 + 3 ≠ b + 2 := by omega
      have n4 : b + 3 ≠ b + 4 := by omega
      have n5 : b + 3 ≠ b + 5 := by omega
      simp only [az_st_eq, if_neg n4, if_neg n5, if_true, if_neg m2, if_neg m3, az_w_ne _ m1]
      rw [pk_cpy_in (Nat.zero_le _) (by omega), Nat.zero_add, Nat.sub_zero]
    · have m1 : b2 + 4 ≠ b := by omega
      have m2 : b2 + 4 ≠ b + 1 := by omega
      have m3 : b2 + 4 ≠ b + 2 := by omega
      have m4 : b2 + 4 ≠ b + 3 := by omega
      have n5 : b + 4 ≠ b + 5 := by omega
      simp only [az_st_eq, if_neg n5, if_true, if_neg m2, if_neg m3, if_neg m4, az_w_ne _ m1]
      rw [pk_cpy_in (Nat.zero_le _) (by omega), Nat.zero_add, Nat.sub_zero]
    · have m1 : b2 + 5 ≠ b := by omega
      have m2 : b2 + 5 ≠ b + 1 := by omega
      have m3 : b2 + 5 ≠ b + 2 := by omega
      have m4 : b2 + 5 ≠ b + 3 := by omega
      have m5 : b2 + 5 ≠ b + 4 := by omega
      simp only [az_st_eq, if_true, if_neg m2, if_neg m3, if_neg m4, if_neg m5, az_w_ne _ m1]
      rw [pk_cpy_in (Nat.zero_le _) (by omega), Nat.zero_add, Nat.sub_zero]
end CA

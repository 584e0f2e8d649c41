/-! the model's small methods -/
theorem az_lit (n : Nat) : (OfNat.ofNat n : Int32) = nI n := rfl
theorem az_up (P : Nat → Prop) (e i0 : Nat) (hi : i0 ≤ e) (hs : ∀ i, i0 ≤ i → i < e → P (i + 1) → P i) (he : P e) : P i0 := by
  obtain ⟨k, rfl⟩ := Nat.exists_eq_add_of_le hi
  induction k with
  | zero => exact he
  | succ k ih => exact ih (Nat.le_add_right _ _) (fun i h1 h2 h3 => hs i h1 (by omega) h3) (hs (i0 + k) (Nat.le_add_right _ _) (by omega) he)
theorem zb_z {c : Prop} [Decidable c] (h : (if c then (1 : Int32) else 0) = 0) : ¬ c := by
  intro hc; rw [if_pos hc] at h; exact absurd h (by decide)
theorem zb_n {c : Prop} [Decidable c] (h : ¬ (if c then (1 : Int32) else 0) = 0) : c := by
  by_cases hc : c
  · exact hc
  · rw [if_neg hc] at h; exact absurd rfl h
theorem zb_01 {c : Prop} [Decidable c] : (if c then (1 : Int32) else 0) = 0 ∨ (if c then (1 : Int32) else 0) = 1 := by
  by_cases h : c
  · exact Or.inr (if_pos h)
  · exact Or.inl (if_neg h)
def zm_mask (f : Nat → Bool) : Nat → Int32
  | 0 => 0
  | n + 1 => zm_mask f n ||| (if f n then 1 <<< (nI n &&& 31) else 0)
theorem zm_mask_t {f : Nat → Bool} {n : Nat} (h : f n = true) : zm_mask f (n + 1) = zm_mask f n ||| (1 <<< (nI n &&& 31)) := by rw [zm_mask, if_pos h]
theorem zm_mask_f {f : Nat → Bool} {n : Nat} (h : f n = false) : zm_mask f (n + 1) = zm_mask f n ||| 0 := by rw [zm_mask, if_neg (by rw [h]; decide)]
def zm_sum (f : Nat → Int32) : Nat → Int32
  | 0 => 0
  | n + 1 => zm_sum f n + f n
def zm_many (x : Int32) : Int32 := zm_sum (fun k => (x >>> (nI k &&& 31)) &&& 1) 16
/-- m parts a and b, by the answers an -/
def zm_pf (an : Nat → Int32) (a b m : Nat) : Bool := !decide (an (16 * m + a) = an (16 * m + b))
/-- m says yes of p: no is 1000000 for kind 0, else 0 -/
def zm_yf (kd : Int32) (an : Nat → Int32) (p m : Nat) : Bool := !decide (an (16 * m + p) = if kd = 0 then 1000000 else 0)
def zm_bf (len : Nat → Int32) (p q : Nat) : Bool := decide (0 < len (16 * p + q))
def zm_need (f l : Int32) : Int32 := 1 + (if l = 1 then 2 else 1) * f
/-- the state's rows of lengths -/
def zm_len (S : Nat → Int32) : Nat → Int32 := fun i => S (7 + i)
section MA
variable {X : az_X} {d : Nat} {mem : az_M} {Q : Option az_V → az_M → Prop} {N : Nat}
theorem s_X8_n (hQ : Q (some (.inl (mem 392 0))) mem) : az_Sp X d mX8_n [.inr 391] mem Q := by
  refine az_body (by decide +kernel) (Nat.le_of_ble_eq_true rfl) ?_
  show az_Ev X _ mX8_n 0 [some (.inr 391)] [] mem Q
  refine az_aloadn dX8_n_0 rfl ?_
  refine az_getr dX8_n_1 flX8_7 sh_391 rfl ?_
  refine az_iconst (v := 0) dX8_n_4 (by decide) ?_
  refine az_iald (0) dX8_n_5 sh_392 (by omega) (by decide) (by simp only [az_lit, nI_add, pk_mul, Nat.add_assoc]) ?_
  refine az_iret dX8_n_6 rfl ?_
  exact hQ
theorem t_X8_n (hn : mem 392 0 = nI N) (hQ : Q (some (.inl (nI N))) mem) : az_Sp X d mX8_n [.inr 391] mem Q := s_X8_n (by rw [hn]; exact hQ)
theorem s_X8_isPost {p : Int32} (hQ : Q (some (.inl (if 0 ≤ p ∧ p < mem 392 0 then 1 else 0))) mem) : az_Sp X (d + 1) mX8_isPost [.inr 391, .inl p] mem Q := by
  refine az_body (by decide +kernel) (Nat.le_of_ble_eq_true rfl) ?_
  show az_Ev X _ mX8_isPost 0 [some (.inr 391), some (.inl p)] [] mem Q
  refine az_iloadn dX8_isPost_0 rfl ?_
  refine az_iflt (t := 16) dX8_isPost_1 (by decide) (fun h1 => ?_) (fun h1 => ?_)
  · rw [if_neg (fun h => absurd h1 (Int32.not_lt.mpr h.1))] at hQ
    refine az_iconst (v := 0) dX8_isPost_16 (by decide) ?_
    refine az_zret dX8_isPost_17 rfl (by first | exact Or.inl rfl | exact Or.inr rfl | assumption) ?_
    exact hQ
  · have h1' : 0 ≤ p := Int32.not_lt.mp h1
    refine az_iloadn dX8_isPost_4 rfl ?_
    refine az_aloadn dX8_isPost_5 rfl ?_
    refine az_inv0 (N := mX8_n) dX8_isPost_6 lkX8_62 okX8_n sh_391 rfl (Nat.le_of_ble_eq_true rfl) ?_
    refine s_X8_n ?_
    try dsimp only [az_ps]
    refine az_icmpge (t := 16) dX8_isPost_9 (by decide) (fun h9 => ?_) (fun h9 => ?_)
    · rw [if_neg (fun h => absurd h9 (Int32.not_le.mpr h.2))] at hQ
      refine az_iconst (v := 0) dX8_isPost_16 (by decide) ?_
      refine az_zret dX8_isPost_17 rfl (by first | exact Or.inl rfl | exact Or.inr rfl | assumption) ?_
      exact hQ
    · rw [if_pos ⟨h1', Int32.not_le.mp h9⟩] at hQ
      refine az_iconst (v := 1) dX8_isPost_12 (by decide) ?_
      refine az_goto (t := 17) dX8_isPost_13 (by decide) ?_
      refine az_zret dX8_isPost_17 rfl (by first | exact Or.inl rfl | exact Or.inr rfl | assumption) ?_
      exact hQ
theorem s_X8_isSet {p : Int32} (hQ : Q (some (.inl (if 0 ≤ p ∧ p < (1 : Int32) <<< (mem 392 0 &&& 31) then 1 else 0))) mem) : az_Sp X (d + 1) mX8_isSet [.inr 391, .inl p] mem Q := by
  refine az_body (by decide +kernel) (Nat.le_of_ble_eq_true rfl) ?_
  show az_Ev X _ mX8_isSet 0 [some (.inr 391), some (.inl p)] [] mem Q
  refine az_iloadn dX8_isSet_0 rfl ?_
  refine az_iflt (t := 18) dX8_isSet_1 (by decide) (fun h1 => ?_) (fun h1 => ?_)
  · rw [if_neg (fun h => absurd h1 (Int32.not_lt.mpr h.1))] at hQ
    refine az_iconst (v := 0) dX8_isSet_18 (by decide) ?_
    refine az_zret dX8_isSet_19 rfl (by first | exact Or.inl rfl | exact Or.inr rfl | assumption) ?_
    exact hQ
  · have h1' : 0 ≤ p := Int32.not_lt.mp h1
    refine az_iloadn dX8_isSet_4 rfl ?_
    refine az_iconst (v := 1) dX8_isSet_5 (by decide) ?_
    refine az_aloadn dX8_isSet_6 rfl ?_
    refine az_inv0 (N := mX8_n) dX8_isSet_7 lkX8_62 okX8_n sh_391 rfl (Nat.le_of_ble_eq_true rfl) ?_
    refine s_X8_n ?_
    try dsimp only [az_ps]
    refine az_ishl dX8_isSet_10 ?_
    refine az_icmpge (t := 18) dX8_isSet_11 (by decide) (fun h11 => ?_) (fun h11 => ?_)
    · rw [if_neg (fun h => absurd h11 (Int32.not_le.mpr h.2))] at hQ
      refine az_iconst (v := 0) dX8_isSet_18 (by decide) ?_
      refine az_zret dX8_isSet_19 rfl (by first | exact Or.inl rfl | exact Or.inr rfl | assumption) ?_
      exact hQ
    · rw [if_pos ⟨h1', Int32.not_le.mp h11⟩] at hQ
      refine az_iconst (v := 1) dX8_isSet_14 (by decide) ?_
      refine az_goto (t := 19) dX8_isSet_15 (by decide) ?_
      refine az_zret dX8_isSet_19 rfl (by first | exact Or.inl rfl | exact Or.inr rfl | assumption) ?_
      exact hQ
theorem s_X8_many {x : Int32} (hQ : Q (some (.inl (zm_many x))) mem) : az_Sp X d mX8_many [.inl x] mem Q := by
  refine az_body (by decide +kernel) (Nat.le_of_ble_eq_true rfl) ?_
  show az_Ev X _ mX8_many 0 [some (.inl x), none, none] [] mem Q
  refine az_iconst (v := 0) dX8_many_0 (by decide) ?_
  refine az_istoren dX8_many_1 (by decide) ?_
  dsimp only [List.set]
  refine az_iconst (v := 0) dX8_many_2 (by decide) ?_
  refine az_istoren dX8_many_3 (by decide) ?_
  dsimp only [List.set]
  skip
  refine az_up (fun i => az_Ev X d mX8_many 4 [some (.inl x), some (.inl (zm_sum (fun k => (x >>> (nI k &&& 31)) &&& 1) i)), some (.inl (nI i))] [] mem Q) 16 0 (by omega) (fun i _ hi ih => ?_) ?_
  · refine az_iloadn dX8_many_4 rfl ?_
    refine az_bipush (v := 16) dX8_many_5 (by decide) ?_
    refine az_icmpge (t := 24) dX8_many_7 (by decide) (fun h7 => ?_) (fun h7 => ?_)
    · exact absurd h7 (nI_ge (b := 16) hi (by decide))
    refine az_iloadn dX8_many_10 rfl ?_
    refine az_iloadn dX8_many_11 rfl ?_
    refine az_iloadn dX8_many_12 rfl ?_
    refine az_ishr dX8_many_13 ?_
    refine az_iconst (v := 1) dX8_many_14 (by decide) ?_
    refine az_iand dX8_many_15 ?_
    refine az_iadd dX8_many_16 ?_
    refine az_istoren dX8_many_17 (by decide) ?_
    dsimp only [List.set]
    refine az_iinc (w := 1) dX8_many_18 rfl (by decide) (by decide) ?_
    dsimp only [List.set]
    refine az_goto (t := 4) dX8_many_21 (by decide) ?_
    rw [nI_1]; exact ih
  · refine az_iloadn dX8_many_4 rfl ?_
    refine az_bipush (v := 16) dX8_many_5 (by decide) ?_
    refine az_icmpge (t := 24) dX8_many_7 (by decide) (fun h7 => ?_) (fun h7 => ?_)
    rotate_left 1
    · exact absurd (Int32.le_refl _) h7
    refine az_iloadn dX8_many_24 rfl ?_
    refine az_iret dX8_many_25 rfl ?_
    exact hQ
theorem s_X8_length {a b : Nat} (ha : a < 16) (hb : b < 16) (hQ : Q (some (.inl (zm_len (mem 392) (16 * a + b)))) mem) : az_Sp X d mX8_length [.inr 391, .inl (nI a), .inl (nI b)] mem Q := by
  refine az_body (by decide +kernel) (Nat.le_of_ble_eq_true rfl) ?_
  show az_Ev X _ mX8_length 0 [some (.inr 391), some (.inl (nI a)), some (.inl (nI b))] [] mem Q
  refine az_aloadn dX8_length_0 rfl ?_
  refine az_getr dX8_length_1 flX8_7 sh_391 rfl ?_
  refine az_bipush (v := 7) dX8_length_4 (by decide) ?_
  refine az_bipush (v := 16) dX8_length_6 (by decide) ?_
  refine az_iloadn dX8_length_8 rfl ?_
  refine az_imul dX8_length_9 ?_
  refine az_iadd dX8_length_10 ?_
  refine az_iloadn dX8_length_11 rfl ?_
  refine az_iadd dX8_length_12 ?_
  refine az_iald (7 + (16 * a + b)) dX8_length_13 sh_392 (by omega) (by decide) (by simp only [az_lit, nI_add, pk_mul, Nat.add_assoc]) ?_
  refine az_iret dX8_length_14 rfl ?_
  exact hQ
theorem s_X8_lay {a b : Nat} {v : Int32} (ha : a < 16) (hb : b < 16) (hQ : Q none (az_w (az_w mem 392 (7 + (16 * a + b)) v) 392 (7 + (16 * b + a)) v)) : az_Sp X d mX8_lay [.inr 391, .inl (nI a), .inl (nI b), .inl v] mem Q := by
  refine az_body (by decide +kernel) (Nat.le_of_ble_eq_true rfl) ?_
  show az_Ev X _ mX8_lay 0 [some (.inr 391), some (.inl (nI a)), some (.inl (nI b)), some (.inl v)] [] mem Q
  refine az_aloadn dX8_lay_0 rfl ?_
  refine az_getr dX8_lay_1 flX8_7 sh_391 rfl ?_
  refine az_bipush (v := 7) dX8_lay_4 (by decide) ?_
  refine az_bipush (v := 16) dX8_lay_6 (by decide) ?_
  refine az_iloadn dX8_lay_8 rfl ?_
  refine az_imul dX8_lay_9 ?_
  refine az_iadd dX8_lay_10 ?_
  refine az_iloadn dX8_lay_11 rfl ?_
  refine az_iadd dX8_lay_12 ?_
  refine az_iloadn dX8_lay_13 rfl ?_
  refine az_iast (7 + (16 * a + b)) dX8_lay_14 sh_392 (by omega) (by decide) (by simp only [az_lit, nI_add, pk_mul, Nat.add_assoc]) ?_
  refine az_aloadn dX8_lay_15 rfl ?_
  refine az_getr dX8_lay_16 flX8_7 sh_391 rfl ?_
  refine az_bipush (v := 7) dX8_lay_19 (by decide) ?_
  refine az_bipush (v := 16) dX8_lay_21 (by decide) ?_
  refine az_iloadn dX8_lay_23 rfl ?_
  refine az_imul dX8_lay_24 ?_
  refine az_iadd dX8_lay_25 ?_
  refine az_iloadn dX8_lay_26 rfl ?_
  refine az_iadd dX8_lay_27 ?_
  refine az_iloadn dX8_lay_28 rfl ?_
  refine az_iast (7 + (16 * b + a)) dX8_lay_29 sh_392 (by omega) (by decide) (by simp only [az_lit, nI_add, pk_mul, Nat.add_assoc]) ?_
  refine az_vret dX8_lay_30 rfl ?_
  exact hQ
theorem s_X8_first {p : Nat} (hp : p < 16) (hQ : Q none (az_w (az_w mem 392 (279 + p) 1) 392 (295 + p) 1)) : az_Sp X d mX8_first [.inr 391, .inl (nI p)] mem Q := by
  refine az_body (by decide +kernel) (Nat.le_of_ble_eq_true rfl) ?_
  show az_Ev X _ mX8_first 0 [some (.inr 391), some (.inl (nI p))] [] mem Q
  refine az_aloadn dX8_first_0 rfl ?_
  refine az_getr dX8_first_1 flX8_7 sh_391 rfl ?_
  refine az_sipush (v := 279) dX8_first_4 (by decide) ?_
  refine az_iloadn dX8_first_7 rfl ?_
  refine az_iadd dX8_first_8 ?_
  refine az_iconst (v := 1) dX8_first_9 (by decide) ?_
  refine az_iast (279 + p) dX8_first_10 sh_392 (by omega) (by decide) (by simp only [az_lit, nI_add, pk_mul, Nat.add_assoc]) ?_
  refine az_aloadn dX8_first_11 rfl ?_
  refine az_getr dX8_first_12 flX8_7 sh_391 rfl ?_
  refine az_sipush (v := 295) dX8_first_15 (by decide) ?_
  refine az_iloadn dX8_first_18 rfl ?_
  refine az_iadd dX8_first_19 ?_
  refine az_iconst (v := 1) dX8_first_20 (by decide) ?_
  refine az_iast (295 + p) dX8_first_21 sh_392 (by omega) (by decide) (by simp only [az_lit, nI_add, pk_mul, Nat.add_assoc]) ?_
  refine az_vret dX8_first_22 rfl ?_
  exact hQ
theorem s_X8_need (hQ : Q (some (.inl (zm_need (mem 392 3) (mem 392 4)))) mem) : az_Sp X d mX8_need [.inr 391] mem Q := by
  unfold zm_need at hQ
  refine az_body (by decide +kernel) (Nat.le_of_ble_eq_true rfl) ?_
  show az_Ev X _ mX8_need 0 [some (.inr 391)] [] mem Q
  refine az_iconst (v := 1) dX8_need_0 (by decide) ?_
  refine az_aloadn dX8_need_1 rfl ?_
  refine az_getr dX8_need_2 flX8_7 sh_391 rfl ?_
  refine az_iconst (v := 4) dX8_need_5 (by decide) ?_
  refine az_iald (4) dX8_need_6 sh_392 (by omega) (by decide) (by simp only [az_lit, nI_add, pk_mul, Nat.add_assoc]) ?_
  refine az_iconst (v := 1) dX8_need_7 (by decide) ?_
  refine az_icmpne (t := 15) dX8_need_8 (by decide) (fun h8 => ?_) (fun h8 => ?_)
  · rw [if_neg h8] at hQ
    refine az_iconst (v := 1) dX8_need_15 (by decide) ?_
    refine az_aloadn dX8_need_16 rfl ?_
    refine az_getr dX8_need_17 flX8_7 sh_391 rfl ?_
    refine az_iconst (v := 3) dX8_need_20 (by decide) ?_
    refine az_iald (3) dX8_need_21 sh_392 (by omega) (by decide) (by simp only [az_lit, nI_add, pk_mul, Nat.add_assoc]) ?_
    refine az_imul dX8_need_22 ?_
    refine az_iadd dX8_need_23 ?_
    refine az_iret dX8_need_24 rfl ?_
    exact hQ
  · rw [if_pos h8] at hQ
    refine az_iconst (v := 2) dX8_need_11 (by decide) ?_
    refine az_goto (t := 16) dX8_need_12 (by decide) ?_
    refine az_aloadn dX8_need_16 rfl ?_
    refine az_getr dX8_need_17 flX8_7 sh_391 rfl ?_
    refine az_iconst (v := 3) dX8_need_20 (by decide) ?_
    refine az_iald (3) dX8_need_21 sh_392 (by omega) (by decide) (by simp only [az_lit, nI_add, pk_mul, Nat.add_assoc]) ?_
    refine az_imul dX8_need_22 ?_
    refine az_iadd dX8_need_23 ?_
    refine az_iret dX8_need_24 rfl ?_
    exact hQ
theorem s_X8_answerOf {a b : Nat} (ha : a < 16) (hb : b < 16) (hQ : Q (some (.inl (mem 396 (16 * a + b)))) mem) : az_Sp X d mX8_answerOf [.inr 391, .inl (nI a), .inl (nI b)] mem Q := by
  refine az_body (by decide +kernel) (Nat.le_of_ble_eq_true rfl) ?_
  show az_Ev X _ mX8_answerOf 0 [some (.inr 391), some (.inl (nI a)), some (.inl (nI b))] [] mem Q
  refine az_aloadn dX8_answerOf_0 rfl ?_
  refine az_getr dX8_answerOf_1 flX8_23 sh_391 rfl ?_
  refine az_bipush (v := 16) dX8_answerOf_4 (by decide) ?_
  refine az_iloadn dX8_answerOf_6 rfl ?_
  refine az_imul dX8_answerOf_7 ?_
  refine az_iloadn dX8_answerOf_8 rfl ?_
  refine az_iadd dX8_answerOf_9 ?_
  refine az_iald (16 * a + b) dX8_answerOf_10 sh_396 (by omega) (by decide) (by simp only [az_lit, nI_add, pk_mul, Nat.add_assoc]) ?_
  refine az_iret dX8_answerOf_11 rfl ?_
  exact hQ
theorem s_X8_isParting {m a b : Nat} (hm : m < 16) (ha : a < 16) (hb : b < 16) (hQ : Q (some (.inl (if zm_pf (mem 396) a b m = true then 1 else 0))) mem) : az_Sp X (d + 1) mX8_isParting [.inr 391, .inl (nI m), .inl (nI a), .inl (nI b)] mem Q := by
  refine az_body (by decide +kernel) (Nat.le_of_ble_eq_true rfl) ?_
  show az_Ev X _ mX8_isParting 0 [some (.inr 391), some (.inl (nI m)), some (.inl (nI a)), some (.inl (nI b))] [] mem Q
  refine az_aloadn dX8_isParting_0 rfl ?_
  refine az_iloadn dX8_isParting_1 rfl ?_
  refine az_iloadn dX8_isParting_2 rfl ?_
  refine az_inv2 (N := mX8_answerOf) dX8_isParting_3 lkX8_105 okX8_answerOf sh_391 rfl (Nat.le_of_ble_eq_true rfl) ?_
  refine s_X8_answerOf (by omega) (by omega) ?_
  try dsimp only [az_ps]
  refine az_aloadn dX8_isParting_6 rfl ?_
  refine az_iloadn dX8_isParting_7 rfl ?_
  refine az_iloadn dX8_isParting_8 rfl ?_
  refine az_inv2 (N := mX8_answerOf) dX8_isParting_9 lkX8_105 okX8_answerOf sh_391 rfl (Nat.le_of_ble_eq_true rfl) ?_
  refine s_X8_answerOf (by omega) (by omega) ?_
  try dsimp only [az_ps]
  refine az_icmpeq (t := 19) dX8_isParting_12 (by decide) (fun h12 => ?_) (fun h12 => ?_)
  · rw [if_neg (by simp [zm_pf, h12])] at hQ
    refine az_iconst (v := 0) dX8_isParting_19 (by decide) ?_
    refine az_zret dX8_isParting_20 rfl (by first | exact Or.inl rfl | exact Or.inr rfl | assumption) ?_
    exact hQ
  · rw [if_pos (by simp [zm_pf, h12])] at hQ
    refine az_iconst (v := 1) dX8_isParting_15 (by decide) ?_
    refine az_goto (t := 20) dX8_isParting_16 (by decide) ?_
    refine az_zret dX8_isParting_20 rfl (by first | exact Or.inl rfl | exact Or.inr rfl | assumption) ?_
    exact hQ
theorem s_X8_parting {a b : Nat} (hn : mem 392 0 = nI N) (hN : N ≤ 16) (ha : a < 16) (hb : b < 16) (hQ : Q (some (.inl (zm_mask (zm_pf (mem 396) a b) N))) mem) : az_Sp X (d + 2) mX8_parting [.inr 391, .inl (nI a), .inl (nI b)] mem Q := by
  refine az_body (by decide +kernel) (Nat.le_of_ble_eq_true rfl) ?_
  show az_Ev X _ mX8_parting 0 [some (.inr 391), some (.inl (nI a)), some (.inl (nI b)), none, none] [] mem Q
  refine az_iconst (v := 0) dX8_parting_0 (by decide) ?_
  refine az_istoren dX8_parting_1 (by decide) ?_
  dsimp only [List.set]
  refine az_iconst (v := 0) dX8_parting_2 (by decide) ?_
  refine az_istore dX8_parting_3 (by decide) ?_
  dsimp only [List.set]
  skip
  refine az_up (fun i => az_Ev X (d + 2) mX8_parting 5 [some (.inr 391), some (.inl (nI a)), some (.inl (nI b)), some (.inl (zm_mask (zm_pf (mem 396) a b) i)), some (.inl (nI i))] [] mem Q) N 0 (by omega) (fun i _ hi ih => ?_) ?_
  · refine az_iload dX8_parting_5 rfl ?_
    refine az_aloadn dX8_parting_7 rfl ?_
    refine az_inv0 (N := mX8_n) dX8_parting_8 lkX8_62 okX8_n sh_391 rfl (Nat.le_of_ble_eq_true rfl) ?_
    refine t_X8_n hn ?_
    try dsimp only [az_ps]
    refine az_icmpge (t := 42) dX8_parting_11 (by decide) (fun h11 => ?_) (fun h11 => ?_)
    · exact absurd h11 (nI_ge (by omega) (by omega))
    refine az_iloadn dX8_parting_14 rfl ?_
    refine az_aloadn dX8_parting_15 rfl ?_
    refine az_iload dX8_parting_16 rfl ?_
    refine az_iloadn dX8_parting_18 rfl ?_
    refine az_iloadn dX8_parting_19 rfl ?_
    refine az_inv3 (N := mX8_isParting) dX8_parting_20 lkX8_108 okX8_isParting sh_391 rfl (Nat.le_of_ble_eq_true rfl) ?_
    refine s_X8_isParting (by omega) (by omega) (by omega) ?_
    try dsimp only [az_ps]
    refine az_ifeq (t := 33) dX8_parting_23 (by decide) (fun h23 => ?_) (fun h23 => ?_)
    · replace h23 := zb_z h23
      rw [zm_mask_f (by simpa using h23)] at ih
      refine az_iconst (v := 0) dX8_parting_33 (by decide) ?_
      refine az_ior dX8_parting_34 ?_
      refine az_istoren dX8_parting_35 (by decide) ?_
      dsimp only [List.set]
      refine az_iinc (w := 1) dX8_parting_36 rfl (by decide) (by decide) ?_
      dsimp only [List.set]
      refine az_goto (t := 5) dX8_parting_39 (by decide) ?_
      rw [nI_1]; exact ih
    · replace h23 := zb_n h23
      rw [zm_mask_t (by simpa using h23)] at ih
      refine az_iconst (v := 1) dX8_parting_26 (by decide) ?_
      refine az_iload dX8_parting_27 rfl ?_
      refine az_ishl dX8_parting_29 ?_
      refine az_goto (t := 34) dX8_parting_30 (by decide) ?_
      refine az_ior dX8_parting_34 ?_
      refine az_istoren dX8_parting_35 (by decide) ?_
      dsimp only [List.set]
      refine az_iinc (w := 1) dX8_parting_36 rfl (by decide) (by decide) ?_
      dsimp only [List.set]
      refine az_goto (t := 5) dX8_parting_39 (by decide) ?_
      rw [nI_1]; exact ih
  · refine az_iload dX8_parting_5 rfl ?_
    refine az_aloadn dX8_parting_7 rfl ?_
    refine az_inv0 (N := mX8_n) dX8_parting_8 lkX8_62 okX8_n sh_391 rfl (Nat.le_of_ble_eq_true rfl) ?_
    refine t_X8_n hn ?_
    try dsimp only [az_ps]
    refine az_icmpge (t := 42) dX8_parting_11 (by decide) (fun h11 => ?_) (fun h11 => ?_)
    rotate_left 1
    · exact absurd (Int32.le_refl _) h11
    refine az_iloadn dX8_parting_42 rfl ?_
    refine az_iret dX8_parting_43 rfl ?_
    exact hQ
theorem s_X8_areTwins {a b : Nat} (hn : mem 392 0 = nI N) (hN : N ≤ 16) (ha : a < 16) (hb : b < 16) (hQ : Q (some (.inl (if zm_mask (zm_pf (mem 396) a b) N = 0 then 1 else 0))) mem) : az_Sp X (d + 3) mX8_areTwins [.inr 391, .inl (nI a), .inl (nI b)] mem Q := by
  refine az_body (by decide +kernel) (Nat.le_of_ble_eq_true rfl) ?_
  show az_Ev X _ mX8_areTwins 0 [some (.inr 391), some (.inl (nI a)), some (.inl (nI b))] [] mem Q
  refine az_aloadn dX8_areTwins_0 rfl ?_
  refine az_iloadn dX8_areTwins_1 rfl ?_
  refine az_iloadn dX8_areTwins_2 rfl ?_
  refine az_inv2 (N := mX8_parting) dX8_areTwins_3 lkX8_111 okX8_parting sh_391 rfl (Nat.le_of_ble_eq_true rfl) ?_
  refine s_X8_parting hn hN ha hb ?_
  try dsimp only [az_ps]
  refine az_ifne (t := 13) dX8_areTwins_6 (by decide) (fun h6 => ?_) (fun h6 => ?_)
  · rw [if_neg h6] at hQ
    refine az_iconst (v := 0) dX8_areTwins_13 (by decide) ?_
    refine az_zret dX8_areTwins_14 rfl (by first | exact Or.inl rfl | exact Or.inr rfl | assumption) ?_
    exact hQ
  · rw [if_pos h6] at hQ
    refine az_iconst (v := 1) dX8_areTwins_9 (by decide) ?_
    refine az_goto (t := 14) dX8_areTwins_10 (by decide) ?_
    refine az_zret dX8_areTwins_14 rfl (by first | exact Or.inl rfl | exact Or.inr rfl | assumption) ?_
    exact hQ
theorem s_X8_isYes {m p : Nat} (hm : m < 16) (hp : p < 16) (hQ : Q (some (.inl (if zm_yf (mem 392 1) (mem 396) p m = true then 1 else 0))) mem) : az_Sp X (d + 1) mX8_isYes [.inr 391, .inl (nI m), .inl (nI p)] mem Q := by
  refine az_body (by decide +kernel) (Nat.le_of_ble_eq_true rfl) ?_
  show az_Ev X _ mX8_isYes 0 [some (.inr 391), some (.inl (nI m)), some (.inl (nI p))] [] mem Q
  refine az_aloadn dX8_isYes_0 rfl ?_
  refine az_getr dX8_isYes_1 flX8_7 sh_391 rfl ?_
  refine az_iconst (v := 1) dX8_isYes_4 (by decide) ?_
  refine az_iald (1) dX8_isYes_5 sh_392 (by omega) (by decide) (by simp only [az_lit, nI_add, pk_mul, Nat.add_assoc]) ?_
  refine az_ifne (t := 28) dX8_isYes_6 (by decide) (fun h6 => ?_) (fun h6 => ?_)
  · refine az_aloadn dX8_isYes_28 rfl ?_
    refine az_iloadn dX8_isYes_29 rfl ?_
    refine az_iloadn dX8_isYes_30 rfl ?_
    refine az_inv2 (N := mX8_answerOf) dX8_isYes_31 lkX8_105 okX8_answerOf sh_391 rfl (Nat.le_of_ble_eq_true rfl) ?_
    refine s_X8_answerOf (by omega) (by omega) ?_
    try dsimp only [az_ps]
    refine az_ifeq (t := 41) dX8_isYes_34 (by decide) (fun h34 => ?_) (fun h34 => ?_)
    · rw [if_neg (by simp [zm_yf, h6, h34])] at hQ
      refine az_iconst (v := 0) dX8_isYes_41 (by decide) ?_
      refine az_zret dX8_isYes_42 rfl (by first | exact Or.inl rfl | exact Or.inr rfl | assumption) ?_
      exact hQ
    · rw [if_pos (by simp [zm_yf, h6, h34])] at hQ
      refine az_iconst (v := 1) dX8_isYes_37 (by decide) ?_
      refine az_goto (t := 42) dX8_isYes_38 (by decide) ?_
      refine az_zret dX8_isYes_42 rfl (by first | exact Or.inl rfl | exact Or.inr rfl | assumption) ?_
      exact hQ
  · refine az_aloadn dX8_isYes_9 rfl ?_
    refine az_iloadn dX8_isYes_10 rfl ?_
    refine az_iloadn dX8_isYes_11 rfl ?_
    refine az_inv2 (N := mX8_answerOf) dX8_isYes_12 lkX8_105 okX8_answerOf sh_391 rfl (Nat.le_of_ble_eq_true rfl) ?_
    refine s_X8_answerOf (by omega) (by omega) ?_
    try dsimp only [az_ps]
    refine az_ldc dX8_isYes_15 kcX8_74 ?_
    refine az_icmpeq (t := 24) dX8_isYes_17 (by decide) (fun h17 => ?_) (fun h17 => ?_)
    · rw [if_neg (by simp [zm_yf, h6, h17])] at hQ
      refine az_iconst (v := 0) dX8_isYes_24 (by decide) ?_
      refine az_goto (t := 42) dX8_isYes_25 (by decide) ?_
      refine az_zret dX8_isYes_42 rfl (by first | exact Or.inl rfl | exact Or.inr rfl | assumption) ?_
      exact hQ
    · rw [if_pos (by simp [zm_yf, h6, h17])] at hQ
      refine az_iconst (v := 1) dX8_isYes_20 (by decide) ?_
      refine az_goto (t := 42) dX8_isYes_21 (by decide) ?_
      refine az_zret dX8_isYes_42 rfl (by first | exact Or.inl rfl | exact Or.inr rfl | assumption) ?_
      exact hQ
theorem s_X8_yes {p : Nat} (hn : mem 392 0 = nI N) (hN : N ≤ 16) (hp : p < 16) (hQ : Q (some (.inl (zm_mask (zm_yf (mem 392 1) (mem 396) p) N))) mem) : az_Sp X (d + 2) mX8_yes [.inr 391, .inl (nI p)] mem Q := by
  refine az_body (by decide +kernel) (Nat.le_of_ble_eq_true rfl) ?_
  show az_Ev X _ mX8_yes 0 [some (.inr 391), some (.inl (nI p)), none, none] [] mem Q
  refine az_iconst (v := 0) dX8_yes_0 (by decide) ?_
  refine az_istoren dX8_yes_1 (by decide) ?_
  dsimp only [List.set]
  refine az_iconst (v := 0) dX8_yes_2 (by decide) ?_
  refine az_istoren dX8_yes_3 (by decide) ?_
  dsimp only [List.set]
  skip
  refine az_up (fun i => az_Ev X (d + 2) mX8_yes 4 [some (.inr 391), some (.inl (nI p)), some (.inl (zm_mask (zm_yf (mem 392 1) (mem 396) p) i)), some (.inl (nI i))] [] mem Q) N 0 (by omega) (fun i _ hi ih => ?_) ?_
  · refine az_iloadn dX8_yes_4 rfl ?_
    refine az_aloadn dX8_yes_5 rfl ?_
    refine az_inv0 (N := mX8_n) dX8_yes_6 lkX8_62 okX8_n sh_391 rfl (Nat.le_of_ble_eq_true rfl) ?_
    refine t_X8_n hn ?_
    try dsimp only [az_ps]
    refine az_icmpge (t := 37) dX8_yes_9 (by decide) (fun h9 => ?_) (fun h9 => ?_)
    · exact absurd h9 (nI_ge (by omega) (by omega))
    refine az_iloadn dX8_yes_12 rfl ?_
    refine az_aloadn dX8_yes_13 rfl ?_
    refine az_iloadn dX8_yes_14 rfl ?_
    refine az_iloadn dX8_yes_15 rfl ?_
    refine az_inv2 (N := mX8_isYes) dX8_yes_16 lkX8_114 okX8_isYes sh_391 rfl (Nat.le_of_ble_eq_true rfl) ?_
    refine s_X8_isYes (by omega) (by omega) ?_
    try dsimp only [az_ps]
    refine az_ifeq (t := 28) dX8_yes_19 (by decide) (fun h19 => ?_) (fun h19 => ?_)
    · replace h19 := zb_z h19
      rw [zm_mask_f (by simpa using h19)] at ih
      refine az_iconst (v := 0) dX8_yes_28 (by decide) ?_
      refine az_ior dX8_yes_29 ?_
      refine az_istoren dX8_yes_30 (by decide) ?_
      dsimp only [List.set]
      refine az_iinc (w := 1) dX8_yes_31 rfl (by decide) (by decide) ?_
      dsimp only [List.set]
      refine az_goto (t := 4) dX8_yes_34 (by decide) ?_
      rw [nI_1]; exact ih
    · replace h19 := zb_n h19
      rw [zm_mask_t (by simpa using h19)] at ih
      refine az_iconst (v := 1) dX8_yes_22 (by decide) ?_
      refine az_iloadn dX8_yes_23 rfl ?_
      refine az_ishl dX8_yes_24 ?_
      refine az_goto (t := 29) dX8_yes_25 (by decide) ?_
      refine az_ior dX8_yes_29 ?_
      refine az_istoren dX8_yes_30 (by decide) ?_
      dsimp only [List.set]
      refine az_iinc (w := 1) dX8_yes_31 rfl (by decide) (by decide) ?_
      dsimp only [List.set]
      refine az_goto (t := 4) dX8_yes_34 (by decide) ?_
      rw [nI_1]; exact ih
  · refine az_iloadn dX8_yes_4 rfl ?_
    refine az_aloadn dX8_yes_5 rfl ?_
    refine az_inv0 (N := mX8_n) dX8_yes_6 lkX8_62 okX8_n sh_391 rfl (Nat.le_of_ble_eq_true rfl) ?_
    refine t_X8_n hn ?_
    try dsimp only [az_ps]
    refine az_icmpge (t := 37) dX8_yes_9 (by decide) (fun h9 => ?_) (fun h9 => ?_)
    rotate_left 1
    · exact absurd (Int32.le_refl _) h9
    refine az_iloadn dX8_yes_37 rfl ?_
    refine az_iret dX8_yes_38 rfl ?_
    exact hQ
theorem s_X8_besideBits {p : Nat} (hn : mem 392 0 = nI N) (hN : N ≤ 16) (hp : p < 16) (hQ : Q (some (.inl (zm_mask (zm_bf (zm_len (mem 392)) p) N))) mem) : az_Sp X (d + 1) mX8_besideBits [.inr 391, .inl (nI p)] mem Q := by
  refine az_body (by decide +kernel) (Nat.le_of_ble_eq_true rfl) ?_
  show az_Ev X _ mX8_besideBits 0 [some (.inr 391), some (.inl (nI p)), none, none] [] mem Q
  refine az_iconst (v := 0) dX8_besideBits_0 (by decide) ?_
  refine az_istoren dX8_besideBits_1 (by decide) ?_
  dsimp only [List.set]
  refine az_iconst (v := 0) dX8_besideBits_2 (by decide) ?_
  refine az_istoren dX8_besideBits_3 (by decide) ?_
  dsimp only [List.set]
  skip
  refine az_up (fun i => az_Ev X (d + 1) mX8_besideBits 4 [some (.inr 391), some (.inl (nI p)), some (.inl (zm_mask (zm_bf (zm_len (mem 392)) p) i)), some (.inl (nI i))] [] mem Q) N 0 (by omega) (fun i _ hi ih => ?_) ?_
  · refine az_iloadn dX8_besideBits_4 rfl ?_
    refine az_aloadn dX8_besideBits_5 rfl ?_
    refine az_inv0 (N := mX8_n) dX8_besideBits_6 lkX8_62 okX8_n sh_391 rfl (Nat.le_of_ble_eq_true rfl) ?_
    refine t_X8_n hn ?_
    try dsimp only [az_ps]
    refine az_icmpge (t := 37) dX8_besideBits_9 (by decide) (fun h9 => ?_) (fun h9 => ?_)
    · exact absurd h9 (nI_ge (by omega) (by omega))
    refine az_iloadn dX8_besideBits_12 rfl ?_
    refine az_aloadn dX8_besideBits_13 rfl ?_
    refine az_iloadn dX8_besideBits_14 rfl ?_
    refine az_iloadn dX8_besideBits_15 rfl ?_
    refine az_inv2 (N := mX8_length) dX8_besideBits_16 lkX8_70 okX8_length sh_391 rfl (Nat.le_of_ble_eq_true rfl) ?_
    refine s_X8_length (by omega) (by omega) ?_
    try dsimp only [az_ps]
    refine az_ifle (t := 28) dX8_besideBits_19 (by decide) (fun h19 => ?_) (fun h19 => ?_)
    · rw [zm_mask_f (by simpa [zm_bf] using h19)] at ih
      refine az_iconst (v := 0) dX8_besideBits_28 (by decide) ?_
      refine az_ior dX8_besideBits_29 ?_
      refine az_istoren dX8_besideBits_30 (by decide) ?_
      dsimp only [List.set]
      refine az_iinc (w := 1) dX8_besideBits_31 rfl (by decide) (by decide) ?_
      dsimp only [List.set]
      refine az_goto (t := 4) dX8_besideBits_34 (by decide) ?_
      rw [nI_1]; exact ih
    · rw [zm_mask_t (by simpa [zm_bf] using h19)] at ih
      refine az_iconst (v := 1) dX8_besideBits_22 (by decide) ?_
      refine az_iloadn dX8_besideBits_23 rfl ?_
      refine az_ishl dX8_besideBits_24 ?_
      refine az_goto (t := 29) dX8_besideBits_25 (by decide) ?_
      refine az_ior dX8_besideBits_29 ?_
      refine az_istoren dX8_besideBits_30 (by decide) ?_
      dsimp only [List.set]
      refine az_iinc (w := 1) dX8_besideBits_31 rfl (by decide) (by decide) ?_
      dsimp only [List.set]
      refine az_goto (t := 4) dX8_besideBits_34 (by decide) ?_
      rw [nI_1]; exact ih
  · refine az_iloadn dX8_besideBits_4 rfl ?_
    refine az_aloadn dX8_besideBits_5 rfl ?_
    refine az_inv0 (N := mX8_n) dX8_besideBits_6 lkX8_62 okX8_n sh_391 rfl (Nat.le_of_ble_eq_true rfl) ?_
    refine t_X8_n hn ?_
    try dsimp only [az_ps]
    refine az_icmpge (t := 37) dX8_besideBits_9 (by decide) (fun h9 => ?_) (fun h9 => ?_)
    rotate_left 1
    · exact absurd (Int32.le_refl _) h9
    refine az_iloadn dX8_besideBits_37 rfl ?_
    refine az_iret dX8_besideBits_38 rfl ?_
    exact hQ
end MA

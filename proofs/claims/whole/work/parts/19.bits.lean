/-! sets of posts as natural numbers -/
theorem zb_shl1 : ∀ n, n < 31 → (1 : Int32) <<< (nI n &&& 31) = nI (2 ^ n) := by decide +kernel
theorem zb_sl : ∀ n, n < 32 → ((nI n &&& 31).toBitVec.smod 32).toNat = n := by decide +kernel
def zn_mask (f : Nat → Bool) : Nat → Nat
  | 0 => 0
  | n + 1 => zn_mask f n + (if f n then 2 ^ n else 0)
theorem zn_lt (f : Nat → Bool) : ∀ n, zn_mask f n < 2 ^ n
  | 0 => by simp [zn_mask]
  | n + 1 => by
    have ih := zn_lt f n
    rw [zn_mask, Nat.pow_succ]
    split <;> omega
theorem zn_or {a n : Nat} (h : a < 2 ^ n) : a ||| 2 ^ n = a + 2 ^ n := by
  have h1 := Nat.two_pow_add_eq_or_of_lt h 1
  rw [Nat.mul_one] at h1
  rw [Nat.or_comm, ← h1, Nat.add_comm]
theorem zm_mask_n (f : Nat → Bool) : ∀ n, n ≤ 31 → zm_mask f n = nI (zn_mask f n)
  | 0, _ => rfl
  | n + 1, h => by
    have ih := zm_mask_n f n (by omega)
    by_cases hf : f n = true
    · rw [zm_mask_t hf, ih, zb_shl1 n (by omega), fa_or, zn_or (zn_lt f n), zn_mask, if_pos hf]
    · have hf' : f n = false := by simpa using hf
      rw [zm_mask_f hf', ih, zn_mask, if_neg hf]
      rw [show (0 : Int32) = nI 0 from rfl, fa_or, Nat.or_zero, Nat.add_zero]
theorem zn_bit (f : Nat → Bool) (i : Nat) : ∀ n, (zn_mask f n).testBit i = (decide (i < n) && f i)
  | 0 => by simp [zn_mask]
  | n + 1 => by
    have ih := zn_bit f i n
    by_cases hf : f n = true
    · rw [zn_mask, if_pos hf, ← zn_or (zn_lt f n), Nat.testBit_or, ih, Nat.testBit_two_pow]
      by_cases h1 : i < n
      · have : ¬ n = i := by omega
        simp [h1, this, show i < n + 1 by omega]
      · by_cases h2 : n = i
        · subst h2; simp [hf]
        · have : ¬ i < n + 1 := by omega
          simp [h1, h2, this]
    · rw [zn_mask, if_neg hf, Nat.add_zero, ih]
      by_cases h1 : i < n
      · simp [h1, show i < n + 1 by omega]
      · by_cases h2 : i = n
        · subst h2; simp [hf]
        · have : ¬ i < n + 1 := by omega
          simp [h1, this]
theorem zn_congr {f g : Nat → Bool} : ∀ n, (∀ i, i < n → f i = g i) → zn_mask f n = zn_mask g n
  | 0, _ => rfl
  | n + 1, h => by rw [zn_mask, zn_mask, zn_congr n (fun i hi => h i (by omega)), h n (by omega)]
theorem zm_congr {f g : Nat → Bool} : ∀ n, (∀ i, i < n → f i = g i) → zm_mask f n = zm_mask g n
  | 0, _ => rfl
  | n + 1, h => by rw [zm_mask, zm_mask, zm_congr n (fun i hi => h i (by omega)), h n (by omega)]
theorem zm_sum_congr {f g : Nat → Int32} : ∀ n, (∀ i, i < n → f i = g i) → zm_sum f n = zm_sum g n
  | 0, _ => rfl
  | n + 1, h => by rw [zm_sum, zm_sum, zm_sum_congr n (fun i hi => h i (by omega)), h n (by omega)]
theorem zb_shr {k i : Nat} (hk : k < 2 ^ 31) (hi : i < 32) : nI k >>> (nI i &&& 31) = nI (k / 2 ^ i) := pk_shrN hk _ i (zb_sl i hi)
theorem zb_bit {k i : Nat} (hk : k < 2 ^ 31) (hi : i < 32) : (nI k >>> (nI i &&& 31)) &&& 1 = if k.testBit i then 1 else 0 := by
  rw [zb_shr hk hi, show (1 : Int32) = nI (2 ^ 1 - 1) from rfl, fa_mask]
  rw [Nat.testBit_eq_decide_div_mod_eq]
  have h2 := Nat.mod_two_eq_zero_or_one (k / 2 ^ i)
  rw [show (2 : Nat) ^ 1 = 2 from rfl]
  rcases h2 with h | h
  · rw [h]; rfl
  · rw [h]; rfl
theorem zb_bit1 {k i : Nat} (hk : k < 2 ^ 31) (hi : i < 32) : ((nI k >>> (nI i &&& 31)) &&& 1 = 1) ↔ k.testBit i = true := by
  rw [zb_bit hk hi]
  by_cases h : k.testBit i = true
  · simp [h]
  · simp [h]
theorem zb_bit0 {k i : Nat} (hk : k < 2 ^ 31) (hi : i < 32) : ((nI k >>> (nI i &&& 31)) &&& 1 = 0) ↔ k.testBit i = false := by
  rw [zb_bit hk hi]
  by_cases h : k.testBit i = true
  · simp [h]
  · simp [h]
def zn_pc (k : Nat) : Nat := fb_ct (fun i => k.testBit i) 16
theorem zn_pc_le (k : Nat) : zn_pc k ≤ 16 := fb_ct_le _ 16
theorem zm_many_n {k : Nat} (hk : k < 2 ^ 31) : zm_many (nI k) = nI (zn_pc k) := by
  unfold zm_many zn_pc
  have h : ∀ n, n ≤ 16 → zm_sum (fun i => (nI k >>> (nI i &&& 31)) &&& 1) n = nI (fb_ct (fun i => k.testBit i) n) := by
    intro n
    induction n with
    | zero => intro _; rfl
    | succ n ih =>
      intro hn
      rw [zm_sum, ih (by omega), fb_ct_succ, zb_bit hk (by omega)]
      by_cases hb : k.testBit n = true
      · rw [if_pos hb, if_pos hb, nI_1]
      · rw [if_neg hb, if_neg hb]
        rw [show (0 : Int32) = nI 0 from rfl, nI_add]
  exact h 16 (Nat.le_refl _)
theorem zn_ext {a b n : Nat} (ha : a < 2 ^ n) (hb : b < 2 ^ n) (h : ∀ i, i < n → a.testBit i = b.testBit i) : a = b := by
  apply Nat.eq_of_testBit_eq
  intro i
  by_cases hi : i < n
  · exact h i hi
  · rw [Nat.testBit_lt_two_pow (Nat.lt_of_lt_of_le ha (Nat.pow_le_pow_right (by decide) (by omega))), Nat.testBit_lt_two_pow (Nat.lt_of_lt_of_le hb (Nat.pow_le_pow_right (by decide) (by omega)))]
theorem zn_high {a n i : Nat} (ha : a < 2 ^ n) (hi : n ≤ i) : a.testBit i = false := Nat.testBit_lt_two_pow (Nat.lt_of_lt_of_le ha (Nat.pow_le_pow_right (by decide) hi))
theorem zn_zero {a n : Nat} (ha : a < 2 ^ n) (h : ∀ i, i < n → a.testBit i = false) : a = 0 := zn_ext ha (Nat.two_pow_pos n) (fun i hi => by rw [h i hi, Nat.zero_testBit])
/-- a set out of its own bits -/
theorem zn_self {a n : Nat} (ha : a < 2 ^ n) : zn_mask (fun i => a.testBit i) n = a := zn_ext (zn_lt _ n) ha (fun i hi => by rw [zn_bit]; simp [hi])
theorem zn_pc_ext {a n : Nat} (hn : n ≤ 16) (ha : a < 2 ^ n) : zn_pc a = fb_ct (fun i => a.testBit i) n := by
  unfold zn_pc
  obtain ⟨k, hk⟩ := Nat.exists_eq_add_of_le hn
  rw [hk, fb_ct_split]
  have : fb_ct (fun i => a.testBit (n + i)) k = 0 := fb_ct_zero.mpr (fun i _ => zn_high ha (by omega))
  rw [this, Nat.add_zero]

/-! the JDK's own: bitCount, numberOfTrailingZeros -/
theorem zj_and8 {x y u v : Nat} (hy : y < 2 ^ 8) (hv : v < 2 ^ 8) : (2 ^ 8 * x + y) &&& (2 ^ 8 * u + v) = 2 ^ 8 * (x &&& u) + (y &&& v) := by
  have hyv : (y &&& v) < 2 ^ 8 := Nat.lt_of_le_of_lt Nat.and_le_left hy
  apply Nat.eq_of_testBit_eq
  intro i
  rw [Nat.testBit_and, Nat.testBit_two_pow_mul_add x hy, Nat.testBit_two_pow_mul_add u hv, Nat.testBit_two_pow_mul_add (x &&& u) hyv]
  split
  · rw [Nat.testBit_and]
  · rw [Nat.testBit_and]
def zj_c1 (x : Nat) : Nat := x - ((x / 2) &&& 85)
def zj_c2 (x : Nat) : Nat := (x &&& 51) + ((x / 4) &&& 51)
def zj_c3 (x : Nat) : Nat := (x + x / 16) &&& 15
def zj_p8 (x : Nat) : Nat := fb_ct (fun i => x.testBit i) 8
theorem zj_t1 : ∀ h, h < 256 → (h / 2 &&& 5592405) = (h / 2 &&& 85) ∧ (h / 2 &&& 85) ≤ h ∧ zj_c1 h < 256 := by decide +kernel
theorem zj_t1b : ∀ r, r < 2 → ∀ l, l < 128 → (128 * r + l &&& 85) = (l &&& 85) := by decide +kernel
theorem zj_t2 : ∀ a, a < 256 → (a &&& 3355443) = (a &&& 51) ∧ (a / 4 &&& 3355443) = (a / 4 &&& 51) ∧ (a &&& 51) + (a / 4 &&& 51) < 256 := by decide +kernel
theorem zj_t2b : ∀ r, r < 4 → ∀ l, l < 64 → (64 * r + l &&& 51) = (l &&& 51) := by decide +kernel
theorem zj_t3 : ∀ a, a < 256 → zj_c2 (zj_c1 a) ≤ 68 ∧ zj_c2 (zj_c1 a) % 16 ≤ 4 ∧ zj_c3 (zj_c2 (zj_c1 a)) = zj_p8 a ∧ zj_p8 a ≤ 8 := by decide +kernel
theorem zj_t3b : ∀ r, r < 5 → ∀ b, b < 69 → (b + 16 * r + b / 16 &&& 15) = (b + b / 16 &&& 15) := by decide +kernel
theorem zj_t3c : ∀ a, a < 69 → (a + a / 16 &&& 986895) = (a + a / 16 &&& 15) ∧ (a + a / 16 &&& 15) < 256 := by decide +kernel
def zj_b1 (k : Nat) : Nat := k - ((k / 2) &&& 1431655765)
def zj_b2 (k : Nat) : Nat := (k &&& 858993459) + ((k / 4) &&& 858993459)
def zj_b3 (k : Nat) : Nat := (k + k / 16) &&& 252645135
def zj_b4 (c : Nat) : Nat := c + c / 256
def zj_bc (k : Nat) : Nat := (zj_b4 (zj_b3 (zj_b2 (zj_b1 k))) + zj_b4 (zj_b3 (zj_b2 (zj_b1 k))) / 65536) &&& 63
theorem zj_s1 {h l : Nat} (hh : h < 256) (hl : l < 256) : zj_b1 (256 * h + l) = 256 * zj_c1 h + zj_c1 l := by
  unfold zj_b1
  have e : (256 * h + l) / 2 = 2 ^ 8 * (h / 2) + (128 * (h % 2) + l / 2) := by omega
  rw [e, show (1431655765 : Nat) = 2 ^ 8 * 5592405 + 85 from rfl, zj_and8 (by omega) (by decide), (zj_t1 h hh).1, zj_t1b (h % 2) (by omega) (l / 2) (by omega)]
  have a1 := (zj_t1 h hh).2.1
  have a2 := (zj_t1 l hl).2.1
  unfold zj_c1
  omega
theorem zj_s2 {A B : Nat} (hA : A < 256) (hB : B < 256) : zj_b2 (256 * A + B) = 256 * zj_c2 A + zj_c2 B := by
  unfold zj_b2
  have e : (256 * A + B) / 4 = 2 ^ 8 * (A / 4) + (64 * (A % 4) + B / 4) := by omega
  rw [e, show (858993459 : Nat) = 2 ^ 8 * 3355443 + 51 from rfl, show 256 * A + B = 2 ^ 8 * A + B by omega, zj_and8 (by omega) (by decide), zj_and8 (by omega) (by decide), (zj_t2 A hA).1, (zj_t2 A hA).2.1, zj_t2b (A % 4) (by omega) (B / 4) (by omega)]
  unfold zj_c2
  omega
theorem zj_s3 {A B : Nat} (hA : A < 69) (hB : B < 69) (hA2 : A % 16 ≤ 4) : zj_b3 (256 * A + B) = 256 * zj_c3 A + zj_c3 B := by
  unfold zj_b3
  have e : 256 * A + B + (256 * A + B) / 16 = 2 ^ 8 * (A + A / 16) + (B + 16 * (A % 16) + B / 16) := by omega
  rw [e, show (252645135 : Nat) = 2 ^ 8 * 986895 + 15 from rfl, zj_and8 (by omega) (by decide), (zj_t3c A hA).1, zj_t3b (A % 16) (by omega) B hB]
  rfl
theorem zj_pc16 {h l : Nat} (hl : l < 256) : zn_pc (256 * h + l) = zj_p8 h + zj_p8 l := by
  unfold zn_pc zj_p8
  rw [show (16 : Nat) = 8 + 8 from rfl, fb_ct_split, show 256 * h + l = 2 ^ 8 * h + l by omega]
  have e1 : fb_ct (fun i => (2 ^ 8 * h + l).testBit i) 8 = fb_ct (fun i => l.testBit i) 8 := fb_ct_cong (fun i hi => by rw [Nat.testBit_two_pow_mul_add h (by omega), if_pos hi])
  have e2 : fb_ct (fun k => (2 ^ 8 * h + l).testBit (8 + k)) 8 = fb_ct (fun i => h.testBit i) 8 := fb_ct_cong (fun i hi => by rw [Nat.testBit_two_pow_mul_add h (by omega), if_neg (by omega), Nat.add_sub_cancel_left])
  rw [e1, e2, Nat.add_comm]
theorem zj_bc_pc {k : Nat} (hk : k < 65536) : zj_bc k = zn_pc k := by
  obtain ⟨h, l, rfl, hh, hl⟩ : ∃ h l, k = 256 * h + l ∧ h < 256 ∧ l < 256 := ⟨k / 256, k % 256, by omega, by omega, by omega⟩
  have a := zj_t3 h hh
  have b := zj_t3 l hl
  rw [zj_pc16 hl]
  unfold zj_bc
  rw [zj_s1 hh hl, zj_s2 (zj_t1 h hh).2.2 (zj_t1 l hl).2.2, zj_s3 (by omega) (by omega) a.2.1, a.2.2.1, b.2.2.1]
  unfold zj_b4
  rw [show (63 : Nat) = 2 ^ 6 - 1 from rfl, Nat.and_two_pow_sub_one_eq_mod, show (2 : Nat) ^ 6 = 64 from rfl]
  have a8 := a.2.2.2
  have b8 := b.2.2.2
  generalize zj_p8 h = P at a8 ⊢
  generalize zj_p8 l = R at b8 ⊢
  rw [show (256 * P + R) / 256 = P by omega, show (256 * P + R + P) / 65536 = 0 by omega]
  clear a b hk
  omega
theorem zj_us1 {n : Nat} (h : n < 2 ^ 32) : ((nI n).toUInt32 >>> ((1 : Int32).toUInt32 &&& Int32.toUInt32 31)).toInt32 = nI (n / 2) := pk_ushrN h _ 1 (by decide)
theorem zj_us2 {n : Nat} (h : n < 2 ^ 32) : ((nI n).toUInt32 >>> ((2 : Int32).toUInt32 &&& Int32.toUInt32 31)).toInt32 = nI (n / 4) := pk_ushrN h _ 2 (by decide)
theorem zj_us4 {n : Nat} (h : n < 2 ^ 32) : ((nI n).toUInt32 >>> ((4 : Int32).toUInt32 &&& Int32.toUInt32 31)).toInt32 = nI (n / 16) := pk_ushrN h _ 4 (by decide)
theorem zj_us8 {n : Nat} (h : n < 2 ^ 32) : ((nI n).toUInt32 >>> ((8 : Int32).toUInt32 &&& Int32.toUInt32 31)).toInt32 = nI (n / 256) := pk_ushrN h _ 8 (by decide)
theorem zj_us16 {n : Nat} (h : n < 2 ^ 32) : ((nI n).toUInt32 >>> ((16 : Int32).toUInt32 &&& Int32.toUInt32 31)).toInt32 = nI (n / 65536) := pk_ushrN h _ 16 (by decide)
def zj_ur (x s : Int32) : Int32 := (x.toUInt32 >>> (s.toUInt32 &&& Int32.toUInt32 31)).toInt32
def zj_n4 (n x : Int32) : Int32 := if x ≤ 4 then n + zj_ur x 1 else n + 2 + zj_ur (zj_ur x 2) 1
def zj_n3 (n x : Int32) : Int32 := if x ≤ 16 then zj_n4 n x else zj_n4 (n + 4) (zj_ur x 4)
def zj_n2 (n x : Int32) : Int32 := if x ≤ 256 then zj_n3 n x else zj_n3 (n + 8) (zj_ur x 8)
def zj_n1 (n x : Int32) : Int32 := if x ≤ 65536 then zj_n2 n x else zj_n2 (n + 16) (zj_ur x 16)
def zj_n0 (x : Int32) : Int32 := if 0 < x then zj_n1 1 x else x &&& 32
theorem zj_n_all : ∀ t, t < 16 → zj_n0 (nI (2 ^ t - 1)) = nI t := by decide +kernel
theorem zj_low {k : Nat} (hk : k < 65536) (h0 : k ≠ 0) : (nI k ^^^ (-1)) &&& (nI k - 1) = nI (2 ^ zl_lo k - 1) := by
  obtain ⟨-, h2, h3, h4⟩ := zl_lo_spec hk h0
  generalize zl_lo k = t at h2 h3 h4
  have hm : k % 2 ^ t = 0 := by
    apply Nat.eq_of_testBit_eq
    intro i
    rw [Nat.testBit_mod_two_pow, Nat.zero_testBit]
    by_cases hi : i < t
    · rw [h4 i hi]; simp
    · simp [hi]
  have ho : k / 2 ^ t % 2 = 1 := by
    rw [Nat.testBit_eq_decide_div_mod_eq] at h3
    simpa using h3
  obtain ⟨m, hmk⟩ : ∃ m, k = 2 ^ (t + 1) * m + 2 ^ t := by
    refine ⟨k / 2 ^ t / 2, ?_⟩
    have d1 := Nat.div_add_mod k (2 ^ t)
    have d2 := Nat.div_add_mod (k / 2 ^ t) 2
    rw [hm, Nat.add_zero] at d1
    rw [ho] at d2
    rw [Nat.pow_succ, Nat.mul_assoc]
    calc k = 2 ^ t * (k / 2 ^ t) := d1.symm
      _ = 2 ^ t * (2 * (k / 2 ^ t / 2) + 1) := by rw [d2]
      _ = 2 ^ t * (2 * (k / 2 ^ t / 2)) + 2 ^ t := by rw [Nat.mul_add, Nat.mul_one]
  have hp : 0 < 2 ^ t := Nat.two_pow_pos t
  have hk1 : k - 1 = 2 ^ (t + 1) * m + (2 ^ t - 1) := by omega
  have hlt : 2 ^ t - 1 < 2 ^ (t + 1) := by rw [Nat.pow_succ]; omega
  have hlt2 : 2 ^ t < 2 ^ (t + 1) := by rw [Nat.pow_succ]; omega
  have e1 : nI k - 1 = nI (k - 1) := by
    obtain ⟨q, rfl⟩ : ∃ q, k = q + 1 := ⟨k - 1, by omega⟩
    rw [nI_pred, Nat.add_sub_cancel]
  rw [e1, Int32.and_comm, zb_diff (by omega) (by omega)]
  congr 1
  apply Nat.eq_of_testBit_eq
  intro i
  rw [zn_diff_bit (by omega), Nat.testBit_two_pow_sub_one, hk1, Nat.testBit_two_pow_mul_add m hlt]
  conv => lhs; rw [hmk]
  rw [Nat.testBit_two_pow_mul_add m hlt2, Nat.testBit_two_pow_sub_one, Nat.testBit_two_pow]
  by_cases hi : i < t + 1
  · rw [if_pos hi, if_pos hi]
    by_cases hit : i < t
    · have : ¬ t = i := by omega
      simp [hit, this]
    · simp [hit]
  · rw [if_neg hi, if_neg hi]
    have : ¬ i < t := by omega
    cases m.testBit (i - (t + 1)) <;> simp [this]
section JA
variable {X : az_X} {d : Nat} {mem : az_M} {Q : Option az_V → az_M → Prop}
theorem s_bitCount {k : Nat} (hk : k < 65536) (hQ : Q (some (.inl (nI (zn_pc k)))) mem) : az_Sp X d mJ6_bitCount_0f7a4 [.inl (nI k)] mem Q := by
  rw [← zj_bc_pc hk] at hQ
  have h1 : (k / 2 &&& 1431655765) ≤ k := Nat.le_trans Nat.and_le_left (by omega)
  have b1 : zj_b1 k < 2 ^ 16 := by unfold zj_b1; omega
  have b2 : zj_b2 (zj_b1 k) < 2 ^ 18 := by
    unfold zj_b2
    have e1 : (zj_b1 k &&& 858993459) ≤ zj_b1 k := Nat.and_le_left
    have e2 : (zj_b1 k / 4 &&& 858993459) ≤ zj_b1 k / 4 := Nat.and_le_left
    omega
  have b3 : zj_b3 (zj_b2 (zj_b1 k)) < 2 ^ 20 := by
    unfold zj_b3
    have e1 : (zj_b2 (zj_b1 k) + zj_b2 (zj_b1 k) / 16 &&& 252645135) ≤ zj_b2 (zj_b1 k) + zj_b2 (zj_b1 k) / 16 := Nat.and_le_left
    omega
  have b4 : zj_b4 (zj_b3 (zj_b2 (zj_b1 k))) < 2 ^ 21 := by unfold zj_b4; omega
  refine az_body (by decide +kernel) (Nat.le_of_ble_eq_true rfl) ?_
  show az_Ev X _ mJ6_bitCount_0f7a4 0 [some (.inl (nI k))] [] mem Q
  refine az_iloadn dJ6_bitCount_0f7a4_0 rfl ?_
  refine az_iloadn dJ6_bitCount_0f7a4_1 rfl ?_
  refine az_iconst (v := 1) dJ6_bitCount_0f7a4_2 (by decide) ?_
  refine az_iushr dJ6_bitCount_0f7a4_3 ?_
  refine az_ldcw dJ6_bitCount_0f7a4_4 kcJ6_265 ?_
  refine az_iand dJ6_bitCount_0f7a4_7 ?_
  refine az_isub dJ6_bitCount_0f7a4_8 ?_
  rw [zj_us1 (by omega), show (1431655765 : Int32) = nI 1431655765 from rfl, fa_and, pk_sub h1, show k - (k / 2 &&& 1431655765) = zj_b1 k from rfl]
  refine az_istoren dJ6_bitCount_0f7a4_9 (by decide) ?_
  dsimp only [List.set]
  refine az_iloadn dJ6_bitCount_0f7a4_10 rfl ?_
  refine az_ldcw dJ6_bitCount_0f7a4_11 kcJ6_266 ?_
  refine az_iand dJ6_bitCount_0f7a4_14 ?_
  refine az_iloadn dJ6_bitCount_0f7a4_15 rfl ?_
  refine az_iconst (v := 2) dJ6_bitCount_0f7a4_16 (by decide) ?_
  refine az_iushr dJ6_bitCount_0f7a4_17 ?_
  refine az_ldcw dJ6_bitCount_0f7a4_18 kcJ6_266 ?_
  refine az_iand dJ6_bitCount_0f7a4_21 ?_
  refine az_iadd dJ6_bitCount_0f7a4_22 ?_
  rw [zj_us2 (by omega), show (858993459 : Int32) = nI 858993459 from rfl, fa_and, fa_and, nI_add, show (zj_b1 k &&& 858993459) + (zj_b1 k / 4 &&& 858993459) = zj_b2 (zj_b1 k) from rfl]
  refine az_istoren dJ6_bitCount_0f7a4_23 (by decide) ?_
  dsimp only [List.set]
  refine az_iloadn dJ6_bitCount_0f7a4_24 rfl ?_
  refine az_iloadn dJ6_bitCount_0f7a4_25 rfl ?_
  refine az_iconst (v := 4) dJ6_bitCount_0f7a4_26 (by decide) ?_
  refine az_iushr dJ6_bitCount_0f7a4_27 ?_
  refine az_iadd dJ6_bitCount_0f7a4_28 ?_
  refine az_ldcw dJ6_bitCount_0f7a4_29 kcJ6_267 ?_
  refine az_iand dJ6_bitCount_0f7a4_32 ?_
  rw [zj_us4 (by omega), show (252645135 : Int32) = nI 252645135 from rfl, nI_add, fa_and, show (zj_b2 (zj_b1 k) + zj_b2 (zj_b1 k) / 16 &&& 252645135) = zj_b3 (zj_b2 (zj_b1 k)) from rfl]
  refine az_istoren dJ6_bitCount_0f7a4_33 (by decide) ?_
  dsimp only [List.set]
  refine az_iloadn dJ6_bitCount_0f7a4_34 rfl ?_
  refine az_iloadn dJ6_bitCount_0f7a4_35 rfl ?_
  refine az_bipush (v := 8) dJ6_bitCount_0f7a4_36 (by decide) ?_
  refine az_iushr dJ6_bitCount_0f7a4_38 ?_
  refine az_iadd dJ6_bitCount_0f7a4_39 ?_
  rw [zj_us8 (by omega), nI_add, show zj_b3 (zj_b2 (zj_b1 k)) + zj_b3 (zj_b2 (zj_b1 k)) / 256 = zj_b4 (zj_b3 (zj_b2 (zj_b1 k))) from rfl]
  refine az_istoren dJ6_bitCount_0f7a4_40 (by decide) ?_
  dsimp only [List.set]
  refine az_iloadn dJ6_bitCount_0f7a4_41 rfl ?_
  refine az_iloadn dJ6_bitCount_0f7a4_42 rfl ?_
  refine az_bipush (v := 16) dJ6_bitCount_0f7a4_43 (by decide) ?_
  refine az_iushr dJ6_bitCount_0f7a4_45 ?_
  refine az_iadd dJ6_bitCount_0f7a4_46 ?_
  rw [zj_us16 (by omega), nI_add]
  refine az_istoren dJ6_bitCount_0f7a4_47 (by decide) ?_
  dsimp only [List.set]
  refine az_iloadn dJ6_bitCount_0f7a4_48 rfl ?_
  refine az_bipush (v := 63) dJ6_bitCount_0f7a4_49 (by decide) ?_
  refine az_iand dJ6_bitCount_0f7a4_51 ?_
  rw [show (63 : Int32) = nI 63 from rfl, fa_and]
  refine az_iret dJ6_bitCount_0f7a4_52 rfl ?_
  exact hQ
theorem t_bitCount {x : Int32} (hk : ∃ k, k < 65536 ∧ x = nI k) (hQ : Q (some (.inl (zm_many x))) mem) : az_Sp X d mJ6_bitCount_0f7a4 [.inl x] mem Q := by
  obtain ⟨k, hk, rfl⟩ := hk
  rw [zm_many_n (by omega)] at hQ
  exact s_bitCount hk hQ
theorem x_ntz {x : Int32} (hQ : Q (some (.inl (zj_n0 x))) mem) : az_Ev X d mJ6_numberOfTrailingZeros_0f7a4 8 [some (.inl x), none] [] mem Q := by
  have f4 : ∀ n x, Q (some (.inl (zj_n4 n x))) mem → az_Ev X d mJ6_numberOfTrailingZeros_0f7a4 62 [some (.inl x), some (.inl n)] [] mem Q := by
    intro n x hQ
    unfold zj_n4 at hQ
    refine az_iloadn dJ6_numberOfTrailingZeros_0f7a4_62 rfl ?_
    refine az_iconst (v := 4) dJ6_numberOfTrailingZeros_0f7a4_63 (by decide) ?_
    refine az_icmple (t := 74) dJ6_numberOfTrailingZeros_0f7a4_64 (by decide) (fun h64 => ?_) (fun h64 => ?_)
    · rw [if_pos h64] at hQ
      refine az_iloadn dJ6_numberOfTrailingZeros_0f7a4_74 rfl ?_
      refine az_iloadn dJ6_numberOfTrailingZeros_0f7a4_75 rfl ?_
      refine az_iconst (v := 1) dJ6_numberOfTrailingZeros_0f7a4_76 (by decide) ?_
      refine az_iushr dJ6_numberOfTrailingZeros_0f7a4_77 ?_
      refine az_iadd dJ6_numberOfTrailingZeros_0f7a4_78 ?_
      refine az_iret dJ6_numberOfTrailingZeros_0f7a4_79 rfl ?_
      exact hQ
    · rw [if_neg h64] at hQ
      refine az_iinc (w := 2) dJ6_numberOfTrailingZeros_0f7a4_67 rfl (by decide) (by decide) ?_
      dsimp only [List.set]
      refine az_iloadn dJ6_numberOfTrailingZeros_0f7a4_70 rfl ?_
      refine az_iconst (v := 2) dJ6_numberOfTrailingZeros_0f7a4_71 (by decide) ?_
      refine az_iushr dJ6_numberOfTrailingZeros_0f7a4_72 ?_
      refine az_istoren dJ6_numberOfTrailingZeros_0f7a4_73 (by decide) ?_
      dsimp only [List.set]
      refine az_iloadn dJ6_numberOfTrailingZeros_0f7a4_74 rfl ?_
      refine az_iloadn dJ6_numberOfTrailingZeros_0f7a4_75 rfl ?_
      refine az_iconst (v := 1) dJ6_numberOfTrailingZeros_0f7a4_76 (by decide) ?_
      refine az_iushr dJ6_numberOfTrailingZeros_0f7a4_77 ?_
      refine az_iadd dJ6_numberOfTrailingZeros_0f7a4_78 ?_
      refine az_iret dJ6_numberOfTrailingZeros_0f7a4_79 rfl ?_
      exact hQ
  have f3 : ∀ n x, Q (some (.inl (zj_n3 n x))) mem → az_Ev X d mJ6_numberOfTrailingZeros_0f7a4 49 [some (.inl x), some (.inl n)] [] mem Q := by
    intro n x hQ
    unfold zj_n3 at hQ
    refine az_iloadn dJ6_numberOfTrailingZeros_0f7a4_49 rfl ?_
    refine az_bipush (v := 16) dJ6_numberOfTrailingZeros_0f7a4_50 (by decide) ?_
    refine az_icmple (t := 62) dJ6_numberOfTrailingZeros_0f7a4_52 (by decide) (fun h52 => ?_) (fun h52 => ?_)
    · rw [if_pos h52] at hQ
      exact f4 _ _ hQ
    · rw [if_neg h52] at hQ
      refine az_iinc (w := 4) dJ6_numberOfTrailingZeros_0f7a4_55 rfl (by decide) (by decide) ?_
      dsimp only [List.set]
      refine az_iloadn dJ6_numberOfTrailingZeros_0f7a4_58 rfl ?_
      refine az_iconst (v := 4) dJ6_numberOfTrailingZeros_0f7a4_59 (by decide) ?_
      refine az_iushr dJ6_numberOfTrailingZeros_0f7a4_60 ?_
      refine az_istoren dJ6_numberOfTrailingZeros_0f7a4_61 (by decide) ?_
      dsimp only [List.set]
      exact f4 _ _ hQ
  have f2 : ∀ n x, Q (some (.inl (zj_n2 n x))) mem → az_Ev X d mJ6_numberOfTrailingZeros_0f7a4 34 [some (.inl x), some (.inl n)] [] mem Q := by
    intro n x hQ
    unfold zj_n2 at hQ
    refine az_iloadn dJ6_numberOfTrailingZeros_0f7a4_34 rfl ?_
    refine az_sipush (v := 256) dJ6_numberOfTrailingZeros_0f7a4_35 (by decide) ?_
    refine az_icmple (t := 49) dJ6_numberOfTrailingZeros_0f7a4_38 (by decide) (fun h38 => ?_) (fun h38 => ?_)
    · rw [if_pos h38] at hQ
      exact f3 _ _ hQ
    · rw [if_neg h38] at hQ
      refine az_iinc (w := 8) dJ6_numberOfTrailingZeros_0f7a4_41 rfl (by decide) (by decide) ?_
      dsimp only [List.set]
      refine az_iloadn dJ6_numberOfTrailingZeros_0f7a4_44 rfl ?_
      refine az_bipush (v := 8) dJ6_numberOfTrailingZeros_0f7a4_45 (by decide) ?_
      refine az_iushr dJ6_numberOfTrailingZeros_0f7a4_47 ?_
      refine az_istoren dJ6_numberOfTrailingZeros_0f7a4_48 (by decide) ?_
      dsimp only [List.set]
      exact f3 _ _ hQ
  have f1 : ∀ n x, Q (some (.inl (zj_n1 n x))) mem → az_Ev X d mJ6_numberOfTrailingZeros_0f7a4 19 [some (.inl x), some (.inl n)] [] mem Q := by
    intro n x hQ
    unfold zj_n1 at hQ
    refine az_iloadn dJ6_numberOfTrailingZeros_0f7a4_19 rfl ?_
    refine az_ldcw dJ6_numberOfTrailingZeros_0f7a4_20 kcJ6_264 ?_
    refine az_icmple (t := 34) dJ6_numberOfTrailingZeros_0f7a4_23 (by decide) (fun h23 => ?_) (fun h23 => ?_)
    · rw [if_pos h23] at hQ
      exact f2 _ _ hQ
    · rw [if_neg h23] at hQ
      refine az_iinc (w := 16) dJ6_numberOfTrailingZeros_0f7a4_26 rfl (by decide) (by decide) ?_
      dsimp only [List.set]
      refine az_iloadn dJ6_numberOfTrailingZeros_0f7a4_29 rfl ?_
      refine az_bipush (v := 16) dJ6_numberOfTrailingZeros_0f7a4_30 (by decide) ?_
      refine az_iushr dJ6_numberOfTrailingZeros_0f7a4_32 ?_
      refine az_istoren dJ6_numberOfTrailingZeros_0f7a4_33 (by decide) ?_
      dsimp only [List.set]
      exact f2 _ _ hQ
  unfold zj_n0 at hQ
  refine az_iloadn dJ6_numberOfTrailingZeros_0f7a4_8 rfl ?_
  refine az_ifgt (t := 17) dJ6_numberOfTrailingZeros_0f7a4_9 (by decide) (fun h9 => ?_) (fun h9 => ?_)
  · rw [if_pos h9] at hQ
    refine az_iconst (v := 1) dJ6_numberOfTrailingZeros_0f7a4_17 (by decide) ?_
    refine az_istoren dJ6_numberOfTrailingZeros_0f7a4_18 (by decide) ?_
    dsimp only [List.set]
    exact f1 _ _ hQ
  · rw [if_neg h9] at hQ
    refine az_iloadn dJ6_numberOfTrailingZeros_0f7a4_12 rfl ?_
    refine az_bipush (v := 32) dJ6_numberOfTrailingZeros_0f7a4_13 (by decide) ?_
    refine az_iand dJ6_numberOfTrailingZeros_0f7a4_15 ?_
    refine az_iret dJ6_numberOfTrailingZeros_0f7a4_16 rfl ?_
    exact hQ
theorem s_ntz {k : Nat} (hk : k < 65536) (hQ : Q (some (.inl (if k = 0 then 32 else nI (zl_lo k)))) mem) : az_Sp X d mJ6_numberOfTrailingZeros_0f7a4 [.inl (nI k)] mem Q := by
  refine az_body (by decide +kernel) (Nat.le_of_ble_eq_true rfl) ?_
  show az_Ev X _ mJ6_numberOfTrailingZeros_0f7a4 0 [some (.inl (nI k)), none] [] mem Q
  refine az_iloadn dJ6_numberOfTrailingZeros_0f7a4_0 rfl ?_
  refine az_iconst (v := -1) dJ6_numberOfTrailingZeros_0f7a4_1 (by decide) ?_
  refine az_ixor dJ6_numberOfTrailingZeros_0f7a4_2 ?_
  refine az_iloadn dJ6_numberOfTrailingZeros_0f7a4_3 rfl ?_
  refine az_iconst (v := 1) dJ6_numberOfTrailingZeros_0f7a4_4 (by decide) ?_
  refine az_isub dJ6_numberOfTrailingZeros_0f7a4_5 ?_
  refine az_iand dJ6_numberOfTrailingZeros_0f7a4_6 ?_
  refine az_istoren dJ6_numberOfTrailingZeros_0f7a4_7 (by decide) ?_
  dsimp only [List.set]
  refine x_ntz ?_
  by_cases h0 : k = 0
  · subst h0
    rw [if_pos rfl] at hQ
    rw [show zj_n0 ((nI 0 ^^^ (-1)) &&& (nI 0 - 1)) = 32 by decide +kernel]
    exact hQ
  · rw [if_neg h0] at hQ
    rw [zj_low hk h0, zj_n_all _ (zl_lo_spec hk h0).2.1]
    exact hQ
end JA

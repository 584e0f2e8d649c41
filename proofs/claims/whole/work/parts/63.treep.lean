/-! the class's tree beside the reference's -/
theorem zt_even {f : Nat → Nat → Bool} (hs : ∀ a b, f a b = f b a) (hd : ∀ a, f a a = false) : ∀ n, ∃ e, fb_sm (fun p => fb_ct (fun q => f p q) n) n = 2 * e
  | 0 => ⟨0, rfl⟩
  | n + 1 => by
    obtain ⟨e, he⟩ := zt_even hs hd n
    refine ⟨e + fb_ct (fun q => f n q) n, ?_⟩
    rw [fb_sm_succ]
    have e1 : fb_sm (fun p => fb_ct (fun q => f p q) (n + 1)) n = fb_sm (fun p => fb_ct (fun q => f p q) n + (if f p n then 1 else 0)) n := fb_sm_cong (fun p _ => by rw [fb_ct_succ])
    have e2 : fb_sm (fun p => if f p n then 1 else 0) n = fb_ct (fun q => f n q) n := by
      rw [fb_sm_ct (fun p => f p n) 1, Nat.mul_one]
      exact fb_ct_cong (fun k _ => hs k n)
    rw [e1, fb_sm_add, he, e2, fb_ct_succ, hd n]
    simp only [Bool.false_eq_true, if_false]
    omega
theorem zt_deg_ct {len : Nat → Int32} {N p : Nat} (hN : N ≤ 16) : zt_deg len N p = fb_ct (fun q => zm_bf len p q) N := by
  unfold zt_deg
  rw [zn_pc_ext hN zn_bs_lt]
  exact fb_ct_cong (fun k hk => by rw [zn_bs_bit]; simp [hk])
theorem zm_ends_n {len : Nat → Int32} {N : Nat} (hN : N ≤ 16) : zm_ends len N = nI (fb_sm (fun p => zt_deg len N p) N) := by
  unfold zm_ends
  refine zm_sum_n N (fun p _ => ?_)
  have hl := Nat.lt_of_lt_of_le (zn_lt (zm_bf len p) N) (zi_pow hN)
  rw [zm_mask_n _ N (by omega), zm_many_n (by omega)]
  rfl
theorem zt_ends {len : Nat → Int32} {N : Nat} (hN : N ≤ 16) (h1 : 1 ≤ N) (hG : zl_G len N) : zm_ends len N = 2 * (nI N - 1) ↔ zm_ends len N / 2 = nI N - 1 := by
  rw [zm_ends_n hN]
  obtain ⟨e, he⟩ := zt_even (f := fun a b => decide (a < N) && decide (b < N) && zm_bf len a b) (fun a b => by
    by_cases ca : a < N <;> by_cases cb : b < N <;> simp [ca, cb]
    exact hG.1 a b ca cb) (fun a => by
    by_cases ca : a < N <;> simp [ca]
    exact hG.2 a ca) N
  have e1 : fb_sm (fun p => zt_deg len N p) N = 2 * e := by
    rw [← he]
    refine fb_sm_cong (fun p hp => ?_)
    rw [zt_deg_ct hN]
    exact fb_ct_cong (fun q hq => by simp [hp, hq])
  have hb : fb_sm (fun p => zt_deg len N p) N ≤ N * 16 := fb_sm_bound (fun p _ => zn_pc_le _)
  rw [e1] at hb ⊢
  rw [show (2 : Int32) = nI 2 from rfl, show (1 : Int32) = nI 1 from rfl, nI_sub h1, pk_mul, pk_div (by omega) (by decide) (by decide), nI_eq (by omega) (by omega), nI_eq (by omega) (by omega)]
  omega
theorem zl_end_I {len : Nat → Int32} {N q : Nat} (hN : N ≤ 16) (hG : zl_G len N) : ∀ (f fr a : Nat) (V : Nat → Bool), zl_I len N V fr a → N ≤ fb_ct V N + f → V q = true → (∀ u, u < N → V u = true → u = q ∨ zt_deg len N u = 2) → ∃ V' fr', zl_I len N V' fr' (zl_go len N f fr a) ∧ zt_deg len N (zl_go len N f fr a) ≠ 2 ∧ V' q = true ∧ ∀ u, u < N → V' u = true → u = q ∨ zt_deg len N u = 2
  | 0, fr, a, V, hI, hf, hq, hu => by
    have := zl_full hI.2.1 hI.2.2.2.1
    omega
  | f + 1, fr, a, V, hI, hf, hq, hu => by
    rw [zl_go]
    by_cases c : zn_pc (zn_bs len N a) = 2
    · rw [if_pos c]
      have hI2 := zl_next hN hG hI c
      have hc := zl_ct hI.2.1 hI.2.2.2.1
      refine zl_end_I hN hG f a _ _ hI2 (by omega) ?_ (fun u hu1 hu2 => ?_)
      · by_cases e : q = a
        · simp [e]
        · simp [e, hq]
      · by_cases e : u = a
        · right; rw [e]; exact c
        · simp only [if_neg e] at hu2; exact hu u hu1 hu2
    · rw [if_neg c]
      exact ⟨V, fr, hI, c, hq, hu⟩
theorem zt_end {len : Nat → Int32} {N q : Nat} (hN : N ≤ 16) (hG : zl_G len N) (hq : q < N) (h1 : zt_deg len N q = 1) : ∃ V fr, zl_I len N V fr (zl_end len N q) ∧ zt_deg len N (zl_end len N q) ≠ 2 ∧ V q = true ∧ ∀ u, u < N → V u = true → u = q ∨ zt_deg len N u = 2 := by
  have hI := zl_start hN hG hq h1
  refine zl_end_I hN hG N q _ _ hI (by omega) (by simp) (fun u _ hu => Or.inl (by simpa using hu))
theorem zl_isl_iff {len : Nat → Int32} {N p : Nat} : zl_isl len N p = true ↔ ∃ q, q < N ∧ zt_deg len N q = 1 ∧ zl_end len N q = p := by
  unfold zl_isl
  rw [Option.isSome_iff_exists]
  constructor
  · rintro ⟨i, hi⟩
    have := zf_in_some hi
    unfold zl_led at this
    simp only [Bool.and_eq_true, decide_eq_true_eq] at this
    exact ⟨i, by omega, this.2.2.1, this.2.2.2⟩
  · rintro ⟨q, h1, h2, h3⟩
    cases hz : zf_in (zl_led len N p) N 0 with
    | some i => exact ⟨i, rfl⟩
    | none =>
      rw [zf_in_none] at hz
      have := hz q (by omega) (by omega)
      unfold zl_led at this
      unfold zt_deg at h2
      simp [h2, h3] at this
theorem zt_ko_bit {len : Nat → Int32} {N p : Nat} : ∀ n, (zt_ko len N n).testBit p = true ↔ ∃ q, q < n ∧ zt_deg len N q = 1 ∧ zl_end len N q = p ∧ 3 ≤ zt_deg len N p
  | 0 => by rw [zt_ko, Nat.zero_testBit]; exact ⟨fun h => (by cases h), fun ⟨q, h, _⟩ => absurd h (by omega)⟩
  | n + 1 => by
    rw [zt_ko, Nat.testBit_or, Bool.or_eq_true, zt_ko_bit n]
    constructor
    · rintro (⟨q, a, b⟩ | h)
      · exact ⟨q, by omega, b⟩
      · by_cases c : zt_deg len N n = 1
        · rw [if_pos c] at h
          unfold zt_kn0 at h
          by_cases g : 3 ≤ zt_deg len N (zl_end len N n)
          · rw [if_pos g, Nat.testBit_two_pow, decide_eq_true_eq] at h
            exact ⟨n, by omega, c, h, by rw [← h]; exact g⟩
          · rw [if_neg g, Nat.zero_testBit] at h; cases h
        · rw [if_neg c, Nat.zero_testBit] at h; cases h
    · rintro ⟨q, a, b, c, e⟩
      by_cases g : q = n
      · right
        subst g
        rw [if_pos b]
        unfold zt_kn0
        rw [c, if_pos e, Nat.testBit_two_pow]; simp
      · exact Or.inl ⟨q, by omega, b, c, e⟩
theorem zt_lv_n {len : Nat → Int32} {N : Nat} : zt_lv len N = nI (fb_ct (fun p => decide (zt_deg len N p = 1)) N) := by
  unfold zt_lv
  rw [← zm_sum_ct]
  exact zm_sum_congr N (fun i _ => by simp)
theorem zt_kn_n {len : Nat → Int32} {N : Nat} : zt_kn len N = nI (fb_ct (fun p => decide (2 < zt_deg len N p) && zl_isl len N p) N) := by
  unfold zt_kn
  rw [← zm_sum_ct]
  exact zm_sum_congr N (fun i _ => by simp)
theorem zt_ko_n {len : Nat → Int32} {N : Nat} (hN : N ≤ 16) (hG : zl_G len N) : zn_pc (zt_ko len N N) = fb_ct (fun p => decide (2 < zt_deg len N p) && zl_isl len N p) N := by
  have hb : ∀ p, (zt_ko len N N).testBit p = (decide (p < N) && (decide (2 < zt_deg len N p) && zl_isl len N p)) := by
    intro p
    rw [Bool.eq_iff_iff, zt_ko_bit, Bool.and_eq_true, Bool.and_eq_true, decide_eq_true_eq, decide_eq_true_eq, zl_isl_iff]
    constructor
    · rintro ⟨q, a, b, c, e⟩
      obtain ⟨V, fr, hI, _⟩ := zt_end hN hG a b
      rw [c] at hI
      exact ⟨hI.2.1, by omega, q, a, b, c⟩
    · rintro ⟨a, b, q, c, e, g⟩
      exact ⟨q, c, e, g, by omega⟩
  have hlt : zt_ko len N N < 2 ^ N := by
    refine Nat.lt_of_not_le (fun hc => ?_)
    obtain ⟨i, hi, hbit⟩ := Nat.exists_ge_and_testBit_of_ge_two_pow hc
    rw [hb i] at hbit
    simp only [Bool.and_eq_true, decide_eq_true_eq] at hbit
    omega
  rw [zn_pc_ext hN hlt]
  exact fb_ct_cong (fun p hp => by rw [hb p]; simp [hp])
theorem zn_pc_z {k : Nat} (hk : k < 65536) : zn_pc k = 0 ↔ k = 0 := by
  constructor
  · intro h
    exact zn_zero (n := 16) hk (fun i hi => fb_ct_zero.mp h i hi)
  · intro h; rw [h]; exact zn_pc_0
/-- a path: no knot, so just two leaves -/
theorem zt_path {len : Nat → Int32} {N q : Nat} (hN : N ≤ 16) (hG : zl_G len N) (hq : q < N) (h1 : zt_deg len N q = 1) (hk : ∀ p, p < N → 2 < zt_deg len N p → zl_isl len N p = false) (hcon : ∀ V : Nat → Bool, (∀ a b, a < N → b < N → zm_bf len a b = true → V a = V b) → ∀ b, b < N → V 0 = V b) : fb_ct (fun p => decide (zt_deg len N p = 1)) N = 2 := by
  obtain ⟨V, fr, hI, hne, hVq, hu⟩ := zt_end hN hG hq h1
  generalize he : zl_end len N q = e at hI hne
  obtain ⟨i1, i2, i3, i4, i5, i6, i7⟩ := hI
  have hd1 : zt_deg len N e = 1 := by
    have hpos : 0 < zt_deg len N e := fb_ct_pos.mpr ⟨fr, by omega, i5⟩
    rcases Nat.lt_or_ge 2 (zt_deg len N e) with g | g
    · have := hk e i2 g
      rw [zl_isl_iff.mpr ⟨q, hq, h1, he⟩] at this; cases this
    · omega
  have hne2 : q ≠ e := fun c => by rw [c, i4] at hVq; cases hVq
  have hclose : ∀ a b, a < N → b < N → zm_bf len a b = true → (V a || decide (a = e)) = true → (V b || decide (b = e)) = true := by
    intro a b ha hb hab hV
    have hbit : (zn_bs len N a).testBit b = true := by rw [zn_bs_bit]; simp [hb, hab]
    rw [Bool.or_eq_true, decide_eq_true_eq] at hV ⊢
    rcases hV with hV | hV
    · exact i6 a b hV ha hbit
    · left
      rw [hV] at hbit
      have x1 := zn_pc_1 (k := zn_bs len N e) (Nat.lt_of_lt_of_le zn_bs_lt (zi_pow hN)) hd1 hbit
      have x2 := zn_pc_1 (k := zn_bs len N e) (Nat.lt_of_lt_of_le zn_bs_lt (zi_pow hN)) hd1 i5
      rw [x1, ← x2]; exact i3
  have hall := hcon (fun u => V u || decide (u = e)) (fun a b ha hb hab => by
    rw [Bool.eq_iff_iff]
    exact ⟨hclose a b ha hb hab, hclose b a hb ha (by rw [← hG.1 a b ha hb]; exact hab)⟩)
  have hq1 : (V q || decide (q = e)) = true := by rw [hVq]; rfl
  have hev : ∀ u, u < N → (V u || decide (u = e)) = true := fun u hu => by rw [← hall u hu, hall q hq]; exact hq1
  have key : ∀ u, u < N → decide (zt_deg len N u = 1) = (if u = e then true else (if u = q then true else false)) := by
    intro u hu1
    by_cases c : u = e
    · rw [if_pos c, c]; simp [hd1]
    · rw [if_neg c]
      by_cases g : u = q
      · rw [if_pos g, g]; simp [h1]
      · rw [if_neg g]
        have := hev u hu1
        rw [Bool.or_eq_true, decide_eq_true_eq] at this
        have h2 := (hu u hu1 (this.resolve_right c)).resolve_left g
        simp [h2]
  rw [fb_ct_cong key]
  have e0 : fb_ct (fun _ => false) N = 0 := fb_ct_zero.mpr (fun _ _ => rfl)
  have e1 := fb_ct_upd (fun _ => false) true hq
  have e2 := fb_ct_upd (fun u => if u = q then true else false) true i2
  rw [e0] at e1
  have e3 : ¬ e = q := fun c => hne2 c.symm
  simp only [Bool.false_eq_true, if_false, if_true, e3, Nat.add_zero, Nat.zero_add] at e1 e2
  omega
theorem zt_tree_eq {len len' w w' : Nat → Int32} {N : Nat} (hN : N ≤ 16) (h1N : 1 ≤ N) (hG : zl_G len N) (hw : ∀ b, b < N → w' b = w b) (hcon : zm_reach w N 0 = nI N → ∀ V : Nat → Bool, (∀ a b, a < N → b < N → zm_bf len a b = true → V a = V b) → ∀ b, b < N → V 0 = V b) : (if zm_reach w' N 0 = nI N ∧ zm_ends len N / 2 = nI N - 1 then (if 0 < zt_lv len N ∧ zt_ko len N N = 0 then 1 else zt_lv len N - nI (zn_pc (zt_ko len N N))) else -1) = zt_tree len w N := by
  unfold zt_tree
  have hr : zm_reach w' N 0 = zm_reach w N 0 := zm_sum_congr N (fun q hq => by rw [show 16 * 0 + q = q by omega, hw q hq])
  rw [hr]
  by_cases c : zm_reach w N 0 = nI N ∧ zm_ends len N / 2 = nI N - 1
  · have c' : zm_ends len N = 2 * (nI N - 1) ∧ zm_reach w N 0 = nI N := ⟨(zt_ends hN h1N hG).mpr c.2, c.1⟩
    rw [if_pos c, if_pos c']
    have hlb := fb_ct_le (fun p => decide (zt_deg len N p = 1)) N
    have hkb := fb_ct_le (fun p => decide (2 < zt_deg len N p) && zl_isl len N p) N
    have hkz := zn_pc_z (zt_ko_lt (len := len) (N := N) N)
    rw [zt_ko_n hN hG] at hkz
    rw [zt_lv_n, zt_kn_n, zt_ko_n hN hG]
    have a1 : (0 : Int32) < nI (fb_ct (fun p => decide (zt_deg len N p = 1)) N) ↔ 0 < fb_ct (fun p => decide (zt_deg len N p = 1)) N := nI_ltI (a := 0) (by decide) (by omega)
    have a2 : nI (fb_ct (fun p => decide (zt_deg len N p = 1)) N) = 2 ↔ fb_ct (fun p => decide (zt_deg len N p = 1)) N = 2 := nI_eq (b := 2) (by omega) (by decide)
    have a3 : nI (fb_ct (fun p => decide (2 < zt_deg len N p) && zl_isl len N p) N) = 0 ↔ fb_ct (fun p => decide (2 < zt_deg len N p) && zl_isl len N p) N = 0 := nI_eq (b := 0) (by omega) (by decide)
    simp only [a1, a2, a3, ← hkz]
    by_cases n1 : N = 1
    · rw [if_pos n1]
      have z0 : ∀ p, p < N → zt_deg len N p = 0 := by
        intro p hp
        rw [zt_deg_ct hN]
        exact fb_ct_zero.mpr (fun q hq => by
          have : q = p := by omega
          rw [this]; exact hG.2 p hp)
      have l0 : fb_ct (fun p => decide (zt_deg len N p = 1)) N = 0 := fb_ct_zero.mpr (fun p hp => by rw [z0 p hp]; rfl)
      have k0 : fb_ct (fun p => decide (2 < zt_deg len N p) && zl_isl len N p) N = 0 := fb_ct_zero.mpr (fun p hp => by rw [z0 p hp]; rfl)
      rw [l0, k0, if_neg (by omega)]; rfl
    · rw [if_neg n1]
      by_cases k0 : fb_ct (fun p => decide (2 < zt_deg len N p) && zl_isl len N p) N = 0
      · by_cases l0 : 0 < fb_ct (fun p => decide (zt_deg len N p = 1)) N
        · obtain ⟨q, hq, hb⟩ := fb_ct_pos.mp l0
          have h2 := zt_path hN hG hq (by simpa using hb) (fun p hp hg => by
            have := fb_ct_zero.mp k0 p hp
            simpa [hg] using this) (hcon c.1)
          rw [if_pos ⟨l0, k0⟩, if_pos ⟨h2, k0⟩]
        · rw [if_neg (fun q => l0 q.1), if_neg (fun q => by omega)]
      · rw [if_neg (fun q => k0 q.2), if_neg (fun q => k0 q.2)]
  · rw [if_neg c, if_neg (fun q => c ⟨q.2, (zt_ends hN h1N hG).mp q.1⟩)]
theorem zl_go_congr {len len' : Nat → Int32} {N : Nat} (hb : ∀ p, p < 16 → zn_bs len N p = zn_bs len' N p) : ∀ (f fr a : Nat), a < 16 → zl_go len N f fr a = zl_go len' N f fr a
  | 0, _, _, _ => rfl
  | f + 1, fr, a, ha => by
    have e : zl_to len N a fr = zl_to len' N a fr := by unfold zl_to; rw [hb a ha]
    rw [zl_go, zl_go, hb a ha, e, zl_go_congr hb f a (zl_to len' N a fr) (zl_lo_lt _)]
theorem zl_end_congr {len len' : Nat → Int32} {N q : Nat} (hq : q < 16) (hb : ∀ p, p < 16 → zn_bs len N p = zn_bs len' N p) : zl_end len N q = zl_end len' N q := by
  unfold zl_end
  rw [zl_go_congr hb _ _ _ (zl_lo_lt _), hb q hq]
theorem zt_ko_congr {len len' : Nat → Int32} {N : Nat} (hb : ∀ p, p < 16 → zn_bs len N p = zn_bs len' N p) : ∀ n, n ≤ 16 → zt_ko len N n = zt_ko len' N n
  | 0, _ => rfl
  | n + 1, h => by
    rw [zt_ko, zt_ko, zt_ko_congr hb n (by omega)]
    unfold zt_kn0 zt_deg
    rw [zl_end_congr (by omega) hb, hb n (by omega), hb _ zl_end_lt]
theorem zt_lv_congr {len len' : Nat → Int32} {N : Nat} (hN : N ≤ 16) (hb : ∀ p, p < 16 → zn_bs len N p = zn_bs len' N p) : zt_lv len N = zt_lv len' N := zm_sum_congr N (fun i hi => by unfold zt_deg; rw [hb i (by omega)])
theorem zm_ends_congr {len len' : Nat → Int32} {N : Nat} (hN : N ≤ 16) (hl : ∀ i, i < 256 → len i = len' i) : zm_ends len N = zm_ends len' N := zm_sum_congr N (fun p hp => by rw [zm_congr (g := zm_bf len' p) N (fun q hq => by unfold zm_bf; rw [hl (16 * p + q) (by omega)])])

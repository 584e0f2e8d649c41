/-! the search for the best set: words and sums -/
def zh_meet (D : Nat → Nat) (n nd s : Nat) : Prop := ∀ i, i < n → nd ≤ zn_pc (s &&& D i)
def zh_D (mem : az_M) (D : Nat → Nat) (n : Nat) : Prop := mem 379 1 = nI n ∧ n ≤ 256 ∧ ∀ i, i < n → mem 380 i = nI (D i) ∧ D i < 65536
def zh_cs (c : Nat → Nat) (N s : Nat) : Nat := fb_sm (fun p => if s.testBit p then c p else 0) N
def zh_cb (put op s : Nat) : Bool := decide (put &&& s = put) && decide (s &&& (put ||| op) = s)
def zh_I (mt : Nat → Bool) (cs : Nat → Nat) (N : Nat) (A : Nat → Bool) (B S C : Nat) : Prop :=
  (∀ s, s < 2 ^ N → A s = true → mt s = true → B ≤ cs s) ∧ C = fb_ct (fun s => A s && mt s && decide (cs s = B)) (2 ^ N) ∧ ((B = 1000000 ∧ S = 0) ∨ (S < 2 ^ N ∧ A S = true ∧ mt S = true ∧ cs S = B ∧ ∀ s, s < 2 ^ N → A s = true → mt s = true → cs s = B → S ≤ s))
def zh_tk (B S C sum set : Nat) : Nat × Nat × Nat := if sum < B then (sum, set, 1) else if sum = B then (B, if set < S then set else S, C + 1) else (B, S, C)
theorem zn_pc_mono {a b : Nat} (h : ∀ i, a.testBit i = true → b.testBit i = true) : zn_pc a ≤ zn_pc b := fb_ct_sub (fun i _ hi => h i hi)
theorem zn_and_eq {a b : Nat} (h : a &&& b = a) (i : Nat) (hi : a.testBit i = true) : b.testBit i = true := by
  rw [← h, Nat.testBit_and, Bool.and_eq_true] at hi; exact hi.2
theorem zh_mono {a b s : Nat} (h : a &&& b = a) : zn_pc (s &&& a) ≤ zn_pc (s &&& b) := by
  refine zn_pc_mono (fun i hi => ?_)
  rw [Nat.testBit_and, Bool.and_eq_true] at hi ⊢
  exact ⟨hi.1, zn_and_eq h i hi.2⟩
theorem zn_pc_or {a b : Nat} (h : a &&& b = 0) : zn_pc (a ||| b) = zn_pc a + zn_pc b := by
  unfold zn_pc
  rw [← fb_ct_or]
  · exact fb_ct_cong (fun k _ => by rw [Nat.testBit_or])
  · intro k _ q
    have : (a &&& b).testBit k = true := by rw [Nat.testBit_and, q.1, q.2]; rfl
    rw [h, Nat.zero_testBit] at this; cases this
theorem fb_ct_cover {p q r : Nat → Bool} : ∀ {n : Nat}, (∀ k, k < n → p k = true → q k = true ∨ r k = true) → fb_ct p n ≤ fb_ct q n + fb_ct r n
  | 0, _ => Nat.zero_le _
  | n + 1, h => by
    have ih := fb_ct_cover (n := n) (fun k hk => h k (by omega))
    rw [fb_ct_succ, fb_ct_succ, fb_ct_succ]
    have := h n (by omega)
    cases hp : p n <;> cases hq : q n <;> cases hr : r n <;> simp_all <;> omega
theorem zn_pc_le_or {a b c : Nat} (h : ∀ i, c.testBit i = true → a.testBit i = true ∨ b.testBit i = true) : zn_pc c ≤ zn_pc a + zn_pc b := fb_ct_cover (fun i _ hi => h i hi)
theorem zh_cb_iff {put op s : Nat} : zh_cb put op s = true ↔ (∀ i, put.testBit i = true → s.testBit i = true) ∧ ∀ i, s.testBit i = true → put.testBit i = true ∨ op.testBit i = true := by
  unfold zh_cb
  rw [Bool.and_eq_true, decide_eq_true_eq, decide_eq_true_eq]
  constructor
  · rintro ⟨h1, h2⟩
    refine ⟨fun i hi => zn_and_eq h1 i hi, fun i hi => ?_⟩
    have := zn_and_eq h2 i hi
    rwa [Nat.testBit_or, Bool.or_eq_true] at this
  · rintro ⟨h1, h2⟩
    constructor
    · apply Nat.eq_of_testBit_eq
      intro i
      rw [Nat.testBit_and]
      cases hp : put.testBit i with
      | false => rfl
      | true => rw [h1 i hp]; rfl
    · apply Nat.eq_of_testBit_eq
      intro i
      rw [Nat.testBit_and, Nat.testBit_or]
      cases hp : s.testBit i with
      | false => rfl
      | true => rcases h2 i hp with h | h <;> simp [h]
theorem zh_cb_self {put op : Nat} : zh_cb put op put = true := zh_cb_iff.mpr ⟨fun _ h => h, fun _ h => Or.inl h⟩
theorem zh_cs_le {c : Nat → Nat} {N s : Nat} (hN : N ≤ 16) (hc : ∀ p, p < N → c p ≤ 1000) : zh_cs c N s ≤ 16000 := by
  have := fb_sm_bound (f := fun p => if s.testBit p then c p else 0) (c := 1000) (n := N) (fun k hk => by
    have := hc k hk
    split <;> omega)
  unfold zh_cs
  omega
/-- more marks cost more -/
theorem zh_cs_sum {c : Nat → Nat} {N a b s : Nat} (h1 : ∀ i, i < N → a.testBit i = true → s.testBit i = true ∧ b.testBit i = false) (h2 : ∀ i, i < N → b.testBit i = true → s.testBit i = true) : zh_cs c N a + zh_cs c N b ≤ zh_cs c N s := by
  unfold zh_cs
  rw [← fb_sm_add]
  refine fb_sm_le (fun k hk => ?_)
  have q1 := h1 k hk
  have q2 := h2 k hk
  cases ha : a.testBit k <;> cases hb : b.testBit k <;> cases hs : s.testBit k <;> simp_all
theorem zh_cs_low {c : Nat → Nat} {lc : Nat} (b : Nat) : ∀ {N : Nat}, (∀ p, p < N → lc ≤ c p) → fb_ct (fun i => b.testBit i) N * lc ≤ zh_cs c N b
  | 0, _ => by simp [fb_ct]
  | N + 1, h => by
    have ih := zh_cs_low b (N := N) (fun p hp => h p (by omega))
    have h1 := h N (by omega)
    unfold zh_cs at ih ⊢
    rw [fb_ct_succ, fb_sm_succ]
    cases hb : b.testBit N
    · simpa using ih
    · simp only [if_true]
      rw [Nat.add_mul]; omega
theorem zh_I_none {mt : Nat → Bool} {cs : Nat → Nat} {N : Nat} {A cb : Nat → Bool} {B S C : Nat} (hI : zh_I mt cs N A B S C) (h : ∀ s, s < 2 ^ N → cb s = true → mt s = true → B < cs s) : zh_I mt cs N (fun s => A s || cb s) B S C := by
  obtain ⟨h1, h2, h3⟩ := hI
  refine ⟨fun s hs ha hm => ?_, ?_, ?_⟩
  · rw [Bool.or_eq_true] at ha
    rcases ha with ha | ha
    · exact h1 s hs ha hm
    · exact Nat.le_of_lt (h s hs ha hm)
  · rw [h2]
    refine fb_ct_cong (fun s hs => ?_)
    cases hm : mt s
    · simp [hm]
    · cases hcb : cb s
      · simp [hcb]
      · have := h s hs hcb hm
        have : ¬ cs s = B := by omega
        simp [this]
  · rcases h3 with h3 | ⟨g1, g2, g3, g4, g5⟩
    · exact Or.inl h3
    · refine Or.inr ⟨g1, by simp [g2], g3, g4, fun s hs ha hm hc => ?_⟩
      rw [Bool.or_eq_true] at ha
      rcases ha with ha | ha
      · exact g5 s hs ha hm hc
      · have := h s hs ha hm; omega
theorem zh_I_take {mt : Nat → Bool} {cs : Nat → Nat} {N : Nat} {A cb : Nat → Bool} {B S C put : Nat} (hI : zh_I mt cs N A B S C) (hp : put < 2 ^ N) (hmp : mt put = true) (hcp : cb put = true) (hA : A put = false) (hb : cs put < 1000000) (h : ∀ s, s < 2 ^ N → cb s = true → s ≠ put → cs put < cs s) : zh_I mt cs N (fun s => A s || cb s) (zh_tk B S C (cs put) put).1 (zh_tk B S C (cs put) put).2.1 (zh_tk B S C (cs put) put).2.2 := by
  unfold zh_tk
  rcases Nat.lt_trichotomy (cs put) B with q | q | q
  · rw [if_pos q]
    obtain ⟨h1, h2, h3⟩ := hI
    refine ⟨fun s hs ha hm => ?_, ?_, Or.inr ⟨hp, by simp [hcp], hmp, rfl, fun s hs ha hm hc => ?_⟩⟩
    · rw [Bool.or_eq_true] at ha
      rcases ha with ha | ha
      · have := h1 s hs ha hm; dsimp only; omega
      · by_cases e : s = put
        · rw [e]; exact Nat.le_refl _
        · exact Nat.le_of_lt (h s hs ha e)
    · have e := fb_ct_upd (fun _ => false) true hp
      have e0 : fb_ct (fun _ => false) (2 ^ N) = 0 := fb_ct_zero.mpr (fun _ _ => rfl)
      rw [e0] at e
      simp only [Bool.false_eq_true, if_false, Nat.add_zero, Nat.zero_add, if_true] at e
      dsimp only
      rw [← e]
      refine fb_ct_cong (fun s hs => ?_)
      by_cases e : s = put
      · rw [if_pos e, e]; simp [hcp, hmp]
      · rw [if_neg e]
        cases hm : mt s
        · simp
        · have hne : ¬ cs s = cs put ∨ (A s = false ∧ cb s = false) := by
            cases hcb : cb s
            · cases hAs : A s
              · exact Or.inr ⟨rfl, rfl⟩
              · have := h1 s hs hAs hm; exact Or.inl (by omega)
            · have := h s hs hcb e; exact Or.inl (by omega)
          rcases hne with g | ⟨g1, g2⟩
          · simp [g]
          · simp [g1, g2]
    · rw [Bool.or_eq_true] at ha
      rcases ha with ha | ha
      · have := h1 s hs ha hm; dsimp only at hc ⊢; omega
      · by_cases e : s = put
        · rw [e]; exact Nat.le_refl _
        · have := h s hs ha e; dsimp only at hc ⊢; omega
  · rw [if_neg (by omega), if_pos q]
    obtain ⟨h1, h2, h3⟩ := hI
    refine ⟨fun s hs ha hm => ?_, ?_, ?_⟩
    · rw [Bool.or_eq_true] at ha
      rcases ha with ha | ha
      · exact h1 s hs ha hm
      · by_cases e : s = put
        · rw [e]; dsimp only; omega
        · have := h s hs ha e; dsimp only; omega
    · have e := fb_ct_upd (fun s => A s && mt s && decide (cs s = B)) true hp
      simp only [hA, Bool.false_and, Bool.false_eq_true, if_false, Nat.add_zero, if_true] at e
      dsimp only
      rw [h2, ← e]
      refine fb_ct_cong (fun s hs => ?_)
      by_cases e : s = put
      · rw [if_pos e, e]; simp [hcp, hmp, q]
      · rw [if_neg e]
        cases hcb : cb s
        · simp
        · have := h s hs hcb e
          have : ¬ cs s = B := by omega
          simp [this]
    · right
      rcases h3 with h3 | ⟨g1, g2, g3, g4, g5⟩
      · omega
      · dsimp only
        split
        · refine ⟨hp, by simp [hcp], hmp, q, fun s hs ha hm hc => ?_⟩
          rw [Bool.or_eq_true] at ha
          rcases ha with ha | ha
          · have := g5 s hs ha hm hc; omega
          · by_cases e : s = put
            · omega
            · have := h s hs ha e; omega
        · refine ⟨g1, by simp [g2], g3, g4, fun s hs ha hm hc => ?_⟩
          rw [Bool.or_eq_true] at ha
          rcases ha with ha | ha
          · exact g5 s hs ha hm hc
          · by_cases e : s = put
            · omega
            · have := h s hs ha e; omega
  · rw [if_neg (by omega), if_neg (by omega)]
    refine zh_I_none hI (fun s hs hcb _ => ?_)
    by_cases e : s = put
    · rw [e]; exact q
    · have := h s hs hcb e; omega
theorem zh_I_congr {mt : Nat → Bool} {cs : Nat → Nat} {N : Nat} {A A' : Nat → Bool} {B S C : Nat} (hI : zh_I mt cs N A B S C) (h : ∀ s, s < 2 ^ N → A s = A' s) : zh_I mt cs N A' B S C := by
  obtain ⟨h1, h2, h3⟩ := hI
  refine ⟨fun s hs ha => h1 s hs (by rw [h s hs]; exact ha), ?_, ?_⟩
  · rw [h2]; exact fb_ct_cong (fun s hs => by rw [h s hs])
  · rcases h3 with h3 | ⟨g1, g2, g3, g4, g5⟩
    · exact Or.inl h3
    · exact Or.inr ⟨g1, by rw [← h S g1]; exact g2, g3, g4, fun s hs ha => g5 s hs (by rw [h s hs]; exact ha)⟩
/-- with and without one post -/
theorem zh_cb_split {put op p s : Nat} (hop : op < 65536) (hp : op.testBit p = true) (hd : put &&& op = 0) : zh_cb put op s = (zh_cb (put ||| 2 ^ p) (zn_diff op (2 ^ p)) s || zh_cb put (zn_diff op (2 ^ p)) s) := by
  rw [Bool.eq_iff_iff, Bool.or_eq_true, zh_cb_iff, zh_cb_iff, zh_cb_iff]
  have hb : ∀ i, (zn_diff op (2 ^ p)).testBit i = (op.testBit i && !decide (p = i)) := fun i => by rw [zn_diff_bit (by omega), Nat.testBit_two_pow]
  constructor
  · rintro ⟨h1, h2⟩
    cases hs : s.testBit p
    · right
      refine ⟨h1, fun i hi => ?_⟩
      rcases h2 i hi with h | h
      · exact Or.inl h
      · right; rw [hb, h]
        have : ¬ p = i := fun e => by rw [e, hi] at hs; cases hs
        simp [this]
    · left
      refine ⟨fun i hi => ?_, fun i hi => ?_⟩
      · rw [fb_bit_set, Bool.or_eq_true, decide_eq_true_eq] at hi
        rcases hi with h | h
        · exact h1 i h
        · rw [h]; exact hs
      · by_cases e : p = i
        · left; rw [fb_bit_set]; simp [e]
        · rcases h2 i hi with h | h
          · left; rw [fb_bit_set, h]; rfl
          · right; rw [hb, h]; simp [e]
  · rintro (⟨h1, h2⟩ | ⟨h1, h2⟩)
    · refine ⟨fun i hi => h1 i (by rw [fb_bit_set, hi]; rfl), fun i hi => ?_⟩
      rcases h2 i hi with h | h
      · rw [fb_bit_set, Bool.or_eq_true, decide_eq_true_eq] at h
        rcases h with h | h
        · exact Or.inl h
        · right; rw [h]; exact hp
      · rw [hb, Bool.and_eq_true] at h; exact Or.inr h.1
    · refine ⟨h1, fun i hi => ?_⟩
      rcases h2 i hi with h | h
      · exact Or.inl h
      · rw [hb, Bool.and_eq_true] at h; exact Or.inr h.1
theorem zh_cb_dis {put op p s : Nat} (hop : op < 65536) (hp : op.testBit p = true) (hd : put &&& op = 0) (h : zh_cb (put ||| 2 ^ p) (zn_diff op (2 ^ p)) s = true) : zh_cb put (zn_diff op (2 ^ p)) s = false := by
  rw [zh_cb_iff] at h
  cases h2 : zh_cb put (zn_diff op (2 ^ p)) s
  · rfl
  · rw [zh_cb_iff] at h2
    have hs : s.testBit p = true := h.1 p (by rw [fb_bit_set]; simp)
    rcases h2.2 p hs with g | g
    · have : (put &&& op).testBit p = true := by rw [Nat.testBit_and, g, hp]; rfl
      rw [hd, Nat.zero_testBit] at this; cases this
    · rw [zn_diff_bit (by omega), Nat.testBit_two_pow] at g; simp at g

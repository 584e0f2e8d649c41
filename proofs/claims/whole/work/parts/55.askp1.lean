/-! sums over the classes of a key: leaders, and the lists of groups -/
def zk_ld (key : Nat → Int32) (T : Nat → Bool) (p : Nat) : Bool := T p && (zf_in (fun r => T r && decide (key r = key p)) p 0).isNone
theorem zk_ld_iff {key : Nat → Int32} {T : Nat → Bool} {p : Nat} : zk_ld key T p = true ↔ T p = true ∧ ∀ r, r < p → T r = true → key r ≠ key p := by
  unfold zk_ld
  rw [Bool.and_eq_true, Option.isNone_iff_eq_none, zf_in_none]
  constructor
  · rintro ⟨h1, h2⟩
    refine ⟨h1, fun r hr hT hk => ?_⟩
    have := h2 r (by omega) (by omega)
    rw [hT, hk] at this; simp at this
  · rintro ⟨h1, h2⟩
    refine ⟨h1, fun r _ hr => ?_⟩
    cases hT : T r
    · rfl
    · have := h2 r (by omega) hT
      simp [this]
theorem zk_first {b : Nat → Bool} {N : Nat} (h : ∃ r, r < N ∧ b r = true) : ∃ r, r < N ∧ b r = true ∧ ∀ j, j < r → b j = false := by
  obtain ⟨r, hr, hb⟩ := h
  have hs := zf_in_spec (f := b) N 0
  cases hz : zf_in b N 0 with
  | none => rw [hz] at hs; have := hs r (by omega) (by omega); rw [hb] at this; cases this
  | some i => rw [hz] at hs; exact ⟨i, by have := hs.2.1; omega, hs.2.2.1, fun j hj => hs.2.2.2 j (by omega) hj⟩
theorem zk_one {key : Nat → Int32} {T : Nat → Bool} {N q : Nat} (h : ∃ r, r < N ∧ T r = true ∧ key r = key q) : fb_ct (fun p => zk_ld key T p && decide (key p = key q)) N = 1 := by
  obtain ⟨r0, h0, h1, h2⟩ := zk_first (b := fun r => T r && decide (key r = key q)) (N := N) (by obtain ⟨r, a, b, c⟩ := h; exact ⟨r, a, by simp [b, c]⟩)
  simp only [Bool.and_eq_true, decide_eq_true_eq] at h1
  have hz : ∀ j, j < r0 → T j = true → key j ≠ key q := fun j hj hT hk => by
    have := h2 j hj; simp [hT, hk] at this
  have e := fb_ct_upd (fun _ => false) true h0
  have e0 : fb_ct (fun _ => false) N = 0 := fb_ct_zero.mpr (fun _ _ => rfl)
  rw [e0] at e
  simp only [Bool.false_eq_true, if_false, Nat.add_zero, Nat.zero_add, if_true] at e
  rw [← e]
  refine fb_ct_cong (fun p hp => ?_)
  by_cases c : p = r0
  · rw [if_pos c, c, Bool.and_eq_true, zk_ld_iff, decide_eq_true_eq]
    exact ⟨⟨h1.1, fun r hr hT => by rw [h1.2]; exact hz r hr hT⟩, h1.2⟩
  · rw [if_neg c]
    cases hl : zk_ld key T p
    · rfl
    · rw [zk_ld_iff] at hl
      have : ¬ key p = key q := fun hk => by
        rcases Nat.lt_or_ge p r0 with g | g
        · exact hz p g hl.1 hk
        · exact hl.2 r0 (by omega) h1.1 (by rw [h1.2, hk])
      simp [this]
theorem fb_sm_swap (f : Nat → Nat → Nat) (M : Nat) : ∀ N, fb_sm (fun i => fb_sm (fun j => f i j) M) N = fb_sm (fun j => fb_sm (fun i => f i j) N) M
  | 0 => by
    have := fb_sm_const 0 M
    rw [Nat.mul_zero] at this
    exact this.symm
  | N + 1 => by
    rw [fb_sm_succ, fb_sm_swap f M N, ← fb_sm_add]
    exact fb_sm_cong (fun k _ => by rw [fb_sm_succ])
theorem fb_sm_ct (b : Nat → Bool) (c : Nat) : ∀ N, fb_sm (fun p => if b p then c else 0) N = fb_ct b N * c
  | 0 => by simp [fb_sm, fb_ct]
  | N + 1 => by
    rw [fb_sm_succ, fb_ct_succ, fb_sm_ct b c N, Nat.add_mul]
    cases b N <;> simp
theorem fb_sm_0 (N : Nat) : fb_sm (fun _ => 0) N = 0 := by have := fb_sm_const 0 N; rw [Nat.mul_zero] at this; exact this
theorem zk_move {key : Nat → Int32} {T U : Nat → Bool} {F : Nat → Nat} {N : Nat} (hTU : ∀ p, p < N → T p = true → U p = true) (hF : ∀ r p, r < N → p < N → key r = key p → F r = F p) (h0 : ∀ r, r < N → (∀ q, q < N → T q = true → key q ≠ key r) → F r = 0) : fb_sm (fun r => if zk_ld key U r then F r else 0) N = fb_sm (fun p => if zk_ld key T p then F p else 0) N := by
  have s1 : ∀ r, r < N → (if zk_ld key U r then F r else 0) = fb_sm (fun p => if zk_ld key U r && (zk_ld key T p && decide (key p = key r)) then F p else 0) N := by
    intro r hr
    cases hl : zk_ld key U r
    · simp only [Bool.false_and, Bool.false_eq_true, if_false]; exact (fb_sm_0 N).symm
    · simp only [Bool.true_and, if_true]
      have e : fb_sm (fun p => if (zk_ld key T p && decide (key p = key r)) = true then F p else 0) N = fb_sm (fun p => if (zk_ld key T p && decide (key p = key r)) = true then F r else 0) N := fb_sm_cong (fun p hp => by
        by_cases c : (zk_ld key T p && decide (key p = key r)) = true
        · rw [if_pos c, if_pos c]
          simp only [Bool.and_eq_true, decide_eq_true_eq] at c
          exact hF p r hp hr c.2
        · rw [if_neg c, if_neg c])
      rw [e, fb_sm_ct]
      by_cases hm : ∃ q, q < N ∧ T q = true ∧ key q = key r
      · rw [zk_one hm, Nat.one_mul]
      · rw [h0 r hr (fun q h1 h2 h3 => hm ⟨q, h1, h2, h3⟩), Nat.mul_zero]
  rw [fb_sm_cong s1, fb_sm_swap]
  refine fb_sm_cong (fun p hp => ?_)
  cases hl : zk_ld key T p
  · simp only [Bool.false_and, Bool.and_false, Bool.false_eq_true, if_false]; exact fb_sm_0 N
  · simp only [Bool.true_and, if_true]
    have hT := (zk_ld_iff.mp hl).1
    have e : fb_sm (fun r => if (zk_ld key U r && decide (key p = key r)) = true then F p else 0) N = fb_sm (fun r => if (zk_ld key U r && decide (key r = key p)) = true then F p else 0) N := fb_sm_cong (fun r _ => by
      have : (key p = key r) ↔ (key r = key p) := ⟨Eq.symm, Eq.symm⟩
      simp only [this])
    rw [e, fb_sm_ct, zk_one ⟨p, hp, hTU p hp hT, rfl⟩, Nat.one_mul]
theorem zk_part {key : Nat → Int32} {T : Nat → Bool} {f : Nat → Nat} {N : Nat} : fb_sm (fun p => if zk_ld key T p then fb_sm (fun q => if T q && decide (key q = key p) then f q else 0) N else 0) N = fb_sm (fun q => if T q then f q else 0) N := by
  have s1 : ∀ p, p < N → (if zk_ld key T p then fb_sm (fun q => if T q && decide (key q = key p) then f q else 0) N else 0) = fb_sm (fun q => if zk_ld key T p && (T q && decide (key q = key p)) then f q else 0) N := by
    intro p hp
    cases hl : zk_ld key T p
    · simp only [Bool.false_and, Bool.false_eq_true, if_false]; exact (fb_sm_0 N).symm
    · simp only [Bool.true_and, if_true]
  rw [fb_sm_cong s1, fb_sm_swap]
  refine fb_sm_cong (fun q hq => ?_)
  cases hT : T q
  · simp only [Bool.false_and, Bool.and_false, Bool.false_eq_true, if_false]; exact fb_sm_0 N
  · simp only [Bool.true_and, if_true]
    have e : fb_sm (fun p => if (zk_ld key T p && decide (key q = key p)) = true then f q else 0) N = fb_sm (fun p => if (zk_ld key T p && decide (key p = key q)) = true then f q else 0) N := fb_sm_cong (fun r _ => by
      have : (key q = key r) ↔ (key r = key q) := ⟨Eq.symm, Eq.symm⟩
      simp only [this])
    rw [e, fb_sm_ct, zk_one ⟨q, hq, hT, rfl⟩, Nat.one_mul]
def zls (f : Nat → Nat) : List Nat → Nat
  | [] => 0
  | g :: gs => f g + zls f gs
theorem zls_append (f : Nat → Nat) : ∀ (l k : List Nat), zls f (l ++ k) = zls f l + zls f k
  | [], k => by rw [List.nil_append, zls, Nat.zero_add]
  | g :: gs, k => by rw [List.cons_append, zls, zls, zls_append f gs k, Nat.add_assoc]
theorem fb_sm_list (f : Nat → Nat) : ∀ l : List Nat, fb_sm (fun i => f (l.getD i 0)) l.length = zls f l
  | [] => rfl
  | g :: gs => by
    have h := fb_sm_split (fun i => f ((g :: gs).getD i 0)) 1 gs.length
    rw [List.length_cons, Nat.add_comm gs.length 1, h, zls, ← fb_sm_list f gs]
    have e1 : fb_sm (fun i => f ((g :: gs).getD i 0)) 1 = f g := by rw [fb_sm_succ]; simp [fb_sm]
    rw [e1]
    congr 1
    exact fb_sm_cong (fun k _ => by rw [Nat.add_comm 1 k, List.getD_cons_succ])
theorem zls_map (f b : Nat → Nat) : ∀ l : List Nat, zls f (l.map b) = zls (fun g => f (b g)) l
  | [] => rfl
  | g :: gs => by rw [List.map_cons, zls, zls, zls_map f b gs]
theorem zls_filter {f : Nat → Nat} (h : f 0 = 0) : ∀ l : List Nat, zls f (l.filter (fun b => !decide (b = 0))) = zls f l
  | [] => rfl
  | g :: gs => by
    by_cases e : g = 0
    · rw [List.filter_cons_of_neg (by simp [e]), zls, zls_filter h gs, e, h, Nat.zero_add]
    · rw [List.filter_cons_of_pos (by simp [e]), zls, zls, zls_filter h gs]
theorem zls_pl {f : Nat → Nat} (h0 : f 0 = 0) (h : Nat → Nat) (np : Nat) (l : List Nat) : zls f (zg_pl h np l) = zls (fun g => f (zg_b h np g)) l := by
  unfold zg_pl
  rw [zls_filter h0, zls_map]
theorem zx_sa_bit {an : Nat → Int32} {N m r q : Nat} : (zn_mask (zx_sa an m r) N).testBit q = true ↔ q < N ∧ an (16 * m + q) = an (16 * m + r) := by
  rw [zn_bit]; unfold zx_sa; simp
theorem zx_sa_eq {an : Nat → Int32} {N m r p : Nat} (h : an (16 * m + r) = an (16 * m + p)) : zn_mask (zx_sa an m r) N = zn_mask (zx_sa an m p) N := zn_congr N (fun i _ => by unfold zx_sa; rw [h])
theorem zx_g_step {an : Nat → Int32} {N m p g : Nat} (hg : ∀ q, q < N → (g.testBit q = true ↔ ∃ r, r < p ∧ an (16 * m + r) = an (16 * m + q))) : ∀ q, q < N → ((g ||| zn_mask (zx_sa an m p) N).testBit q = true ↔ ∃ r, r < p + 1 ∧ an (16 * m + r) = an (16 * m + q)) := by
  intro q hq
  rw [Nat.testBit_or, Bool.or_eq_true, hg q hq, zx_sa_bit]
  constructor
  · rintro (⟨r, h1, h2⟩ | ⟨_, h2⟩)
    · exact ⟨r, by omega, h2⟩
    · exact ⟨p, by omega, h2.symm⟩
  · rintro ⟨r, h1, h2⟩
    by_cases e : r = p
    · subst e; exact Or.inr ⟨hq, h2.symm⟩
    · exact Or.inl ⟨r, by omega, h2⟩
theorem zx_g_keep {an : Nat → Int32} {N m p g : Nat} (hp : p < N) (hg : ∀ q, q < N → (g.testBit q = true ↔ ∃ r, r < p ∧ an (16 * m + r) = an (16 * m + q))) (h : g.testBit p = true) : ∀ q, q < N → (g.testBit q = true ↔ ∃ r, r < p + 1 ∧ an (16 * m + r) = an (16 * m + q)) := by
  intro q hq
  rw [hg q hq]
  constructor
  · rintro ⟨r, h1, h2⟩; exact ⟨r, by omega, h2⟩
  · rintro ⟨r, h1, h2⟩
    by_cases e : r = p
    · subst e
      obtain ⟨r', h3, h4⟩ := (hg r hp).mp h
      exact ⟨r', h3, by rw [h4, h2]⟩
    · exact ⟨r, by omega, h2⟩
theorem zx_g_sum {an : Nat → Int32} {N m : Nat} (f : Nat → Nat) : ∀ (n p g : Nat) (l : List Nat), p + n = N → (∀ q, q < N → (g.testBit q = true ↔ ∃ r, r < p ∧ an (16 * m + r) = an (16 * m + q))) → zls f (zx_g an N m n p g l) = zls f l + fb_sm (fun i => if zk_ld (fun q => an (16 * m + q)) (fun _ => true) (p + i) then f (zn_mask (zx_sa an m (p + i)) N) else 0) n
  | 0, p, g, l, _, _ => rfl
  | n + 1, p, g, l, hp, hg => by
    have hld : zk_ld (fun q => an (16 * m + q)) (fun _ => true) p = !g.testBit p := by
      rw [Bool.eq_iff_iff, zk_ld_iff]
      simp only [true_and, Bool.not_eq_true']
      constructor
      · intro h
        cases hb : g.testBit p
        · rfl
        · obtain ⟨r, h1, h2⟩ := (hg p (by omega)).mp hb
          exact absurd h2 (h r h1 trivial)
      · intro hb r hr _ h2
        have := (hg p (by omega)).mpr ⟨r, hr, h2⟩
        rw [hb] at this; cases this
    rw [Nat.add_comm n 1, fb_sm_split]
    have e1 : fb_sm (fun i => if zk_ld (fun q => an (16 * m + q)) (fun _ => true) (p + i) then f (zn_mask (zx_sa an m (p + i)) N) else 0) 1 = if g.testBit p then 0 else f (zn_mask (zx_sa an m p) N) := by
      rw [fb_sm_succ]
      simp only [fb_sm, Nat.zero_add, Nat.add_zero, hld]
      cases g.testBit p <;> rfl
    have e2 : fb_sm (fun k => if zk_ld (fun q => an (16 * m + q)) (fun _ => true) (p + (1 + k)) then f (zn_mask (zx_sa an m (p + (1 + k))) N) else 0) n = fb_sm (fun i => if zk_ld (fun q => an (16 * m + q)) (fun _ => true) (p + 1 + i) then f (zn_mask (zx_sa an m (p + 1 + i)) N) else 0) n := fb_sm_cong (fun k _ => by rw [Nat.add_assoc p 1 k])
    rw [e1, e2, Nat.add_comm 1 n, zx_g]
    cases hb : g.testBit p
    · simp only [Bool.false_eq_true, if_false]
      rw [zx_g_sum f n (p + 1) _ _ (by omega) (zx_g_step hg), zls_append, zls, zls, Nat.add_zero, Nat.add_assoc]
    · simp only [if_true, Nat.zero_add]
      rw [zx_g_sum f n (p + 1) g l (by omega) (zx_g_keep (by omega) hg hb)]
theorem zx_gl_sum {an : Nat → Int32} {N m : Nat} (f : Nat → Nat) : zls f (zx_gl an N m) = fb_sm (fun r => if zk_ld (fun q => an (16 * m + q)) (fun _ => true) r then f (zn_mask (zx_sa an m r) N) else 0) N := by
  have := zx_g_sum (an := an) (N := N) (m := m) f N 0 0 [] (by omega) (fun q _ => ⟨fun h => by rw [Nat.zero_testBit] at h; (cases h), fun ⟨r, h, _⟩ => absurd h (by omega)⟩)
  unfold zx_gl
  rw [this, zls, Nat.zero_add]
  exact fb_sm_cong (fun k _ => by rw [Nat.zero_add])
theorem zx_g_all {an : Nat → Int32} {N m : Nat} : ∀ (n p g : Nat) (l : List Nat), p + n = N → (∀ q, q < N → (g.testBit q = true ↔ ∃ r, r < p ∧ an (16 * m + r) = an (16 * m + q))) → (∀ r, r < p → zn_mask (zx_sa an m r) N ∈ l) → (∀ g, g ∈ l → ∃ r, r < N ∧ g = zn_mask (zx_sa an m r) N) → (∀ r, r < N → zn_mask (zx_sa an m r) N ∈ zx_g an N m n p g l) ∧ ∀ g', g' ∈ zx_g an N m n p g l → ∃ r, r < N ∧ g' = zn_mask (zx_sa an m r) N
  | 0, p, g, l, hp, hg, h1, h2 => ⟨fun r hr => h1 r (by omega), h2⟩
  | n + 1, p, g, l, hp, hg, h1, h2 => by
    rw [zx_g]
    cases hb : g.testBit p
    · simp only [Bool.false_eq_true, if_false]
      refine zx_g_all n (p + 1) _ _ (by omega) (zx_g_step hg) (fun r hr => ?_) (fun g' hg' => ?_)
      · by_cases e : r = p
        · rw [e]; exact List.mem_append_right _ (List.mem_singleton.mpr rfl)
        · exact List.mem_append_left _ (h1 r (by omega))
      · rcases List.mem_append.mp hg' with q | q
        · exact h2 g' q
        · exact ⟨p, by omega, List.mem_singleton.mp q⟩
    · simp only [if_true]
      refine zx_g_all n (p + 1) g l (by omega) (zx_g_keep (by omega) hg hb) (fun r hr => ?_) h2
      by_cases e : r = p
      · obtain ⟨r', h3, h4⟩ := (hg p (by omega)).mp hb
        rw [e, ← zx_sa_eq h4]; exact h1 r' h3
      · exact h1 r (by omega)
theorem zx_gl_all {an : Nat → Int32} {N m : Nat} : (∀ r, r < N → zn_mask (zx_sa an m r) N ∈ zx_gl an N m) ∧ ∀ g', g' ∈ zx_gl an N m → ∃ r, r < N ∧ g' = zn_mask (zx_sa an m r) N :=
  zx_g_all N 0 0 [] (by omega) (fun q _ => ⟨fun h => by rw [Nat.zero_testBit] at h; (cases h), fun ⟨r, h, _⟩ => absurd h (by omega)⟩) (fun r hr => absurd hr (by omega)) (fun g hg => by cases hg)

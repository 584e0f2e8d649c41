/-! the class's sums, pairs, clashes beside the reference's -/
theorem zc_pr_n {f : Nat → Nat → Int32} {q : Nat → Nat → Bool} {N : Nat} (hf : ∀ a b, a < b → b < N → f a b = if q a b then 1 else 0) : ∀ (k a c : Nat), a + k = N → zc_pr f N k a (nI c) = nI (c + fb_sm (fun i => fb_ct (fun j => q (a + i) (a + i + 1 + j)) (N - (a + i + 1))) k)
  | 0, a, c, _ => rfl
  | k + 1, a, c, h => by
    rw [zc_pr, zc_in_ct (q := q a) (N - (a + 1)) (a + 1) c (fun i h1 h2 => hf a i (by omega) (by omega)), zc_pr_n hf k (a + 1) _ (by omega)]
    have e := fb_sm_split (fun i => fb_ct (fun j => q (a + i) (a + i + 1 + j)) (N - (a + i + 1))) 1 k
    rw [Nat.add_comm k 1, e]
    have e1 : fb_sm (fun i => fb_ct (fun j => q (a + i) (a + i + 1 + j)) (N - (a + i + 1))) 1 = fb_ct (fun j => q a (a + 1 + j)) (N - (a + 1)) := by rw [fb_sm_succ]; simp [fb_sm]
    rw [e1, Nat.add_assoc]
    congr 2
    congr 1
    exact fb_sm_cong (fun i _ => by rw [show a + 1 + i = a + (1 + i) by omega])
theorem zg_l_n {P : Nat → Int32} {x nd : Int32} {N : Nat} (hN : N ≤ 16) : ∃ k, zg_l P x nd N = nI k ∧ k ≤ 256 ∧ (k = 0 ↔ ∀ a b, a < b → b < N → zl_lk P x nd a b = false) := by
  refine ⟨_, zc_pr_n (f := fun a b => if zl_lk P x nd a b then 1 else 0) (q := zl_lk P x nd) (fun a b _ _ => rfl) N 0 0 (by omega), ?_, ?_⟩
  · rw [Nat.zero_add]
    have := fb_sm_bound (f := fun i => fb_ct (fun j => zl_lk P x nd (0 + i) (0 + i + 1 + j)) (N - (0 + i + 1))) (c := 16) (n := N) (fun i _ => Nat.le_trans (fb_ct_le _ _) (by omega))
    omega
  · rw [Nat.zero_add]
    constructor
    · intro h a b hab hb
      have := fb_sm_zero h a (by omega)
      have h2 := fb_ct_zero.mp this (b - (a + 1)) (by omega)
      rw [show 0 + a = a by omega, show a + 1 + (b - (a + 1)) = b by omega] at h2
      exact h2
    · intro h
      rw [fb_sm_cong (g := fun _ => 0) (fun i hi => fb_ct_zero.mpr (fun j hj => h _ _ (by omega) (by omega)))]
      exact fb_sm_0 N
theorem zg_c_0 {P : Nat → Int32} {x nd : Int32} {N : Nat} (h : ∀ a b, a < b → b < N → zl_lk P x nd a b = false) (m : Nat) : zg_c P x nd N m = 0 := by
  unfold zg_c
  have := zc_pr_n (f := zg_f P x nd m) (q := fun _ _ => false) (N := N) (fun a b h1 h2 => by unfold zg_f; rw [h a b h1 h2]; simp) N 0 0 (by omega)
  rw [show (0 : Int32) = nI 0 from rfl, this, Nat.zero_add, fb_sm_cong (g := fun _ => 0) (fun i _ => fb_ct_zero.mpr (fun _ _ => rfl)), fb_sm_0]
theorem zg_m_0 {c : Nat → Int32} {x : Int32} (h : ∀ m, c m = 0) : ∀ (n m : Nat) (b : Int32), zg_m c x n m b 0 = b
  | 0, _, _ => rfl
  | n + 1, m, b => by rw [zg_m, if_pos (Or.inr (by rw [h m]; exact Int32.le_refl _)), zg_m_0 h n (m + 1) b]
theorem zg_w_y {P : Nat → Int32} {nd : Int32} {N : Nat} (hN : N ≤ 16) : ∀ (f s : Nat), s < 2 ^ N → zg_w P nd N f (nI s) = (zy_w P nd N f (nI s), zg_l P (zy_w P nd N f (nI s)) nd N)
  | 0, s, _ => rfl
  | f + 1, s, hs => by
    rw [zg_w, zy_w]
    obtain ⟨k, h1, h2, h3⟩ := zg_l_n (P := P) (x := nI s) (nd := nd) hN
    rcases zg_best_or (P := P) (nd := nd) hN hs with e | ⟨i, hi, e1, e2, e3, _⟩
    · rw [if_pos e, if_neg (fun q => by rw [e] at q; exact absurd q.2 (by decide))]
    · have hne : ¬ zg_best P (nI s) nd N = -1 := fun q => by
        have : (0 : Int32) ≤ nI i := nI_pos' (by omega)
        rw [← e1, q] at this; exact absurd this (by decide)
      have hk : 0 < k := by
        rcases Nat.eq_zero_or_pos k with z | z
        · refine absurd ?_ hne
          unfold zg_best
          exact zg_m_0 (zg_c_0 (h3.mp z)) N 0 (-1)
        · exact z
      rw [if_neg hne, if_pos ⟨by rw [h1]; exact nI_lt (a := 0) hk (by omega), by rw [e1]; exact nI_pos' (by omega)⟩, e2]
      exact zg_w_y hN f _ e3
theorem zl_lk_congr {P P' : Nat → Int32} {x nd : Int32} {a b : Nat} (h : P (16 * a + b) = P' (16 * a + b)) : zl_lk P x nd a b = zl_lk P' x nd a b := by unfold zl_lk; rw [h]
theorem zg_l_congr {P P' : Nat → Int32} {x nd : Int32} {N : Nat} (h : ∀ a b, a < b → b < N → P (16 * a + b) = P' (16 * a + b)) : zg_l P x nd N = zg_l P' x nd N := zc_pr_congr N 0 0 (by omega) (fun i j h1 h2 => by rw [zl_lk_congr (h i j h1 h2)])
theorem zg_best_congr {P P' : Nat → Int32} {x nd : Int32} {N : Nat} (h : ∀ a b, a < b → b < N → P (16 * a + b) = P' (16 * a + b)) : zg_best P x nd N = zg_best P' x nd N := by
  unfold zg_best
  have : zg_c P x nd N = zg_c P' x nd N := funext (fun m => zc_pr_congr N 0 0 (by omega) (fun i j h1 h2 => by unfold zg_f; rw [zl_lk_congr (h i j h1 h2), h i j h1 h2]))
  rw [this]
theorem zy_w_congr {P P' : Nat → Int32} {nd : Int32} {N : Nat} (h : ∀ a b, a < b → b < N → P (16 * a + b) = P' (16 * a + b)) : ∀ (f : Nat) (x : Int32), zy_w P nd N f x = zy_w P' nd N f x
  | 0, _ => rfl
  | f + 1, x => by rw [zy_w, zy_w, zg_best_congr h, zy_w_congr h f]
theorem zl_clc_eq {P Y P' Y' : Nat → Int32} {yw : Int32} {N : Nat} {x nd : Int32} (hN : N ≤ 16) (hy : yw = 0 ∨ yw = 1) (hP : ∀ a b, a < b → b < N → P (16 * a + b) = P' (16 * a + b)) (hY : ∀ p, p < N → Y p = Y' p) : zl_clc P Y yw N x nd = zl_clash P' Y' yw N x nd := by
  rw [← zl_clash_congr hP hY]
  unfold zl_clc zl_clash
  cases hz : zf_pr (zl_lk P x nd) N N 0 with
  | some ab =>
    have hs := zf_pr_some _ _ hz
    have : ¬ nI (16 * ab.1 + ab.2) = -1 := fun q => by
      have h0 : (0 : Int32) ≤ nI (16 * ab.1 + ab.2) := nI_pos' (by have := hs.2.1; have := hs.2.2.1; omega)
      rw [q] at h0; exact absurd h0 (by decide)
    unfold zr_pr
    dsimp only
    rw [if_neg (fun q => this q.1)]
  | none =>
    unfold zr_pr
    dsimp only
    rcases hy with rfl | rfl
    · rw [if_neg (fun q => q.2 rfl), if_neg (by decide)]
    · rw [if_pos ⟨rfl, by decide⟩, if_pos rfl]
      cases hw : zf_in (zl_ly Y x nd) N 0 with
      | none => rfl
      | some p =>
        have hs := zf_in_some hw
        unfold zr_in
        dsimp only
        have : ¬ nI p = -1 := fun q => by
          have h0 : (0 : Int32) ≤ nI p := nI_pos' (by omega)
          rw [q] at h0; exact absurd h0 (by decide)
        rw [if_neg this, show (1000 : Int32) = nI 1000 from rfl, nI_add]
theorem zk_in_neg {f : Nat → Bool} {k : Int32} (hk : k < 0) : ∀ (n b c : Nat), c + n < 1000 → ∃ c', zk_in f k n b (nI c) = .inr (nI c') ∧ c' ≤ c + n
  | 0, b, c, _ => ⟨c, rfl, by omega⟩
  | n + 1, b, c, h => by
    rw [zk_in]
    have hne : ¬ nI c = k := fun q => by
      have h0 : (0 : Int32) ≤ nI c := nI_pos' (by omega)
      rw [q] at h0; exact absurd h0 (Int32.not_le.mpr hk)
    split
    · try rw [if_neg hne]
      rw [nI_1]
      obtain ⟨c', h1, h2⟩ := zk_in_neg hk n (b + 1) (c + 1) (by omega)
      exact ⟨c', h1, by omega⟩
    · obtain ⟨c', h1, h2⟩ := zk_in_neg hk n (b + 1) c (by omega)
      exact ⟨c', h1, by omega⟩
theorem zk_pr_neg {f : Nat → Nat → Bool} {k : Int32} {N : Nat} (hk : k < 0) (hN : N ≤ 16) : ∀ (n a c : Nat), c + 16 * n < 1000 → zk_pr f k N n a (nI c) = none
  | 0, _, _, _ => rfl
  | n + 1, a, c, h => by
    rw [zk_pr]
    obtain ⟨c', h1, h2⟩ := zk_in_neg (f := f a) hk (N - (a + 1)) (a + 1) c (by omega)
    rw [h1]
    exact zk_pr_neg hk hN n (a + 1) c' (by omega)
theorem zp_in_congr {P P' : Nat → Int32} {a : Nat} : ∀ (n b : Nat) (s : Int32 × List Nat), (∀ i, b ≤ i → i < b + n → P (16 * a + i) = P' (16 * a + i)) → zp_in P a n b s = zp_in P' a n b s
  | 0, _, _, _ => rfl
  | n + 1, b, s, h => by rw [zp_in, zp_in, h b (by omega) (by omega), zp_in_congr n (b + 1) _ (fun i h1 h2 => h i (by omega) (by omega))]
theorem zp_pr_congr {P P' : Nat → Int32} {N : Nat} (h : ∀ a b, a < b → b < N → P (16 * a + b) = P' (16 * a + b)) : ∀ (n a : Nat) (s : Int32 × List Nat), a + n ≤ N → zp_pr P N n a s = zp_pr P' N n a s
  | 0, _, _, _ => rfl
  | n + 1, a, s, hn => by rw [zp_pr, zp_pr, zp_in_congr (N - (a + 1)) (a + 1) s (fun i h1 h2 => h a i (by omega) (by omega)), zp_pr_congr h n (a + 1) _ (by omega)]
theorem zm_pf_symm (an : Nat → Int32) (a b : Nat) : zm_pf an a b = zm_pf an b a := by
  funext m
  unfold zm_pf
  have : (an (16 * m + a) = an (16 * m + b)) ↔ (an (16 * m + b) = an (16 * m + a)) := ⟨Eq.symm, Eq.symm⟩
  simp only [this]
theorem zw_agc_eq {wd : Nat} {wo an S an' : Nat → Int32} {N p : Nat} (hN : N ≤ 16) (h1 : ∀ m, m < 16 → S (311 + m) = if wd.testBit m then 1 else 0) (h2 : ∀ m, m < 16 → wd.testBit m = true → S (327 + m) = wo m) (han : ∀ m p, m < N → p < N → an (16 * m + p) = an' (16 * m + p)) (hp : p < N) : zm_mask (zw_agc wd wo an p) N = zm_mask (zw_ag S an' p) N := by
  refine zm_congr N (fun m hm => ?_)
  unfold zw_agc zw_ag
  rw [h1 m (by omega), han m p hm hp]
  cases hb : wd.testBit m
  · simp
  · rw [h2 m (by omega) hb]; simp
theorem zw_fitc_eq {wd : Nat} {wo an S an' : Nat → Int32} {l f : Int32} {N p : Nat} (hN : N ≤ 16) (h1 : ∀ m, m < 16 → S (311 + m) = if wd.testBit m then 1 else 0) (h2 : ∀ m, m < 16 → wd.testBit m = true → S (327 + m) = wo m) (han : ∀ m p, m < N → p < N → an (16 * m + p) = an' (16 * m + p)) (hl : l = S 4) (hl2 : S 4 = 0 ∨ S 4 = 1) (hf : f = S 3) (hp : p < N) : zw_fitc wd wo an l f N p = zw_fit S an' N p := by
  unfold zw_fitc zw_fit
  rw [zw_agc_eq hN h1 h2 han hp, hl, hf]
  rcases hl2 with e | e <;> simp [e]

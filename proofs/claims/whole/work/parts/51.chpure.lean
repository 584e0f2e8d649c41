/-! the search of the class and that of the reference answer alike -/
theorem zf_in_none {f : Nat → Bool} {k b : Nat} : zf_in f k b = none ↔ ∀ j, b ≤ j → j < b + k → f j = false := by
  have h := zf_in_spec (f := f) k b
  cases hz : zf_in f k b with
  | none => rw [hz] at h; exact ⟨fun _ => h, fun _ => rfl⟩
  | some i =>
    rw [hz] at h
    refine ⟨fun q => (by cases q), fun q => ?_⟩
    have := q i h.1 h.2.1
    rw [h.2.2.1] at this; cases this
theorem zf_in_some {f : Nat → Bool} {k b i : Nat} (h : zf_in f k b = some i) : b ≤ i ∧ i < b + k ∧ f i = true := by
  have hs := zf_in_spec (f := f) k b
  rw [h] at hs; exact ⟨hs.1, hs.2.1, hs.2.2.1⟩
theorem zf_pr_none {f : Nat → Nat → Bool} {N : Nat} : ∀ (k a : Nat), zf_pr f N k a = none ↔ ∀ i j, a ≤ i → i < a + k → i < j → j < N → f i j = false
  | 0, a => ⟨fun _ i j h1 h2 => absurd h1 (by omega), fun _ => rfl⟩
  | k + 1, a => by
    rw [zf_pr]
    cases hz : zf_in (f a) (N - (a + 1)) (a + 1) with
    | some b =>
      refine ⟨fun q => (by cases q), fun q => ?_⟩
      have hs := zf_in_some hz
      have := q a b (by omega) (by omega) (by omega) (by omega)
      rw [hs.2.2] at this; cases this
    | none =>
      show zf_pr f N k (a + 1) = none ↔ _
      rw [zf_in_none] at hz
      rw [zf_pr_none k (a + 1)]
      constructor
      · intro h i j h1 h2 h3 h4
        by_cases e : i = a
        · subst e; exact hz j (by omega) (by omega)
        · exact h i j (by omega) (by omega) h3 h4
      · intro h i j h1 h2 h3 h4
        exact h i j (by omega) (by omega) h3 h4
theorem zf_pr_some {f : Nat → Nat → Bool} {N : Nat} : ∀ (k a : Nat) {r : Nat × Nat}, zf_pr f N k a = some r → a ≤ r.1 ∧ r.1 < r.2 ∧ r.2 < N ∧ f r.1 r.2 = true
  | 0, a, r, h => by cases h
  | k + 1, a, r, h => by
    rw [zf_pr] at h
    cases hz : zf_in (f a) (N - (a + 1)) (a + 1) with
    | some b =>
      rw [hz] at h
      cases h
      have hs := zf_in_some hz
      exact ⟨Nat.le_refl _, hs.1, by have := hs.2.1; simp only; omega, hs.2.2⟩
    | none =>
      rw [hz] at h
      have := zf_pr_some k (a + 1) h
      exact ⟨by omega, this.2⟩
theorem zl_clash_neg {P Y : Nat → Int32} {yw : Int32} {N : Nat} {x nd : Int32} (hN : N ≤ 16) : ¬ 0 ≤ zl_clash P Y yw N x nd ↔ ((∀ i j, i < j → j < N → zl_lk P x nd i j = false) ∧ (yw = 1 → ∀ p, p < N → zl_ly Y x nd p = false)) := by
  unfold zl_clash
  cases hz : zf_pr (zl_lk P x nd) N N 0 with
  | some ab =>
    have hs := zf_pr_some _ _ hz
    refine ⟨fun h => absurd (nI_pos' (by have := hs.2.1; have := hs.2.2.1; omega)) h, fun h => ?_⟩
    have := h.1 _ _ hs.2.1 hs.2.2.1
    rw [hs.2.2.2] at this; cases this
  | none =>
    rw [zf_pr_none] at hz
    have h1 : ∀ i j, i < j → j < N → zl_lk P x nd i j = false := fun i j a b => hz i j (by omega) (by omega) a b
    by_cases hy : yw = 1
    · simp only [hy, if_true]
      cases hw : zf_in (zl_ly Y x nd) N 0 with
      | some p =>
        have hs := zf_in_some hw
        refine ⟨fun h => ?_, fun h => ?_⟩
        · refine absurd ?_ h
          exact nI_pos' (by omega)
        · have := h.2 trivial p (by omega)
          rw [hs.2.2] at this; cases this
      | none =>
        rw [zf_in_none] at hw
        exact ⟨fun _ => ⟨h1, fun _ p hp => hw p (by omega) (by omega)⟩, fun _ => by decide⟩
    · simp only [hy, if_false]
      exact ⟨fun _ => ⟨h1, fun h => absurd h (by simp)⟩, fun _ => by decide⟩
theorem zh_lk {P : Nat → Int32} {k s nd a b : Nat} (hP : P (16 * a + b) = nI k) (hk : k < 65536) (hs : s < 65536) (hnd : nd ≤ 7) : zl_lk P (nI s) (nI nd) a b = false ↔ (k ≠ 0 → nd ≤ zn_pc (s &&& k)) := by
  unfold zl_lk
  rw [hP, fa_and, zm_many_n (Nat.lt_of_le_of_lt Nat.and_le_left (by omega)), Nat.and_comm]
  have h0 : nI k = 0 ↔ k = 0 := nI_eq (b := 0) (by omega) (by decide)
  have h1 : nI (zn_pc (s &&& k)) < nI nd ↔ zn_pc (s &&& k) < nd := nI_ltI (by have := zn_pc_le (s &&& k); omega) (by omega)
  by_cases e : k = 0
  · simp [e, nI]
  · rw [Bool.and_eq_false_iff]
    simp [h0, h1, e]
theorem zh_ly {Y : Nat → Int32} {k s nd p : Nat} (hY : Y p = nI k) (hk : k < 65536) (hs : s < 65536) (hnd : nd ≤ 7) : zl_ly Y (nI s) (nI nd) p = false ↔ nd ≤ zn_pc (s &&& k) := by
  unfold zl_ly
  rw [hY, fa_and, zm_many_n (Nat.lt_of_le_of_lt Nat.and_le_left (by omega)), Nat.and_comm]
  have h1 : nI (zn_pc (s &&& k)) < nI nd ↔ zn_pc (s &&& k) < nd := nI_ltI (by have := zn_pc_le (s &&& k); omega) (by omega)
  simp [h1]
theorem zm_pf_congr {an an' : Nat → Int32} {N a b : Nat} (h : ∀ m p, m < N → p < N → an (16 * m + p) = an' (16 * m + p)) (ha : a < N) (hb : b < N) : ∀ m, m < N → zm_pf an a b m = zm_pf an' a b m := fun m hm => by unfold zm_pf; rw [h m a hm ha, h m b hm hb]
theorem zm_yf_congr {an an' : Nat → Int32} {kd : Int32} {N p : Nat} (h : ∀ m p, m < N → p < N → an (16 * m + p) = an' (16 * m + p)) (hp : p < N) : ∀ m, m < N → zm_yf kd an p m = zm_yf kd an' p m := fun m hm => by unfold zm_yf; rw [h m p hm hp]
theorem zh_mt_cl {an an' S : Nat → Int32} {N nd s : Nat} (hN : N ≤ 16) (hnd : zm_need (S 3) (S 4) = nI nd) (hnd7 : nd ≤ 7) (hyw : S 5 = 0 ∨ S 5 = 1) (han : ∀ m p, m < N → p < N → an (16 * m + p) = an' (16 * m + p)) (hs : s < 2 ^ N) : zh_mt an (S 1) N (S 5) nd s = true ↔ ¬ 0 ≤ zc_cl S an' N s := by
  have hp := zi_pow hN
  rw [zh_mt_iff]
  unfold zc_cl
  rw [zl_clash_neg hN, hnd]
  have e1 : ∀ a b, a < b → b < N → zm_P an' N (16 * a + b) = nI (zn_mask (zm_pf an a b) N) := fun a b h1 h2 => by
    rw [zm_P_at (by omega), zm_mask_n _ N (by omega), zn_congr N (zm_pf_congr han (by omega) h2)]
  have e2 : ∀ p, p < N → zm_Y (S 1) an' N p = nI (zn_mask (zm_yf (S 1) an p) N) := fun p h => by
    unfold zm_Y
    rw [zm_mask_n _ N (by omega), zn_congr N (zm_yf_congr han h)]
  have l : ∀ f, zn_mask f N < 65536 := fun f => Nat.lt_of_lt_of_le (zn_lt f N) hp
  unfold zh_T
  constructor
  · rintro ⟨h1, h2⟩
    exact ⟨fun i j a b => (zh_lk (e1 i j a b) (l _) (by omega) hnd7).mpr (h1 i j a b (by omega)), fun q p hp => (zh_ly (e2 p hp) (l _) (by omega) hnd7).mpr (h2 (by rw [q]; decide) p hp hp)⟩
  · rintro ⟨h1, h2⟩
    exact ⟨fun i j a b _ => (zh_lk (e1 i j a b) (l _) (by omega) hnd7).mp (h1 i j a b), fun q p hp hp2 => (zh_ly (e2 p hp2) (l _) (by omega) hnd7).mp (h2 (hyw.resolve_left q) p hp2)⟩
def zb_inv (mt : Nat → Bool) (cs : Nat → Nat) (s : Nat) (b l : Int32) : Prop := (b = -1 ∧ ∀ t, t < s → mt t = false) ∨ ∃ S, S < s ∧ b = nI S ∧ l = nI (cs S) ∧ mt S = true ∧ ∀ t, t < s → mt t = true → cs S ≤ cs t ∧ (cs t = cs S → S ≤ t)
theorem zb_go_spec {cl cost : Nat → Int32} {mt : Nat → Bool} {cs : Nat → Nat} {M : Nat} (hM : M ≤ 65536) (h1 : ∀ s, s < M → (mt s = true ↔ ¬ 0 ≤ cl s)) (h2 : ∀ s, s < M → cost s = nI (cs s) ∧ cs s ≤ 16000) : ∀ (n s : Nat) (b l : Int32), s + n = M → zb_inv mt cs s b l → ∃ l', zb_inv mt cs M (zb_go cl cost n s b l) l'
  | 0, s, b, l, hs, h => by
    have e : s = M := by omega
    subst e; exact ⟨l, h⟩
  | n + 1, s, b, l, hs, h => by
    have hsM : s < M := by omega
    obtain ⟨hc, hc2⟩ := h2 s hsM
    rw [zb_go]
    by_cases g : (0 ≤ b ∧ l ≤ cost s) ∨ 0 ≤ cl s
    · rw [if_pos g]
      refine zb_go_spec hM h1 h2 n (s + 1) b l (by omega) ?_
      by_cases g2 : 0 ≤ cl s
      · have hf : mt s = false := by
          cases q : mt s
          · rfl
          · exact absurd g2 ((h1 s hsM).mp q)
        rcases h with ⟨a1, a2⟩ | ⟨S, a1, a2, a3, a4, a5⟩
        · refine Or.inl ⟨a1, fun t ht => ?_⟩
          by_cases e : t = s
          · rw [e]; exact hf
          · exact a2 t (by omega)
        · refine Or.inr ⟨S, by omega, a2, a3, a4, fun t ht hm => ?_⟩
          by_cases e : t = s
          · rw [e, hf] at hm; cases hm
          · exact a5 t (by omega) hm
      · have g3 := g.resolve_right g2
        rcases h with ⟨a1, a2⟩ | ⟨S, a1, a2, a3, a4, a5⟩
        · rw [a1] at g3; exact absurd g3.1 (by decide)
        · have hle : cs S ≤ cs s := by
            have := g3.2
            rw [a3, hc] at this
            exact (nI_leI (by have := (h2 S (by omega)).2; omega) (by omega)).mp this
          refine Or.inr ⟨S, by omega, a2, a3, a4, fun t ht hm => ?_⟩
          by_cases e : t = s
          · rw [e]; exact ⟨hle, fun _ => by omega⟩
          · exact a5 t (by omega) hm
    · rw [if_neg g]
      have hm : mt s = true := (h1 s hsM).mpr (fun q => g (Or.inr q))
      refine zb_go_spec hM h1 h2 n (s + 1) (nI s) (cost s) (by omega) (Or.inr ⟨s, by omega, rfl, hc, hm, fun t ht hmt => ?_⟩)
      by_cases e : t = s
      · rw [e]; exact ⟨Nat.le_refl _, fun _ => Nat.le_refl _⟩
      · rcases h with ⟨a1, a2⟩ | ⟨S, a1, a2, a3, a4, a5⟩
        · have := a2 t (by omega); rw [this] at hmt; cases hmt
        · have hlt : cs s < cs S := by
            rcases Nat.lt_or_ge (cs s) (cs S) with q | q
            · exact q
            · refine absurd (Or.inl ⟨?_, ?_⟩) g
              · rw [a2]; exact nI_pos' (by omega)
              · rw [a3, hc]; exact (nI_leI (by have := (h2 S (by omega)).2; omega) (by omega)).mpr q
          have := (a5 t (by omega) hmt).1
          exact ⟨by omega, fun q => by omega⟩
theorem zb_I {mt : Nat → Bool} {cs : Nat → Nat} {N B S C : Nat} {r l : Int32} (hN : N ≤ 16) (hcs : ∀ s, s < 2 ^ N → cs s ≤ 16000) (hI : zh_I mt cs N (fun _ => true) B S C) (hr : zb_inv mt cs (2 ^ N) r l) : (C = 0 ∧ r = -1) ∨ (C ≠ 0 ∧ r = nI S ∧ 0 ≤ r ∧ S < 2 ^ N ∧ cs S = B ∧ C = fb_ct (fun s => mt s && decide (cs s = cs S)) (2 ^ N)) := by
  have hp := zi_pow hN
  obtain ⟨h1, h2, h3⟩ := hI
  rcases hr with ⟨a1, a2⟩ | ⟨S', a1, a2, a3, a4, a5⟩
  · refine Or.inl ⟨?_, a1⟩
    rw [h2]
    exact fb_ct_zero.mpr (fun s hs => by rw [a2 s hs]; rfl)
  · right
    have hB := h1 S' a1 rfl a4
    have := hcs S' a1
    rcases h3 with ⟨b1, b2⟩ | ⟨b1, b2, b3, b4, b5⟩
    · omega
    · have q1 := a5 S b1 b3
      have e : cs S' = B := by omega
      have q2 := b5 S' a1 rfl a4 e
      have e2 : S' = S := by have := q1.2 (by omega); omega
      subst e2
      refine ⟨?_, a2, by rw [a2]; exact nI_pos' (by omega), b1, b4, ?_⟩
      · rw [h2]
        exact Nat.ne_of_gt (fb_ct_pos.mpr ⟨S', b1, by simp [a4, b4]⟩)
      · rw [h2]; exact fb_ct_cong (fun s hs => by rw [b4]; simp)
theorem zm_sum_n {f : Nat → Int32} {g : Nat → Nat} : ∀ n, (∀ i, i < n → f i = nI (g i)) → zm_sum f n = nI (fb_sm g n)
  | 0, _ => rfl
  | n + 1, h => by rw [zm_sum, zm_sum_n n (fun i hi => h i (by omega)), h n (by omega), nI_add]; rfl
theorem zm_sum_ct {q : Nat → Bool} (n : Nat) : zm_sum (fun i => if q i then 1 else 0) n = nI (fb_ct q n) := by
  rw [zm_sum_n (g := fun i => if q i then 1 else 0) n (fun i _ => by cases q i <;> rfl)]
  congr 1
  induction n with
  | zero => rfl
  | succ n ih => rw [fb_sm_succ, fb_ct_succ, ih]
theorem zc_in_ct {f : Nat → Int32} {q : Nat → Bool} : ∀ (n b c : Nat), (∀ i, b ≤ i → i < b + n → f i = if q i then 1 else 0) → zc_in f n b (nI c) = nI (c + fb_ct (fun i => q (b + i)) n)
  | 0, b, c, _ => rfl
  | n + 1, b, c, h => by
    rw [zc_in, h b (by omega) (by omega)]
    have e : nI c + (if q b = true then 1 else 0) = nI (c + if q b then 1 else 0) := by
      cases q b
      · simp [nI]
      · simp [nI_1]
    rw [e, zc_in_ct n (b + 1) _ (fun i h1 h2 => h i (by omega) (by omega))]
    have e2 := fb_ct_split (fun i => q (b + i)) 1 n
    rw [Nat.add_comm n 1, e2]
    have e3 : fb_ct (fun i => q (b + i)) 1 = if q b then 1 else 0 := by rw [fb_ct_succ]; simp [fb_ct]
    rw [e3]
    have e4 : fb_ct (fun i => q (b + 1 + i)) n = fb_ct (fun k => q (b + (1 + k))) n := fb_ct_cong (fun k _ => by rw [Nat.add_assoc])
    rw [e4, Nat.add_assoc]
theorem zh_cs_one {N s : Nat} (hN : N ≤ 16) (hs : s < 2 ^ N) : zh_cs (fun _ => 1) N s = zn_pc s := by
  rw [zn_pc_ext hN hs]
  unfold zh_cs
  clear hs hN
  induction N with
  | zero => rfl
  | succ n ih => rw [fb_sm_succ, fb_ct_succ, ih]
theorem zm_price_n {S : Nat → Int32} {c : Nat → Nat} {N s : Nat} (hN : N ≤ 16) (hs : s < 65536) (hc : ∀ p, p < N → S (279 + p) = nI (c p)) : zm_price S N (nI s) = nI (zh_cs c N s) := by
  unfold zm_price zh_cs
  refine zm_sum_n N (fun p hp => ?_)
  have := zb_bit1 (k := s) (i := p) (by omega) (by omega)
  cases hb : s.testBit p
  · rw [hb] at this; rw [if_neg (fun q => absurd (this.mp q) (by decide))]; rfl
  · rw [hb] at this; rw [if_pos (this.mpr rfl), hc p hp]; rfl
/-- least and cheapest: the reference's best set, beside what the class found -/
theorem zb_best_n {S an an' : Nat → Int32} {c : Nat → Nat} {N nd : Nat} {pr : Int32} {B Se C : Nat} (hN : N ≤ 16) (hnd : zm_need (S 3) (S 4) = nI nd) (hnd7 : nd ≤ 7) (hyw : S 5 = 0 ∨ S 5 = 1) (han : ∀ m p, m < N → p < N → an (16 * m + p) = an' (16 * m + p)) (hc : ∀ s, s < 2 ^ N → zb_cost S N pr s = nI (zh_cs c N s) ∧ zh_cs c N s ≤ 16000) (hI : zh_I (zh_mt an (S 1) N (S 5) nd) (zh_cs c N) N (fun _ => true) B Se C) : (C = 0 ∧ zb_best S an' N pr = -1) ∨ (C ≠ 0 ∧ zb_best S an' N pr = nI Se ∧ 0 ≤ zb_best S an' N pr ∧ Se < 2 ^ N ∧ zh_cs c N Se = B ∧ C = fb_ct (fun s => zh_mt an (S 1) N (S 5) nd s && decide (zh_cs c N s = zh_cs c N Se)) (2 ^ N)) := by
  obtain ⟨l, hl⟩ := zb_go_spec (cl := zc_cl S an' N) (cost := zb_cost S N pr) (mt := zh_mt an (S 1) N (S 5) nd) (cs := zh_cs c N) (zi_pow hN) (fun s hs => zh_mt_cl hN hnd hnd7 hyw han hs) hc (2 ^ N) 0 (-1) 0 (by omega) (Or.inl ⟨rfl, fun t ht => absurd ht (by omega)⟩)
  exact zb_I hN (fun s hs => (hc s hs).2) hI hl

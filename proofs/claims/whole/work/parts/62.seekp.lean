/-! the class's seeking beside the reference's -/
def zq_rel (N : Nat) (R1 R2 : Nat → Int32) : Prop := ∀ s, s < 2 ^ N → (R2 s = 1000000 ∧ R1 s = -2) ∨ ∃ v, v < 1000000 ∧ R2 s = nI v ∧ R1 s = nI v
theorem zq_rel_far {N : Nat} {R1 R2 : Nat → Int32} (h : zq_rel N R1 R2) {s : Nat} (hs : s < 2 ^ N) : (R1 s = -2 ↔ ¬ R2 s < 1000000) ∧ (¬ R2 s < 1000000 → R2 s = 1000000) := by
  rcases h s hs with ⟨h1, h2⟩ | ⟨v, h1, h2, h3⟩
  · rw [h1, h2]; exact ⟨⟨fun _ => Int32.lt_irrefl, fun _ => rfl⟩, fun _ => rfl⟩
  · rw [h2, h3]
    have : nI v < 1000000 := nI_lt (b := 1000000) h1 (by decide)
    refine ⟨⟨fun q => ?_, fun q => absurd this q⟩, fun q => absurd this q⟩
    have h0 : (0 : Int32) ≤ nI v := nI_pos' (by omega)
    rw [q] at h0; exact absurd h0 (by decide)
theorem zn_mv_congr {B B' : Nat → Nat} {s : Nat} : ∀ n, (∀ i, i < n → B i = B' i) → zn_mv B s n = zn_mv B' s n
  | 0, _ => rfl
  | n + 1, h => by rw [zn_mv, zn_mv, zn_mv_congr n (fun i hi => h i (by omega)), h n (by omega)]
theorem zn_bs_congr {len len' : Nat → Int32} {N p : Nat} (hN : N ≤ 16) (hp : p < 16) (h : ∀ i, i < 256 → len i = len' i) : zn_bs len N p = zn_bs len' N p := zn_congr N (fun i hi => by
  unfold zm_bf
  rw [h (16 * p + i) (by omega)])
theorem zq_nx_congr {len len' : Nat → Int32} {N : Nat} (hN : N ≤ 16) (h : ∀ i, i < 256 → len i = len' i) : zq_nx len N = zq_nx len' N := by
  funext t
  unfold zq_nx
  exact zn_mv_congr N (fun i hi => zn_bs_congr hN (by omega) h)
theorem zq_pt_and {an : Nat → Int32} {N s m r : Nat} (hs : s < 2 ^ N) : s &&& zn_mask (zx_sa an m r) N = zo_pt an N s m r := by
  refine zn_ext (n := N) (Nat.lt_of_le_of_lt Nat.and_le_left hs) zo_pt_lt (fun q hq => ?_)
  rw [Bool.eq_iff_iff, Nat.testBit_and, Bool.and_eq_true, zx_sa_bit, zo_pt_bit]
  exact ⟨fun g => ⟨hq, g.1, g.2.2⟩, fun g => ⟨g.2.1, hq, g.2.2⟩⟩
theorem zq_fd_eq {an len : Nat → Int32} {N r s : Nat} {R1 R2 : Nat → Int32} (hN : N ≤ 10) (hr : r < 1000000) (hs : s < 2 ^ N) (hrel : zq_rel N R1 R2) : zq_fdc (zx_gl an N) (zq_nx len N) N (nI r) R1 s = zq_found len an N (nI r) R2 s := by
  unfold zq_fdc zq_found
  have key : ∀ m, m < N → zq_gdc (zx_gl an N) (zq_nx len N) (nI r) R1 s m = zq_good len an R2 N (nI r) s m := by
    intro m hm
    unfold zq_gdc zq_good
    rw [Bool.eq_iff_iff, Option.isNone_iff_eq_none, Option.isNone_iff_eq_none, zf_in_none, zf_in_none]
    have hB : ∀ t, t < 2 ^ N → ((R1 (zq_nx len N t) = -2 ∨ ¬ R1 (zq_nx len N t) < nI r) ↔ ¬ R2 (zq_nx len N t) < nI r) := by
      intro t ht
      have hx := zq_nx_lt (len := len) ht
      rcases hrel _ hx with ⟨h1, h2⟩ | ⟨v, h1, h2, h3⟩
      · rw [h1, h2]
        exact ⟨fun _ q => by have := (nI_ltI (a := 1000000) (by decide) (by omega)).mp q; omega, fun _ => Or.inl rfl⟩
      · rw [h2, h3]
        refine ⟨fun q => q.elim (fun q => ?_) id, Or.inr⟩
        have h0 : (0 : Int32) ≤ nI v := nI_pos' (by omega)
        rw [q] at h0; exact absurd h0 (by decide)
    constructor
    · intro hg p _ hp
      unfold zq_bad
      cases hb : s.testBit p
      · rfl
      · obtain ⟨i, hi, ei⟩ := zg_mem_ix ((zx_gl_all (an := an) (N := N) (m := m)).1 p (by omega))
        have := hg i (by omega) (by omega)
        unfold zq_badc at this
        rw [ei, zq_pt_and hs] at this
        by_cases c : zn_pc (zo_pt an N s m p) < 2
        · simp [c]
        · rw [decide_eq_false c, Bool.not_false, Bool.true_and, Bool.or_eq_false_iff, decide_eq_false_iff_not] at this
          have h2 : ¬ (R1 (zq_nx len N (zo_pt an N s m p)) = -2 ∨ ¬ R1 (zq_nx len N (zo_pt an N s m p)) < nI r) := fun q => q.elim this.1 (fun w => by have := this.2; rw [decide_eq_false w] at this; cases this)
          rw [hB _ zo_pt_lt, Classical.not_not] at h2
          simp [h2]
    · intro hg i _ hi
      obtain ⟨q0, h5, h6⟩ := zx_gl_all.2 _ (zg_ix_mem (show i < (zx_gl an N m).length by omega))
      unfold zq_badc
      rw [h6, zq_pt_and hs]
      by_cases c : zn_pc (zo_pt an N s m q0) < 2
      · simp [c]
      · have hne : zo_pt an N s m q0 ≠ 0 := zn_pc_pos (by omega)
        obtain ⟨p, hp⟩ : ∃ p, (zo_pt an N s m q0).testBit p = true := by
          refine Classical.byContradiction (fun hc => hne (zn_zero zo_pt_lt (fun i _ => ?_)))
          cases hb : (zo_pt an N s m q0).testBit i
          · rfl
          · exact absurd ⟨i, hb⟩ hc
        have hp2 := zo_pt_bit.mp hp
        have := hg p (by omega) (by omega)
        unfold zq_bad at this
        rw [hp2.2.1, zo_pt_key hp2.2.2, Bool.true_and, Bool.not_eq_false', Bool.or_eq_true, decide_eq_true_eq, decide_eq_true_eq] at this
        have h2 := this.resolve_left c
        have h3 : ¬ (R1 (zq_nx len N (zo_pt an N s m q0)) = -2 ∨ ¬ R1 (zq_nx len N (zo_pt an N s m q0)) < nI r) := by
          rw [hB _ zo_pt_lt, Classical.not_not]; exact h2
        rw [not_or, Classical.not_not] at h3
        simp [h3.1, h3.2]
  rw [zf_in_congr N 0 (fun i _ hi => key i (by omega))]
theorem zq_rd_eq {N r : Nat} {fc fd : (Nat → Int32) → Nat → Bool} (hr : r < 1000000) (hfd : ∀ R1 R2, zq_rel N R1 R2 → ∀ s, s < 2 ^ N → fc R1 s = fd R2 s) : ∀ (n s : Nat) (c1 c2 : (Nat → Int32) × Bool), s + n ≤ 2 ^ N → zq_rel N c1.1 c2.1 → c1.2 = c2.2 → zq_rel N (zq_rdc fc (nI r) n s c1).1 (zq_rd fd (nI r) n s c2).1 ∧ (zq_rdc fc (nI r) n s c1).2 = (zq_rd fd (nI r) n s c2).2
  | 0, _, _, _, _, h1, h2 => ⟨h1, h2⟩
  | n + 1, s, c1, c2, hs, h1, h2 => by
    rw [zq_rdc, zq_rd]
    have hfar := (zq_rel_far h1 (show s < 2 ^ N by omega)).1
    have hf := hfd _ _ h1 s (by omega)
    by_cases c : c1.1 s = -2 ∧ fc c1.1 s = true
    · rw [if_pos c, if_neg (fun q => q.elim (hfar.mp c.1) (fun w => by rw [← hf, c.2] at w; cases w))]
      refine zq_rd_eq hr hfd n (s + 1) _ _ (by omega) (fun t ht => ?_) rfl
      unfold upd
      by_cases e : t = s
      · simp only [if_pos e]; exact Or.inr ⟨r, hr, rfl, rfl⟩
      · simp only [if_neg e]; exact h1 t ht
    · have : c2.1 s < 1000000 ∨ fd c2.1 s = false := by
        by_cases g : c2.1 s < 1000000
        · exact Or.inl g
        · right
          cases hb : fd c2.1 s
          · rfl
          · exact absurd ⟨hfar.mpr g, by rw [hf]; exact hb⟩ c
      rw [if_neg c, if_pos this]
      exact zq_rd_eq hr hfd n (s + 1) c1 c2 (by omega) h1 h2
theorem zq_rd_true {fd : (Nat → Int32) → Nat → Bool} {r : Int32} : ∀ (n s : Nat) (c : (Nat → Int32) × Bool), c.2 = true → (zq_rd fd r n s c).2 = true
  | 0, _, _, h => h
  | n + 1, s, c, h => by
    rw [zq_rd]
    refine zq_rd_true n (s + 1) _ ?_
    split
    · exact h
    · rfl
theorem zq_rd_false {fd : (Nat → Int32) → Nat → Bool} {r : Int32} : ∀ (n s : Nat) (c : (Nat → Int32) × Bool), (zq_rd fd r n s c).2 = false → (zq_rd fd r n s c).1 = c.1
  | 0, _, _, _ => rfl
  | n + 1, s, c, h => by
    rw [zq_rd] at h ⊢
    by_cases g : c.1 s < 1000000 ∨ fd c.1 s = false
    · rw [if_pos g] at h ⊢; exact zq_rd_false n (s + 1) c h
    · rw [if_neg g] at h
      rw [zq_rd_true n (s + 1) _ rfl] at h; cases h
theorem zq_rd_keep {fd : (Nat → Int32) → Nat → Bool} {r : Int32} {x : Nat} : ∀ (n s : Nat) (c : (Nat → Int32) × Bool), c.1 x < 1000000 → (zq_rd fd r n s c).1 x = c.1 x
  | 0, _, _, _ => rfl
  | n + 1, s, c, h => by
    rw [zq_rd]
    by_cases g : c.1 s < 1000000 ∨ fd c.1 s = false
    · rw [if_pos g]; exact zq_rd_keep n (s + 1) c h
    · rw [if_neg g]
      have hne : x ≠ s := fun e => g (Or.inl (by rw [← e]; exact h))
      have e : upd c.1 s r x = c.1 x := if_neg hne
      rw [zq_rd_keep n (s + 1) _ (by dsimp only; rw [e]; exact h)]
      exact e
theorem zq_go_keep {len an : Nat → Int32} {N x : Nat} : ∀ (f r : Nat) (R : Nat → Int32), R x < 1000000 → zq_go len an N f r R x = R x
  | 0, _, _, _ => rfl
  | f + 1, r, R, h => by
    rw [zq_go]
    have e := zq_rd_keep (fd := zq_found len an N (nI r)) (r := nI r) (x := x) (2 ^ N) 0 (R, false) h
    split
    · rw [zq_go_keep f (r + 1) _ (by rw [e]; exact h)]; exact e
    · exact e
theorem zq_goc_eq {an len : Nat → Int32} {N x : Nat} (hN : N ≤ 10) (hx : x < 2 ^ N) : ∀ (f f' r : Nat) (R1 R2 : Nat → Int32), zq_rel N R1 R2 → zq_v N R2 ≤ f → zq_v N R2 < f' → r + zq_v N R2 ≤ 2000 → zq_goc (zx_gl an N) (zq_nx len N) N x f r R1 = if zq_go len an N f' r R2 x = 1000000 then -2 else zq_go len an N f' r R2 x := by
  intro f
  induction f with
  | zero =>
    intro f' r R1 R2 hrel hv hv' hr
    have hlt : R2 x < 1000000 := by
      have := fb_ct_zero.mp (show zq_v N R2 = 0 by omega) x hx
      simpa using this
    rw [zq_goc, zq_go_keep f' r R2 hlt]
    rcases hrel x hx with ⟨h1, h2⟩ | ⟨v, h1, h2, h3⟩
    · rw [h1] at hlt; exact absurd hlt Int32.lt_irrefl
    · rw [if_neg (fun q => by rw [q] at hlt; exact absurd hlt Int32.lt_irrefl), h2, h3]
  | succ f ih =>
    intro f' r R1 R2 hrel hv hv' hr
    rw [zq_goc]
    have hfar := zq_rel_far hrel hx
    by_cases c : R1 x = -2
    · rw [if_pos c]
      have hnl := hfar.1.mp c
      obtain ⟨g, rfl⟩ : ∃ g, f' = g + 1 := ⟨f' - 1, by omega⟩
      rw [zq_go]
      obtain ⟨e1, e2⟩ := zq_rd_eq (fc := zq_fdc (zx_gl an N) (zq_nx len N) N (nI r)) (fd := zq_found len an N (nI r)) (show r < 1000000 by omega) (fun R1 R2 h s hs => zq_fd_eq hN (by omega) hs h) (2 ^ N) 0 (R1, false) (R2, false) (by omega) hrel rfl
      rw [e2]
      cases hb : (zq_rd (zq_found len an N (nI r)) (nI r) (2 ^ N) 0 (R2, false)).2
      · simp only [Bool.false_eq_true, if_false]
        rw [zq_rd_false _ _ _ hb, if_pos (hfar.2 hnl)]
      · rw [if_pos rfl, if_pos rfl]
        have hd := (zq_rd_v (fd := zq_found len an N (nI r)) (r := nI r) (N := N) (nI_lt (b := 1000000) (by omega) (by decide)) (2 ^ N) 0 (R2, false) (by omega)).2 hb
        have hd2 := hd.resolve_left (fun q => Bool.noConfusion q)
        dsimp only at hd2
        exact ih g (r + 1) _ _ e1 (by omega) (by omega) (by omega)
    · rw [if_neg c]
      have hlt : R2 x < 1000000 := Classical.byContradiction (fun q => c (hfar.1.mpr q))
      rw [zq_go_keep f' r R2 hlt]
      rcases hrel x hx with ⟨h1, h2⟩ | ⟨v, h1, h2, h3⟩
      · exact absurd h2 c
      · rw [if_neg (fun q => by rw [q] at hlt; exact absurd hlt Int32.lt_irrefl), h2, h3]
theorem zq_seek {an an' len len' : Nat → Int32} {N x : Nat} {R old : Nat → Int32} (hN : N ≤ 10) (hx : x < 2 ^ N) (han : ∀ m p, m < N → p < N → an (16 * m + p) = an' (16 * m + p)) (hl : ∀ i, i < 256 → len i = len' i) (hR : ∀ s, s < 2 ^ N → R s = zq_0c s) : zq_goc (zx_gl an N) (zq_nx len N) N x (2 ^ N) 1 R = if zq_go len' an' N (2 ^ N + 1) 1 (zq_0 N old) x = 1000000 then -2 else zq_go len' an' N (2 ^ N + 1) 1 (zq_0 N old) x := by
  have hp : 2 ^ N ≤ 2 ^ 10 := Nat.pow_le_pow_right (by decide) hN
  have hgl : ∀ m, m < N → zx_gl an N m = zx_gl an' N m := fun m hm => zx_gl_congr (fun q hq => han m q hm hq)
  have hv : zq_v N (zq_0 N old) ≤ 2 ^ N := fb_ct_le _ _
  rw [zq_nx_congr (by omega) hl]
  have e : ∀ (f r : Nat) (R : Nat → Int32), zq_goc (zx_gl an N) (zq_nx len' N) N x f r R = zq_goc (zx_gl an' N) (zq_nx len' N) N x f r R := by
    have hfd : ∀ r R s, zq_fdc (zx_gl an N) (zq_nx len' N) N r R s = zq_fdc (zx_gl an' N) (zq_nx len' N) N r R s := fun r R s => by
      unfold zq_fdc
      rw [zf_in_congr (g := zq_gdc (zx_gl an' N) (zq_nx len' N) r R s) N 0 (fun i _ hi => by unfold zq_gdc; rw [hgl i (by omega)])]
    have hrd : ∀ r n s c, zq_rdc (zq_fdc (zx_gl an N) (zq_nx len' N) N r) r n s c = zq_rdc (zq_fdc (zx_gl an' N) (zq_nx len' N) N r) r n s c := fun r n s c => by
      rw [show zq_fdc (zx_gl an N) (zq_nx len' N) N r = zq_fdc (zx_gl an' N) (zq_nx len' N) N r from funext (fun R => funext (fun s => hfd r R s))]
    intro f
    induction f with
    | zero => intro r R; rfl
    | succ f ih => intro r R; rw [zq_goc, zq_goc, hrd, ih]
  rw [e]
  refine zq_goc_eq hN hx (2 ^ N) (2 ^ N + 1) 1 R (zq_0 N old) (fun s hs => ?_) hv (by omega) (by omega)
  rw [hR s hs]
  unfold zq_0 zq_0c
  rw [if_pos hs]
  by_cases c : zn_pc s < 2
  · rw [if_pos c, if_pos c]; exact Or.inr ⟨0, by omega, rfl, rfl⟩
  · rw [if_neg c, if_neg c]; exact Or.inl ⟨rfl, rfl⟩

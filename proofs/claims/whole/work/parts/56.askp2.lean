/-! the class's places beside the reference's sets -/
def zE (x : Nat) (pl : Nat → Nat) (N P : Nat) : Nat := zn_mask (fun p => x.testBit p && P.testBit (pl p)) N
theorem zE_bit {x : Nat} {pl : Nat → Nat} {N P q : Nat} : (zE x pl N P).testBit q = true ↔ q < N ∧ x.testBit q = true ∧ P.testBit (pl q) = true := by
  unfold zE; rw [zn_bit]; simp
theorem zE_lt {x : Nat} {pl : Nat → Nat} {N P : Nat} : zE x pl N P < 2 ^ N := zn_lt _ N
theorem zE_0 {x : Nat} {pl : Nat → Nat} {N : Nat} : zE x pl N 0 = 0 := zn_zero (zn_lt _ N) (fun i _ => by unfold zE; rw [zn_bit]; simp)
theorem zE_h {an : Nat → Int32} {N x np : Nat} {h pl ch cc : Nat → Nat} (hF : za_F an N x N np h pl ch cc) {P i : Nat} (hi : i < np) : (zE x pl N P).testBit (h i) = P.testBit i := by
  obtain ⟨h1, h2, h3⟩ := hF.2.1 i hi
  rw [Bool.eq_iff_iff, zE_bit, h3]
  exact ⟨fun q => q.2.2, fun q => ⟨h1, h2, q⟩⟩
theorem zE_inj {an : Nat → Int32} {N x np : Nat} {h pl ch cc : Nat → Nat} (hF : za_F an N x N np h pl ch cc) {P P' : Nat} (hP : P < 2 ^ np) (hP' : P' < 2 ^ np) (e : zE x pl N P = zE x pl N P') : P = P' := by
  refine zn_ext hP hP' (fun i hi => ?_)
  rw [← zE_h hF hi, ← zE_h hF hi, e]
theorem zo_pt_bit {an : Nat → Int32} {N s m p q : Nat} : (zo_pt an N s m p).testBit q = true ↔ q < N ∧ s.testBit q = true ∧ an (16 * m + q) = an (16 * m + p) := by
  unfold zo_pt zs_f; rw [zn_bit]; simp
theorem zo_pt_lt {an : Nat → Int32} {N s m p : Nat} : zo_pt an N s m p < 2 ^ N := zn_lt _ N
theorem zo_pt_key {an : Nat → Int32} {N s m p r : Nat} (h : an (16 * m + r) = an (16 * m + p)) : zo_pt an N s m r = zo_pt an N s m p := zn_congr N (fun i _ => by unfold zs_f; rw [h])
theorem zo_pt_none {an : Nat → Int32} {N s m r : Nat} (h : ∀ q, q < N → s.testBit q = true → an (16 * m + q) ≠ an (16 * m + r)) : zo_pt an N s m r = 0 := zn_zero (zn_lt _ N) (fun i hi => by
  cases hb : (zo_pt an N s m r).testBit i
  · rfl
  · have := zo_pt_bit.mp hb; exact absurd this.2.2 (h i hi this.2.1))
theorem zE_part {an : Nat → Int32} {N x np : Nat} {h pl ch cc : Nat → Nat} (hN : N ≤ 16) (hF : za_F an N x N np h pl ch cc) {P m r : Nat} (hm : m < N) : zE x pl N (P &&& zg_b h np (zn_mask (zx_sa an m r) N)) = zo_pt an N (zE x pl N P) m r := by
  refine zn_ext (n := N) zE_lt zo_pt_lt (fun q hq => ?_)
  rw [Bool.eq_iff_iff, zE_bit, zo_pt_bit, zE_bit, Nat.testBit_and, Bool.and_eq_true]
  unfold zg_b
  rw [zn_bit, Bool.and_eq_true, decide_eq_true_eq, zx_sa_bit]
  constructor
  · rintro ⟨a, b, c, d, e, f⟩
    have := hF.2.2.1 q hq b
    exact ⟨a, ⟨a, b, c⟩, by rw [← f]; exact ((zt_tw_iff hN).mp this.2 m hm).symm⟩
  · rintro ⟨a, ⟨_, b, c⟩, f⟩
    have := hF.2.2.1 q hq b
    exact ⟨a, b, c, this.1, (hF.2.1 _ this.1).1, by rw [← f]; exact (zt_tw_iff hN).mp this.2 m hm⟩
theorem zE_full {an : Nat → Int32} {N x np : Nat} {h pl ch cc : Nat → Nat} (hx : x < 2 ^ N) (hF : za_F an N x N np h pl ch cc) : zE x pl N (2 ^ np - 1) = x := by
  refine zn_ext zE_lt hx (fun q hq => ?_)
  rw [Bool.eq_iff_iff, zE_bit, Nat.testBit_two_pow_sub_one, decide_eq_true_eq]
  exact ⟨fun g => g.2.1, fun g => ⟨hq, g, (hF.2.2.1 q hq g).1⟩⟩
theorem zn_two {P : Nat} (h : 2 ≤ zn_pc P) : ∃ i j, i < j ∧ j < 16 ∧ P.testBit i = true ∧ P.testBit j = true := by
  obtain ⟨i, hi, bi, ci⟩ := fb_ct_kth (p := fun i => P.testBit i) (k := 0) (n := 16) (by unfold zn_pc at h; omega)
  obtain ⟨j, hj, bj, cj⟩ := fb_ct_kth (p := fun i => P.testBit i) (k := 1) (n := 16) (by unfold zn_pc at h; omega)
  rcases Nat.lt_trichotomy i j with q | q | q
  · exact ⟨i, j, q, hj, bi, bj⟩
  · rw [q] at ci; omega
  · exact ⟨j, i, q, hi, bj, bi⟩
theorem zn_one_bit {P i j : Nat} (h : zn_pc P < 2) (hi : i < 16) (hj : j < 16) (bi : P.testBit i = true) (bj : P.testBit j = true) : i = j := by
  have key : ∀ i j, i < j → j < 16 → P.testBit i = true → P.testBit j = true → False := by
    intro i j hij hj bi bj
    have h1 : fb_ct (fun i => P.testBit i) (i + 1) ≤ fb_ct (fun i => P.testBit i) j := fb_ct_mono _ (by omega)
    have h2 : fb_ct (fun i => P.testBit i) (j + 1) ≤ fb_ct (fun i => P.testBit i) 16 := fb_ct_mono _ (by omega)
    rw [fb_ct_succ] at h1 h2
    simp only [bi, bj, if_true] at h1 h2
    unfold zn_pc at h
    omega
  rcases Nat.lt_trichotomy i j with q | q | q
  · exact absurd (key i j q hj bi bj) id
  · exact q
  · exact absurd (key j i q hi bj bi) id
theorem zE_ne {an : Nat → Int32} {N x np : Nat} {h pl ch cc : Nat → Nat} (hF : za_F an N x N np h pl ch cc) {i j : Nat} (hij : i < j) (hj : j < np) (hN : N ≤ 16) : ∃ m, m < N ∧ an (16 * m + h i) ≠ an (16 * m + h j) := by
  have ht := hF.2.2.2.1 i j hij hj
  refine Classical.byContradiction (fun hc => ?_)
  have : zt_tw an N (h i) (h j) = true := (zt_tw_iff hN).mpr (fun m hm => Classical.byContradiction (fun q => hc ⟨m, hm, q⟩))
  rw [ht] at this; cases this
theorem zE_done {an : Nat → Int32} {N x np : Nat} {h pl ch cc : Nat → Nat} (hN : N ≤ 16) (hnp : np ≤ 12) (hF : za_F an N x N np h pl ch cc) {P : Nat} (hP : P < 2 ^ np) : zd_done an N (zE x pl N P) = true ↔ zn_pc P < 2 := by
  unfold zd_done
  rw [Option.isNone_iff_eq_none, zf_pr_none]
  constructor
  · intro hd
    refine Nat.lt_of_not_le (fun h2 => ?_)
    obtain ⟨i, j, hij, hj, bi, bj⟩ := zn_two h2
    have hjn : j < np := by
      rcases Nat.lt_or_ge j np with q | q
      · exact q
      · rw [zn_high hP q] at bj; cases bj
    have hin : i < np := by omega
    have si : (zE x pl N P).testBit (h i) = true := by rw [zE_h hF hin]; exact bi
    have sj : (zE x pl N P).testBit (h j) = true := by rw [zE_h hF hjn]; exact bj
    have ht := hF.2.2.2.1 i j hij hjn
    have hi1 := (hF.2.1 i hin).1
    have hj1 := (hF.2.1 j hjn).1
    rcases Nat.lt_trichotomy (h i) (h j) with q | q | q
    · have := hd _ _ (Nat.zero_le _) (by omega) q hj1
      unfold zd_f at this
      rw [si, sj, ht] at this; cases this
    · rw [q] at ht
      have : zt_tw an N (h j) (h j) = true := (zt_tw_iff hN).mpr (fun _ _ => rfl)
      rw [ht] at this; cases this
    · have := hd _ _ (Nat.zero_le _) (by omega) q hi1
      unfold zd_f at this
      rw [si, sj, zt_tw_symm hN, ht] at this; cases this
  · intro h2 a b _ _ hab hb
    unfold zd_f
    cases sa : (zE x pl N P).testBit a
    · rfl
    · cases sb : (zE x pl N P).testBit b
      · rfl
      · have ga := zE_bit.mp sa
        have gb := zE_bit.mp sb
        have fa := hF.2.2.1 a ga.1 ga.2.1
        have fb := hF.2.2.1 b gb.1 gb.2.1
        have e : pl a = pl b := zn_one_bit h2 (by omega) (by omega) ga.2.2 gb.2.2
        have : zt_tw an N a b = true := (zt_tw_iff hN).mpr (fun m hm => by
          rw [← (zt_tw_iff hN).mp fa.2 m hm, e, (zt_tw_iff hN).mp fb.2 m hm])
        rw [this]; rfl
theorem zE_parting {an : Nat → Int32} {N x np : Nat} {h pl ch cc : Nat → Nat} (hN : N ≤ 16) (hF : za_F an N x N np h pl ch cc) {P : Nat} (hP : P < 2 ^ np) (h2 : 2 ≤ zn_pc P) : ∃ m, m < N ∧ ∀ p, zo_pt an N (zE x pl N P) m p ≠ zE x pl N P := by
  obtain ⟨i, j, hij, hj, bi, bj⟩ := zn_two h2
  have hjn : j < np := by
    rcases Nat.lt_or_ge j np with q | q
    · exact q
    · rw [zn_high hP q] at bj; cases bj
  obtain ⟨m, hm, hne⟩ := zE_ne hF hij hjn hN
  refine ⟨m, hm, fun p e => hne ?_⟩
  have si : (zE x pl N P).testBit (h i) = true := by rw [zE_h hF (by omega)]; exact bi
  have sj : (zE x pl N P).testBit (h j) = true := by rw [zE_h hF hjn]; exact bj
  rw [← e] at si sj
  rw [(zo_pt_bit.mp si).2.2, (zo_pt_bit.mp sj).2.2]
theorem zg_mem_ix {l : List Nat} {g : Nat} (h : g ∈ l) : ∃ i, i < l.length ∧ l.getD i 0 = g := by
  obtain ⟨i, hi, e⟩ := List.mem_iff_getElem.mp h
  exact ⟨i, hi, by rw [List.getD_eq_getElem?_getD, List.getElem?_eq_getElem hi]; exact e⟩
theorem zg_ix_mem {l : List Nat} {i : Nat} (h : i < l.length) : l.getD i 0 ∈ l := by
  rw [List.getD_eq_getElem?_getD, List.getElem?_eq_getElem h]; exact List.getElem_mem h
theorem zg_pl_mem {h : Nat → Nat} {np : Nat} {l : List Nat} {b : Nat} : b ∈ zg_pl h np l ↔ b ≠ 0 ∧ ∃ g, g ∈ l ∧ b = zg_b h np g := by
  unfold zg_pl
  rw [List.mem_filter, List.mem_map]
  constructor
  · rintro ⟨⟨g, h1, h2⟩, h3⟩; exact ⟨by simpa using h3, g, h1, h2.symm⟩
  · rintro ⟨h1, g, h2, h3⟩; exact ⟨⟨g, h2, h3.symm⟩, by simpa using h1⟩
theorem za_all_iff {l : List Nat} {P : Nat} : za_all l P = true ↔ ∃ g, g ∈ l ∧ P &&& g = P := by
  unfold za_all
  rw [Option.isSome_iff_exists]
  constructor
  · rintro ⟨i, hi⟩
    have := zf_in_some hi
    exact ⟨l.getD i 0, zg_ix_mem (by have := this.2.1; omega), by simpa using this.2.2⟩
  · rintro ⟨g, h1, h2⟩
    obtain ⟨i, hi, e⟩ := zg_mem_ix h1
    cases hz : zf_in (fun i => decide (P &&& l.getD i 0 = P)) l.length 0 with
    | some j => exact ⟨j, rfl⟩
    | none =>
      rw [zf_in_none] at hz
      have := hz i (by omega) (by omega)
      rw [e] at this; simp [h2] at this
theorem zE_all {an : Nat → Int32} {N x np : Nat} {h pl ch cc : Nat → Nat} (hN : N ≤ 16) (hF : za_F an N x N np h pl ch cc) {P m : Nat} (hm : m < N) (hP : P < 2 ^ np) (h0 : P ≠ 0) : za_all (zg_pl h np (zx_gl an N m)) P = true ↔ ∃ p, p < N ∧ (zE x pl N P).testBit p = true ∧ zo_pt an N (zE x pl N P) m p = zE x pl N P := by
  rw [za_all_iff]
  constructor
  · rintro ⟨b, h1, h2⟩
    obtain ⟨_, g, h3, h4⟩ := zg_pl_mem.mp h1
    obtain ⟨r, h5, h6⟩ := zx_gl_all.2 g h3
    have e := zE_part hN hF (P := P) (r := r) hm
    rw [← h6, ← h4, h2] at e
    have hne : zE x pl N P ≠ 0 := fun q => h0 (zE_inj hF hP (Nat.two_pow_pos np) (by rw [q, zE_0]))
    obtain ⟨p, hp⟩ : ∃ p, (zE x pl N P).testBit p = true := by
      refine Classical.byContradiction (fun hc => hne (zn_zero zE_lt (fun i _ => ?_)))
      cases hb : (zE x pl N P).testBit i
      · rfl
      · exact absurd ⟨i, hb⟩ hc
    have hp2 := hp
    rw [e] at hp2
    have := zo_pt_bit.mp hp2
    exact ⟨p, this.1, hp, by rw [zo_pt_key this.2.2]; exact e.symm⟩
  · rintro ⟨p, h1, h2, h3⟩
    have e := zE_part hN hF (P := P) (r := p) hm
    rw [h3] at e
    have e2 := zE_inj hF (Nat.lt_of_le_of_lt Nat.and_le_left hP) hP e
    refine ⟨_, zg_pl_mem.mpr ⟨fun q => h0 ?_, _, zx_gl_all.1 p h1, rfl⟩, e2⟩
    rw [← e2, q, Nat.and_zero]
theorem za_af_le {v : Nat → Nat} {K : Nat} : ∀ n, za_af 0 v n ≤ K ↔ ∀ i, i < n → v i ≤ K
  | 0 => ⟨fun _ i hi => absurd hi (by omega), fun _ => Nat.zero_le _⟩
  | n + 1 => by
    rw [za_af, if_pos rfl]
    have ih := za_af_le (v := v) (K := K) n
    have e : (if za_af 0 v n < v n then v n else za_af 0 v n) ≤ K ↔ za_af 0 v n ≤ K ∧ v n ≤ K := by split <;> omega
    rw [e, ih]
    constructor
    · rintro ⟨h1, h2⟩ i hi
      by_cases c : i = n
      · rw [c]; exact h2
      · exact h1 i (by omega)
    · intro hh; exact ⟨fun i hi => hh i (by omega), hh n (by omega)⟩
theorem za_af_1 {v : Nat → Nat} : ∀ n, za_af 1 v n = fb_sm v n
  | 0 => rfl
  | n + 1 => by rw [za_af, if_neg (by decide), za_af_1 n]; rfl
theorem zE_max {an : Nat → Int32} {N x np : Nat} {h pl ch cc : Nat → Nat} (hN : N ≤ 16) (hF : za_F an N x N np h pl ch cc) {P m : Nat} (hm : m < N) {V : Nat → Nat} (hV0 : V 0 = 0) : za_af 0 (fun i => V (zE x pl N (P &&& (zg_pl h np (zx_gl an N m)).getD i 0))) (zg_pl h np (zx_gl an N m)).length = za_af 0 (fun p => if zk_ld (fun q => an (16 * m + q)) (fun q => (zE x pl N P).testBit q) p then V (zo_pt an N (zE x pl N P) m p) else 0) N := by
  have key : ∀ K, za_af 0 (fun i => V (zE x pl N (P &&& (zg_pl h np (zx_gl an N m)).getD i 0))) (zg_pl h np (zx_gl an N m)).length ≤ K ↔ za_af 0 (fun p => if zk_ld (fun q => an (16 * m + q)) (fun q => (zE x pl N P).testBit q) p then V (zo_pt an N (zE x pl N P) m p) else 0) N ≤ K := by
    intro K
    rw [za_af_le, za_af_le]
    constructor
    · intro hh p hp
      cases hl : zk_ld (fun q => an (16 * m + q)) (fun q => (zE x pl N P).testBit q) p
      · simp
      · simp only [if_true]
        have hs := (zk_ld_iff.mp hl).1
        have e := zE_part hN hF (P := P) (r := p) hm
        have hb : zg_b h np (zn_mask (zx_sa an m p) N) ∈ zg_pl h np (zx_gl an N m) := zg_pl_mem.mpr ⟨(fun q => by
          rw [q, Nat.and_zero, zE_0] at e
          have h9 : (zo_pt an N (zE x pl N P) m p).testBit p = true := zo_pt_bit.mpr ⟨hp, hs, rfl⟩
          rw [← e, Nat.zero_testBit] at h9
          exact absurd h9 (by decide)), _, zx_gl_all.1 p hp, rfl⟩
        obtain ⟨i, hi, ei⟩ := zg_mem_ix hb
        have := hh i hi
        rw [ei, e] at this
        exact this
    · intro hh i hi
      obtain ⟨_, g, h3, h4⟩ := zg_pl_mem.mp (zg_ix_mem hi)
      obtain ⟨r, h5, h6⟩ := zx_gl_all.2 g h3
      rw [h4, h6, zE_part hN hF hm]
      by_cases hx : ∃ q, q < N ∧ (zE x pl N P).testBit q = true ∧ an (16 * m + q) = an (16 * m + r)
      · obtain ⟨p, a1, a2, a3⟩ := zk_first (b := fun q => (zE x pl N P).testBit q && decide (an (16 * m + q) = an (16 * m + r))) (N := N) (by obtain ⟨q, b1, b2, b3⟩ := hx; exact ⟨q, b1, by simp [b2, b3]⟩)
        simp only [Bool.and_eq_true, decide_eq_true_eq] at a2
        have hl : zk_ld (fun q => an (16 * m + q)) (fun q => (zE x pl N P).testBit q) p = true := zk_ld_iff.mpr ⟨a2.1, fun q hq hs hk => by
          have := a3 q hq
          rw [hs] at this
          simp only [Bool.true_and, decide_eq_false_iff_not] at this
          exact this (by rw [← a2.2]; exact hk)⟩
        have := hh p a1
        rw [if_pos hl, zo_pt_key a2.2] at this
        exact this
      · rw [zo_pt_none (fun q b1 b2 b3 => hx ⟨q, b1, b2, b3⟩), hV0]; exact Nat.zero_le _
  exact Nat.le_antisymm ((key _).mpr (Nat.le_refl _)) ((key _).mp (Nat.le_refl _))
theorem zE_sum {an : Nat → Int32} {N x np : Nat} {h pl ch cc : Nat → Nat} (hN : N ≤ 16) (hF : za_F an N x N np h pl ch cc) {P m : Nat} (hm : m < N) {V : Nat → Nat} (hV0 : V 0 = 0) : za_af 1 (fun i => V (zE x pl N (P &&& (zg_pl h np (zx_gl an N m)).getD i 0))) (zg_pl h np (zx_gl an N m)).length = za_af 1 (fun p => if zk_ld (fun q => an (16 * m + q)) (fun q => (zE x pl N P).testBit q) p then V (zo_pt an N (zE x pl N P) m p) else 0) N := by
  rw [za_af_1, za_af_1, fb_sm_list (fun g => V (zE x pl N (P &&& g))), zls_pl (by rw [Nat.and_zero, zE_0, hV0]), zx_gl_sum]
  have e : ∀ r, r < N → (if zk_ld (fun q => an (16 * m + q)) (fun _ => true) r then V (zE x pl N (P &&& zg_b h np (zn_mask (zx_sa an m r) N))) else 0) = if zk_ld (fun q => an (16 * m + q)) (fun _ => true) r then V (zo_pt an N (zE x pl N P) m r) else 0 := fun r _ => by rw [zE_part hN hF hm]
  rw [fb_sm_cong e]
  exact zk_move (fun _ _ _ => rfl) (fun r p _ _ hk => by rw [zo_pt_key hk]) (fun r _ hq => by rw [zo_pt_none hq, hV0])
/-- the reference's round over one mark -/
theorem zo_in_stay {an W M : Nat → Int32} {N s m : Nat} : ∀ (n p : Nat) (w v : Int32) (g : Nat), (zo_in an W M N s m n p w v g true).2.2 = true
  | 0, _, _, _, _ => rfl
  | n + 1, p, w, v, g => by
    rw [zo_in]
    split
    · exact zo_in_stay n _ _ _ _
    · rw [Bool.true_or, if_pos rfl]; exact zo_in_stay n _ _ _ _
theorem zo_in_all {an W M : Nat → Int32} {N s m : Nat} (hk : ∀ p, p < N → s.testBit p = true → zo_pt an N s m p = s) : ∀ (n p : Nat) (w v : Int32), p + n = N → (∃ q, p ≤ q ∧ q < N ∧ s.testBit q = true) → (zo_in an W M N s m n p w v 0 false).2.2 = true
  | 0, p, w, v, hp, ⟨q, h1, h2, _⟩ => absurd h1 (by omega)
  | n + 1, p, w, v, hp, ⟨q, h1, h2, h3⟩ => by
    rw [zo_in]
    cases hb : s.testBit p
    · rw [if_pos (Or.inl rfl)]
      refine zo_in_all hk n (p + 1) w v (by omega) ⟨q, ?_, h2, h3⟩
      rcases Nat.lt_or_ge p q with g | g
      · exact g
      · have : p = q := by omega
        rw [this, h3] at hb; cases hb
    · rw [if_neg (by simp), if_pos (by rw [hk p (by omega) hb]; simp)]
      exact zo_in_stay n _ _ _ _
theorem zo_in_none {an W M : Nat → Int32} {Wn Mn : Nat → Nat} {N s m wt : Nat} (hne : ∀ p, p < N → s.testBit p = true → zo_pt an N s m p ≠ s) (hW : ∀ p, p < N → s.testBit p = true → W (zo_pt an N s m p) = nI (Wn (zo_pt an N s m p)) ∧ Wn (zo_pt an N s m p) < 2 ^ 31 ∧ M (zo_pt an N s m p) = nI (Mn (zo_pt an N s m p))) : ∀ (n p g : Nat), p + n = N → (∀ q, q < N → s.testBit q = true → (g.testBit q = true ↔ ∃ r, r < p ∧ s.testBit r = true ∧ an (16 * m + r) = an (16 * m + q))) →
    zo_in an W M N s m n p (nI (za_af 0 (fun p => if zk_ld (fun q => an (16 * m + q)) (fun q => s.testBit q) p then Wn (zo_pt an N s m p) else 0) p)) (nI (wt + za_af 1 (fun p => if zk_ld (fun q => an (16 * m + q)) (fun q => s.testBit q) p then Mn (zo_pt an N s m p) else 0) p)) g false = (nI (za_af 0 (fun p => if zk_ld (fun q => an (16 * m + q)) (fun q => s.testBit q) p then Wn (zo_pt an N s m p) else 0) N), nI (wt + za_af 1 (fun p => if zk_ld (fun q => an (16 * m + q)) (fun q => s.testBit q) p then Mn (zo_pt an N s m p) else 0) N), false)
  | 0, p, g, hp, _ => by
    have : p = N := by omega
    rw [this, zo_in]
  | n + 1, p, g, hp, hg => by
    have hpN : p < N := by omega
    have hld : zk_ld (fun q => an (16 * m + q)) (fun q => s.testBit q) p = true ↔ (s.testBit p = true ∧ g.testBit p = false) := by
      rw [zk_ld_iff]
      constructor
      · rintro ⟨h1, h2⟩
        refine ⟨h1, ?_⟩
        cases hb : g.testBit p
        · rfl
        · obtain ⟨r, a, b, c⟩ := (hg p hpN h1).mp hb
          exact absurd c (h2 r a b)
      · rintro ⟨h1, h2⟩
        refine ⟨h1, fun r hr hs hk => ?_⟩
        have := (hg p hpN h1).mpr ⟨r, hr, hs, hk⟩
        rw [h2] at this; cases this
    rw [zo_in]
    by_cases hc : s.testBit p = false ∨ g.testBit p = true
    · rw [if_pos hc]
      have hl : zk_ld (fun q => an (16 * m + q)) (fun q => s.testBit q) p = false := by
        cases hb : zk_ld (fun q => an (16 * m + q)) (fun q => s.testBit q) p
        · rfl
        · have := hld.mp hb
          rcases hc with c | c
          · rw [this.1] at c; cases c
          · rw [this.2] at c; cases c
      have ih := zo_in_none (wt := wt) hne hW n (p + 1) g (by omega) (fun q hq hs => by
        rw [hg q hq hs]
        constructor
        · rintro ⟨r, a, b, c⟩; exact ⟨r, by omega, b, c⟩
        · rintro ⟨r, a, b, c⟩
          by_cases e : r = p
          · subst e
            have : g.testBit r = true := by
              rcases hc with d | d
              · rw [b] at d; cases d
              · exact d
            obtain ⟨r', a', b', c'⟩ := (hg r (by omega) b).mp this
            exact ⟨r', a', b', by rw [c', c]⟩
          · exact ⟨r, by omega, b, c⟩)
      rw [za_af, za_af, hl] at ih
      simp only [if_true, if_false, Bool.false_eq_true, Nat.not_lt_zero, Nat.add_zero, show ¬ (1 : Int32) = 0 from by decide] at ih
      exact ih
    · have hs : s.testBit p = true := by
        cases hb : s.testBit p
        · exact absurd (Or.inl hb) hc
        · rfl
      have hg0 : g.testBit p = false := by
        cases hb : g.testBit p
        · rfl
        · exact absurd (Or.inr hb) hc
      have hl := hld.mpr ⟨hs, hg0⟩
      obtain ⟨w1, w2, w3⟩ := hW p hpN hs
      rw [if_neg hc, if_neg (by simp [hne p hpN hs])]
      have ih := zo_in_none (wt := wt) hne hW n (p + 1) (g ||| zo_pt an N s m p) (by omega) (fun q hq hs' => by
        rw [Nat.testBit_or, Bool.or_eq_true, hg q hq hs', zo_pt_bit]
        constructor
        · rintro (⟨r, a, b, c⟩ | ⟨a, b, c⟩)
          · exact ⟨r, by omega, b, c⟩
          · exact ⟨p, by omega, hs, c.symm⟩
        · rintro ⟨r, a, b, c⟩
          by_cases e : r = p
          · subst e; exact Or.inr ⟨hq, hs', c.symm⟩
          · exact Or.inl ⟨r, by omega, b, c⟩)
      rw [za_af, za_af, hl] at ih
      simp only [if_true, if_false, Bool.false_eq_true, show ¬ (1 : Int32) = 0 from by decide] at ih
      rw [w1, w3, nI_add, Nat.add_assoc]
      have hb : za_af 0 (fun p => if zk_ld (fun q => an (16 * m + q)) (fun q => s.testBit q) p = true then Wn (zo_pt an N s m p) else 0) p < 2 ^ 31 := by
        have : za_af 0 (fun p => if zk_ld (fun q => an (16 * m + q)) (fun q => s.testBit q) p = true then Wn (zo_pt an N s m p) else 0) p ≤ 2 ^ 31 - 1 := (za_af_le p).mpr (fun i hi => by
          split
          · next hh => have := (hW i (by omega) (zk_ld_iff.mp hh).1).2.1; omega
          · omega)
        omega
      have e : (if nI (Wn (zo_pt an N s m p)) ≤ nI (za_af 0 (fun p => if zk_ld (fun q => an (16 * m + q)) (fun q => s.testBit q) p = true then Wn (zo_pt an N s m p) else 0) p) then nI (za_af 0 (fun p => if zk_ld (fun q => an (16 * m + q)) (fun q => s.testBit q) p = true then Wn (zo_pt an N s m p) else 0) p) else nI (Wn (zo_pt an N s m p))) = nI (if za_af 0 (fun p => if zk_ld (fun q => an (16 * m + q)) (fun q => s.testBit q) p = true then Wn (zo_pt an N s m p) else 0) p < Wn (zo_pt an N s m p) then Wn (zo_pt an N s m p) else za_af 0 (fun p => if zk_ld (fun q => an (16 * m + q)) (fun q => s.testBit q) p = true then Wn (zo_pt an N s m p) else 0) p) := by
        by_cases c : za_af 0 (fun p => if zk_ld (fun q => an (16 * m + q)) (fun q => s.testBit q) p = true then Wn (zo_pt an N s m p) else 0) p < Wn (zo_pt an N s m p)
        · rw [if_pos c, if_neg (nI_ge c w2)]
        · rw [if_neg c, if_pos ((nI_leI w2 hb).mpr (by omega))]
      rw [e]
      exact ih

/-! the reference's table is what the class's costs are -/
theorem za_mn_at {A : Nat → Nat} : ∀ {n m : Nat}, m < n → za_mn A n ≤ A m
  | 0, m, h => absurd h (by omega)
  | n + 1, m, h => by
    rw [za_mn]
    by_cases e : m = n
    · rw [e]; split <;> omega
    · have := za_mn_at (A := A) (n := n) (m := m) (by omega)
      split <;> omega
def zo_inv (A0 A1 : Nat → Nat) (m : Nat) (c : Int32 × Int32 × Int32) : Prop :=
  (za_mn A0 m = 1000000000 ∧ za_mn A1 m = 1000000000 ∧ c = (1000000, 2147483647, -1)) ∨ (za_mn A0 m ≤ 100000 ∧ za_mn A1 m ≤ 100000 ∧ c.1 = nI (za_mn A0 m) ∧ c.2.1 = nI (za_mn A1 m) ∧ ∃ i, i < m ∧ c.2.2 = nI i ∧ A0 i = za_mn A0 m ∧ ∀ j, j < i → A0 j ≠ za_mn A0 m)
def zo_at (an W M : Nat → Int32) (N s wt : Nat) (A0 A1 : Nat → Nat) (m : Nat) : Prop := ((zo_in an W M N s m N 0 0 (nI wt) 0 false).2.2 = true ∧ A0 m = 1000000000 ∧ A1 m = 1000000000) ∨ ∃ a0 a1, zo_in an W M N s m N 0 0 (nI wt) 0 false = (nI a0, nI a1, false) ∧ A0 m = a0 + 1 ∧ A1 m = a1 ∧ a0 + 1 ≤ 100000 ∧ a1 ≤ 100000
theorem zo_m_spec {an W M : Nat → Int32} {N s wt : Nat} {A0 A1 : Nat → Nat} (h : ∀ m, m < N → zo_at an W M N s wt A0 A1 m) : ∀ (n m : Nat) (c : Int32 × Int32 × Int32), m + n = N → zo_inv A0 A1 m c → zo_inv A0 A1 N (zo_m an W M N s (nI wt) n m c)
  | 0, m, c, hm, hc => by
    have : m = N := by omega
    rw [zo_m, ← this]; exact hc
  | n + 1, m, c, hm, hc => by
    rw [zo_m]
    refine zo_m_spec h n (m + 1) _ (by omega) ?_
    rcases h m (by omega) with ⟨h1, h2, h3⟩ | ⟨a0, a1, h1, h2, h3, h4, h5⟩
    · rw [if_pos h1]
      unfold zo_inv at hc ⊢
      rw [za_mn, za_mn, h2, h3]
      rcases hc with ⟨b1, b2, b3⟩ | ⟨b1, b2, b3, b4, i, b5, b6, b7, b8⟩
      · rw [b1, b2]; exact Or.inl ⟨rfl, rfl, b3⟩
      · rw [if_neg (by omega), if_neg (by omega)]
        exact Or.inr ⟨b1, b2, b3, b4, i, by omega, b6, b7, b8⟩
    · rw [h1]
      simp only [Bool.false_eq_true, if_false]
      unfold zo_inv at hc ⊢
      rw [za_mn, za_mn, h2, h3]
      right
      rcases hc with ⟨b1, b2, b3⟩ | ⟨b1, b2, b3, b4, i, b5, b6, b7, b8⟩
      · rw [b1, b2, b3, if_pos (by omega), if_pos (by omega)]
        have q1 : nI a0 + 1 < 1000000 := by rw [nI_1]; exact nI_lt (b := 1000000) (by omega) (by decide)
        have q2 : nI a1 < 2147483647 := nI_lt (b := 2147483647) (by omega) (by decide)
        dsimp only
        rw [if_pos q1, if_pos q2, if_pos q1, nI_1]
        refine ⟨h4, h5, rfl, rfl, m, by omega, rfl, h2, fun j hj => ?_⟩
        have := za_mn_at (A := A0) hj
        omega
      · have q1 : nI a0 + 1 < c.1 ↔ a0 + 1 < za_mn A0 m := by rw [b3, nI_1]; exact nI_ltI (by omega) (by omega)
        have q2 : nI a1 < c.2.1 ↔ a1 < za_mn A1 m := by rw [b4]; exact nI_ltI (by omega) (by omega)
        refine ⟨by split <;> omega, by split <;> omega, ?_, ?_, ?_⟩
        · dsimp only
          by_cases g : a0 + 1 < za_mn A0 m
          · rw [if_pos (q1.mpr g), if_pos g, nI_1]
          · rw [if_neg (fun w => g (q1.mp w)), if_neg g]; exact b3
        · dsimp only
          by_cases g : a1 < za_mn A1 m
          · rw [if_pos (q2.mpr g), if_pos g]
          · rw [if_neg (fun w => g (q2.mp w)), if_neg g]; exact b4
        · dsimp only
          by_cases g : a0 + 1 < za_mn A0 m
          · rw [if_pos (q1.mpr g), if_pos g]
            refine ⟨m, by omega, rfl, h2, fun j hj => ?_⟩
            have := za_mn_at (A := A0) hj
            omega
          · rw [if_neg (fun w => g (q1.mp w)), if_neg g]
            exact ⟨i, by omega, b6, b7, b8⟩
def zW (S an : Nat → Int32) (N s : Nat) : Nat := (zt_at (zo_FO S an N) s).1.toNatClampNeg
def zMn (S an : Nat → Int32) (N s : Nat) : Nat := (zt_at (zo_FO S an N) s).2.1.toNatClampNeg
def z_wt (cc : Nat → Nat) (N s : Nat) : Nat := fb_sm (fun p => if s.testBit p then cc p else 0) N
theorem z_wt_le {cc : Nat → Nat} {N s : Nat} (hN : N ≤ 16) (hc : ∀ p, p < N → cc p ≤ 100) : z_wt cc N s ≤ 1600 := by
  have := fb_sm_bound (f := fun p => if s.testBit p then cc p else 0) (c := 100) (n := N) (fun k hk => by have := hc k hk; split <;> omega)
  unfold z_wt
  omega
theorem z_wt_E {an : Nat → Int32} {N x np : Nat} {h pl ch cc : Nat → Nat} (hF : za_F an N x N np h pl ch cc) (P : Nat) : z_wt cc N (zE x pl N P) = za_u 1 ch np P := by
  unfold z_wt za_u
  rw [if_neg (by decide), hF.2.2.2.2 P]
  refine fb_sm_cong (fun p hp => ?_)
  have : (zE x pl N P).testBit p = (x.testBit p && P.testBit (pl p)) := by unfold zE; rw [zn_bit]; simp [hp]
  rw [this]
theorem z_wt_pt {an : Nat → Int32} {cc : Nat → Nat} {N s m p : Nat} : z_wt cc N (zo_pt an N s m p) = fb_sm (fun q => if s.testBit q && decide (an (16 * m + q) = an (16 * m + p)) then cc q else 0) N := by
  unfold z_wt
  refine fb_sm_cong (fun q hq => ?_)
  have : (zo_pt an N s m p).testBit q = (s.testBit q && decide (an (16 * m + q) = an (16 * m + p))) := by unfold zo_pt zs_f; rw [zn_bit]; simp [hq]
  rw [this]
theorem zo_wt_n {S : Nat → Int32} {cc : Nat → Nat} {N s : Nat} (hc : ∀ p, p < N → S (295 + p) = nI (cc p)) : zo_wt S N s = nI (z_wt cc N s) := by
  unfold zo_wt z_wt
  refine zm_sum_n N (fun p hp => ?_)
  rw [hc p hp]
  cases s.testBit p <;> rfl
/-- all that is claimed of one set of places -/
def zK (S an : Nat → Int32) (N x np : Nat) (h pl ch cc : Nat → Nat) (P : Nat) : Prop :=
  (zt_at (zo_FO S an N) (zE x pl N P)).1 = nI (zW S an N (zE x pl N P)) ∧ zW S an N (zE x pl N P) ≤ zn_pc P ∧ (zt_at (zo_FO S an N) (zE x pl N P)).2.1 = nI (zMn S an N (zE x pl N P)) ∧ zMn S an N (zE x pl N P) ≤ zn_pc P * z_wt cc N (zE x pl N P) ∧
  (zn_pc P < 2 → zt_at (zo_FO S an N) (zE x pl N P) = (0, 0, -1)) ∧
  (2 ≤ zn_pc P → zW S an N (zE x pl N P) = za_mn (fun m => za_A 0 (fun P => zW S an N (zE x pl N P)) ch np (zg_pl h np (zx_gl an N m)) P) N ∧ zMn S an N (zE x pl N P) = za_mn (fun m => za_A 1 (fun P => zMn S an N (zE x pl N P)) ch np (zg_pl h np (zx_gl an N m)) P) N ∧ (zt_at (zo_FO S an N) (zE x pl N P)).2.2 = zr_in (zf_in (fun m => decide (za_A 0 (fun P => zW S an N (zE x pl N P)) ch np (zg_pl h np (zx_gl an N m)) P = zW S an N (zE x pl N P))) N 0))
theorem zt_at_done {S an : Nat → Int32} {N s : Nat} (h : zd_done an N s = true) : zt_at (zo_FO S an N) s = (0, 0, -1) := by
  rw [zt_at_eq]; unfold zo_FO; rw [if_pos h]
theorem zW_0 {S an : Nat → Int32} {N x np : Nat} {h pl ch cc : Nat → Nat} (hN : N ≤ 16) (hnp : np ≤ 12) (hF : za_F an N x N np h pl ch cc) : zW S an N 0 = 0 ∧ zMn S an N 0 = 0 := by
  have hd : zd_done an N (zE x pl N 0) = true := (zE_done hN hnp hF (Nat.two_pow_pos np)).mpr (by rw [zn_pc_0]; decide)
  rw [zE_0] at hd
  unfold zW zMn
  rw [zt_at_done hd]
  exact ⟨rfl, rfl⟩
theorem zK_small {S an : Nat → Int32} {N x np : Nat} {h pl ch cc : Nat → Nat} (hN : N ≤ 16) (hnp : np ≤ 12) (hF : za_F an N x N np h pl ch cc) {P : Nat} (hP : P < 2 ^ np) (h2 : zn_pc P < 2) : zK S an N x np h pl ch cc P := by
  have e : zt_at (zo_FO S an N) (zE x pl N P) = (0, 0, -1) := zt_at_done ((zE_done hN hnp hF hP).mpr h2)
  have e1 : zW S an N (zE x pl N P) = 0 := by unfold zW; rw [e]; rfl
  have e2 : zMn S an N (zE x pl N P) = 0 := by unfold zMn; rw [e]; rfl
  unfold zK
  rw [e1, e2, e]
  exact ⟨rfl, Nat.zero_le _, rfl, Nat.zero_le _, fun _ => rfl, fun q => absurd q (by omega)⟩
theorem zK_all {S an : Nat → Int32} {N x np : Nat} {h pl ch cc : Nat → Nat} (hN : N ≤ 16) (hnp : np ≤ 12) (hF : za_F an N x N np h pl ch cc) (hc : ∀ p, p < N → cc p ≤ 100) (hS : ∀ p, p < N → S (295 + p) = nI (cc p)) : ∀ (k P : Nat), P < 2 ^ np → zn_pc P ≤ k → zK S an N x np h pl ch cc P
  | 0, P, hP, hk => zK_small hN hnp hF hP (by omega)
  | k + 1, P, hP, hk => by
    rcases Nat.lt_or_ge (zn_pc P) 2 with h2 | h2
    · exact zK_small hN hnp hF hP h2
    have h16 := zn_pc_le P
    have hP16 : P < 65536 := Nat.lt_of_lt_of_le hP (zi_pow (by omega))
    have h0 : P ≠ 0 := zn_pc_pos (by omega)
    obtain ⟨z1, z2⟩ := zW_0 (S := S) hN hnp hF
    have hwt := z_wt_le (s := zE x pl N P) hN hc
    have hnd : zd_done an N (zE x pl N P) = false := by
      cases hd : zd_done an N (zE x pl N P)
      · rfl
      · have := (zE_done hN hnp hF hP).mp hd; omega
    have hsub : ∀ m p, m < N → (zE x pl N P).testBit p = true → zo_pt an N (zE x pl N P) m p ≠ zE x pl N P → ∃ P', P' < 2 ^ np ∧ zn_pc P' < zn_pc P ∧ zo_pt an N (zE x pl N P) m p = zE x pl N P' ∧ zK S an N x np h pl ch cc P' := by
      intro m p hm hp hne
      have e := zE_part hN hF (P := P) (r := p) hm
      have hlt : P &&& zg_b h np (zn_mask (zx_sa an m p) N) < 2 ^ np := Nat.lt_of_le_of_lt Nat.and_le_left hP
      have hst := zn_pc_strict (g := zg_b h np (zn_mask (zx_sa an m p) N)) hP16 (fun q => hne (by rw [← e, q]))
      exact ⟨_, hlt, hst, e.symm, zK_all hN hnp hF hc hS k _ hlt (by omega)⟩
    have hat : ∀ m, m < N → zo_at an (fun i => (zt_at (zo_FO S an N) i).1) (fun i => (zt_at (zo_FO S an N) i).2.1) N (zE x pl N P) (z_wt cc N (zE x pl N P)) (fun m => za_A 0 (fun P => zW S an N (zE x pl N P)) ch np (zg_pl h np (zx_gl an N m)) P) (fun m => za_A 1 (fun P => zMn S an N (zE x pl N P)) ch np (zg_pl h np (zx_gl an N m)) P) m ∧ ((∀ p, zo_pt an N (zE x pl N P) m p ≠ zE x pl N P) → za_A 0 (fun P => zW S an N (zE x pl N P)) ch np (zg_pl h np (zx_gl an N m)) P ≤ zn_pc P ∧ za_A 1 (fun P => zMn S an N (zE x pl N P)) ch np (zg_pl h np (zx_gl an N m)) P ≤ zn_pc P * z_wt cc N (zE x pl N P)) := by
      intro m hm
      cases hal : za_all (zg_pl h np (zx_gl an N m)) P
      · have hne : ∀ p, p < N → (zE x pl N P).testBit p = true → zo_pt an N (zE x pl N P) m p ≠ zE x pl N P := fun p hp hs he => by
          have := (zE_all hN hF hm hP h0).mpr ⟨p, hp, hs, he⟩
          rw [hal] at this; cases this
        have hin := zo_in_none (an := an) (W := fun i => (zt_at (zo_FO S an N) i).1) (M := fun i => (zt_at (zo_FO S an N) i).2.1) (Wn := zW S an N) (Mn := zMn S an N) (N := N) (s := zE x pl N P) (m := m) (wt := z_wt cc N (zE x pl N P)) hne (fun p hp hs => by
          obtain ⟨P', a1, a2, a3, a4⟩ := hsub m p hm hs (hne p hp hs)
          rw [a3]
          exact ⟨a4.1, by have := a4.2.1; omega, a4.2.2.1⟩) N 0 0 (by omega) (fun q _ _ => ⟨fun g => by rw [Nat.zero_testBit] at g; (cases g), fun ⟨r, g, _⟩ => absurd g (by omega)⟩)
        rw [za_af, za_af] at hin
        have b0 : za_af 0 (fun p => if zk_ld (fun q => an (16 * m + q)) (fun q => (zE x pl N P).testBit q) p = true then zW S an N (zo_pt an N (zE x pl N P) m p) else 0) N ≤ zn_pc P - 1 := (za_af_le N).mpr (fun p hp => by
          by_cases hl : zk_ld (fun q => an (16 * m + q)) (fun q => (zE x pl N P).testBit q) p = true
          · rw [if_pos hl]
            have hs := (zk_ld_iff.mp hl).1
            obtain ⟨P', a1, a2, a3, a4⟩ := hsub m p hm hs (hne p hp hs)
            rw [a3]
            have := a4.2.1
            omega
          · rw [if_neg hl]; exact Nat.zero_le _)
        have b1 : za_af 1 (fun p => if zk_ld (fun q => an (16 * m + q)) (fun q => (zE x pl N P).testBit q) p = true then zMn S an N (zo_pt an N (zE x pl N P) m p) else 0) N ≤ (zn_pc P - 1) * z_wt cc N (zE x pl N P) := by
          rw [za_af_1]
          have g1 : fb_sm (fun p => if zk_ld (fun q => an (16 * m + q)) (fun q => (zE x pl N P).testBit q) p = true then zMn S an N (zo_pt an N (zE x pl N P) m p) else 0) N ≤ fb_sm (fun p => (zn_pc P - 1) * (if zk_ld (fun q => an (16 * m + q)) (fun q => (zE x pl N P).testBit q) p = true then z_wt cc N (zo_pt an N (zE x pl N P) m p) else 0)) N := fb_sm_le (fun p hp => by
            by_cases hl : zk_ld (fun q => an (16 * m + q)) (fun q => (zE x pl N P).testBit q) p = true
            · rw [if_pos hl, if_pos hl]
              have hs := (zk_ld_iff.mp hl).1
              obtain ⟨P', a1, a2, a3, a4⟩ := hsub m p hm hs (hne p hp hs)
              rw [a3]
              exact Nat.le_trans a4.2.2.2.1 (Nat.mul_le_mul_right _ (by omega))
            · rw [if_neg hl, if_neg hl, Nat.mul_zero]; exact Nat.le_refl _)
          have g2 : ∀ (c : Nat) (f : Nat → Nat) n, fb_sm (fun p => c * f p) n = c * fb_sm f n := by
            intro c f n
            induction n with
            | zero => rfl
            | succ n ih => rw [fb_sm_succ, fb_sm_succ, ih, Nat.mul_add]
          rw [g2] at g1
          have g3 : fb_sm (fun p => if zk_ld (fun q => an (16 * m + q)) (fun q => (zE x pl N P).testBit q) p = true then z_wt cc N (zo_pt an N (zE x pl N P) m p) else 0) N = z_wt cc N (zE x pl N P) := by
            rw [fb_sm_cong (g := fun p => if zk_ld (fun q => an (16 * m + q)) (fun q => (zE x pl N P).testBit q) p then fb_sm (fun q => if (zE x pl N P).testBit q && decide (an (16 * m + q) = an (16 * m + p)) then cc q else 0) N else 0) (fun p _ => by rw [z_wt_pt])]
            exact zk_part (key := fun q => an (16 * m + q)) (T := fun q => (zE x pl N P).testBit q) (f := cc)
          rw [g3] at g1
          exact g1
        have c0 : za_A 0 (fun P => zW S an N (zE x pl N P)) ch np (zg_pl h np (zx_gl an N m)) P = za_af 0 (fun p => if zk_ld (fun q => an (16 * m + q)) (fun q => (zE x pl N P).testBit q) p = true then zW S an N (zo_pt an N (zE x pl N P) m p) else 0) N + 1 := by
          unfold za_A
          rw [hal]
          simp only [Bool.false_eq_true, if_false]
          rw [zE_max hN hF hm z1]
          rfl
        have c1 : za_A 1 (fun P => zMn S an N (zE x pl N P)) ch np (zg_pl h np (zx_gl an N m)) P = z_wt cc N (zE x pl N P) + za_af 1 (fun p => if zk_ld (fun q => an (16 * m + q)) (fun q => (zE x pl N P).testBit q) p = true then zMn S an N (zo_pt an N (zE x pl N P) m p) else 0) N := by
          unfold za_A
          rw [hal]
          simp only [Bool.false_eq_true, if_false]
          rw [zE_sum hN hF hm z2, z_wt_E hF, Nat.add_comm]
        have m1 : (zn_pc P - 1) * z_wt cc N (zE x pl N P) + z_wt cc N (zE x pl N P) = zn_pc P * z_wt cc N (zE x pl N P) := by
          have : zn_pc P = (zn_pc P - 1) + 1 := by omega
          rw [this, Nat.add_sub_cancel, Nat.add_mul, Nat.one_mul]
        have m2 : zn_pc P * z_wt cc N (zE x pl N P) ≤ 16 * 1600 := Nat.mul_le_mul h16 hwt
        refine ⟨Or.inr ⟨_, _, hin, c0, c1, by omega, by omega⟩, fun _ => ⟨by rw [c0]; omega, by rw [c1]; omega⟩⟩
      · obtain ⟨p0, g1, g2, g3⟩ := (zE_all hN hF hm hP h0).mp hal
        refine ⟨Or.inl ⟨?_, by simp only [za_A, hal, if_true], by simp only [za_A, hal, if_true]⟩, fun q => absurd g3 (q p0)⟩
        refine zo_in_all (fun p hp hs => ?_) N 0 0 _ (by omega) ⟨p0, by omega, g1, g2⟩
        have hs2 := hs
        rw [← g3] at hs2
        rw [zo_pt_key (zo_pt_bit.mp hs2).2.2]
        exact g3
    have hfin := zo_m_spec (fun m hm => (hat m hm).1) N 0 (1000000, 2147483647, -1) (by omega) (Or.inl ⟨rfl, rfl, rfl⟩)
    obtain ⟨mp, hmp, hpart⟩ := zE_parting hN hF hP h2
    obtain ⟨l0, l1⟩ := (hat mp hmp).2 hpart
    have l2 := za_mn_at (A := fun m => za_A 0 (fun P => zW S an N (zE x pl N P)) ch np (zg_pl h np (zx_gl an N m)) P) hmp
    have l3 := za_mn_at (A := fun m => za_A 1 (fun P => zMn S an N (zE x pl N P)) ch np (zg_pl h np (zx_gl an N m)) P) hmp
    have hW : zt_at (zo_FO S an N) (zE x pl N P) = zo_m an (fun i => (zt_at (zo_FO S an N) i).1) (fun i => (zt_at (zo_FO S an N) i).2.1) N (zE x pl N P) (nI (z_wt cc N (zE x pl N P))) N 0 (1000000, 2147483647, -1) := by
      have := zt_at_eq (S := S) (an := an) (N := N) (s := zE x pl N P)
      rw [this]
      unfold zo_FO
      rw [hnd, zo_wt_n hS]
      rfl
    rw [← hW] at hfin
    rcases hfin with ⟨b1, b2, b3⟩ | ⟨b1, b2, b3, b4, i, b5, b6, b7, b8⟩
    · omega
    · have w1 : zW S an N (zE x pl N P) = za_mn (fun m => za_A 0 (fun P => zW S an N (zE x pl N P)) ch np (zg_pl h np (zx_gl an N m)) P) N := by
        have := congrArg Int32.toNatClampNeg b3
        rw [nI_clamp (by omega)] at this
        exact this
      have w2 : zMn S an N (zE x pl N P) = za_mn (fun m => za_A 1 (fun P => zMn S an N (zE x pl N P)) ch np (zg_pl h np (zx_gl an N m)) P) N := by
        have := congrArg Int32.toNatClampNeg b4
        rw [nI_clamp (by omega)] at this
        exact this
      refine ⟨by rw [b3]; exact congrArg nI w1.symm, by rw [w1]; exact Nat.le_trans l2 l0, by rw [b4]; exact congrArg nI w2.symm, by rw [w2]; exact Nat.le_trans l3 l1, fun q => absurd q (by omega), fun _ => ⟨w1, w2, ?_⟩⟩
      rw [b6]
      have hz := zf_in_spec (f := fun m => decide (za_A 0 (fun P => zW S an N (zE x pl N P)) ch np (zg_pl h np (zx_gl an N m)) P = zW S an N (zE x pl N P))) N 0
      cases hq : zf_in (fun m => decide (za_A 0 (fun P => zW S an N (zE x pl N P)) ch np (zg_pl h np (zx_gl an N m)) P = zW S an N (zE x pl N P))) N 0 with
      | none =>
        rw [hq] at hz
        have := hz i (by omega) (by omega)
        exact absurd (b7.trans w1.symm) (of_decide_eq_false this)
      | some j =>
        rw [hq] at hz
        obtain ⟨g1, g2, g3, g4⟩ := hz
        have g3' := of_decide_eq_true g3
        have : j = i := by
          rcases Nat.lt_trichotomy j i with q | q | q
          · exact absurd (g3'.trans w1) (b8 j q)
          · exact q
          · exact absurd (b7.trans w1.symm) (of_decide_eq_false (g4 i (by omega) q))
        rw [this]; rfl
theorem zK_V {S an : Nat → Int32} {N x np : Nat} {h pl ch cc : Nat → Nat} (hN : N ≤ 16) (hnp : np ≤ 12) (hF : za_F an N x N np h pl ch cc) (hc : ∀ p, p < N → cc p ≤ 100) (hS : ∀ p, p < N → S (295 + p) = nI (cc p)) : za_V 0 (fun P => zW S an N (zE x pl N P)) ch np N (fun m => zg_pl h np (zx_gl an N m)) ∧ za_V 1 (fun P => zMn S an N (zE x pl N P)) ch np N (fun m => zg_pl h np (zx_gl an N m)) := by
  have hK := fun P hP => zK_all hN hnp hF hc hS 16 P hP (zn_pc_le P)
  have bW : ∀ P, P < 2 ^ np → zW S an N (zE x pl N P) ≤ 16 := fun P hP => Nat.le_trans (hK P hP).2.1 (zn_pc_le P)
  have bM : ∀ P, P < 2 ^ np → zMn S an N (zE x pl N P) ≤ 25600 := fun P hP => Nat.le_trans (hK P hP).2.2.2.1 (Nat.mul_le_mul (zn_pc_le P) (z_wt_le hN hc))
  have hlen : ∀ m, (zg_pl h np (zx_gl an N m)).length ≤ 16 := fun m => Nat.le_trans (zg_pl_len _) (zx_gl_len hN)
  refine ⟨⟨fun P hP h2 => ?_, fun P hP => ?_, fun P hP h2 => ((hK P hP).2.2.2.2.2 h2).1, fun m P hm hP => ?_⟩, ⟨fun P hP h2 => ?_, fun P hP => ?_, fun P hP h2 => ((hK P hP).2.2.2.2.2 h2).2.1, fun m P hm hP => ?_⟩⟩
  · dsimp only; unfold zW; rw [(hK P hP).2.2.2.2.1 h2]; rfl
  · have := bW P hP; dsimp only; omega
  · unfold za_A
    split
    · exact Nat.le_refl _
    · have g := (za_af_le (v := fun i => zW S an N (zE x pl N (P &&& (zg_pl h np (zx_gl an N m)).getD i 0))) (K := 16) (zg_pl h np (zx_gl an N m)).length).mpr (fun i _ => bW _ (Nat.lt_of_le_of_lt Nat.and_le_left hP))
      have u : za_u 0 ch np P = 1 := rfl
      dsimp only
      omega
  · dsimp only; unfold zMn; rw [(hK P hP).2.2.2.2.1 h2]; rfl
  · have := bM P hP; dsimp only; omega
  · unfold za_A
    split
    · exact Nat.le_refl _
    · rw [za_af_1, ← z_wt_E hF]
      have g := fb_sm_bound (f := fun i => zMn S an N (zE x pl N (P &&& (zg_pl h np (zx_gl an N m)).getD i 0))) (c := 25600) (n := (zg_pl h np (zx_gl an N m)).length) (fun i _ => bM _ (Nat.lt_of_le_of_lt Nat.and_le_left hP))
      have g2 : (zg_pl h np (zx_gl an N m)).length * 25600 ≤ 16 * 25600 := Nat.mul_le_mul_right _ (hlen m)
      have := z_wt_le (s := zE x pl N P) hN hc
      dsimp only
      omega

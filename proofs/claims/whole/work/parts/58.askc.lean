/-! worst, next, mean of the class are the reference's -/
theorem zn_pc_full {np : Nat} (hnp : np ≤ 16) : zn_pc (2 ^ np - 1) = np := by
  have := Nat.two_pow_pos np
  rw [zn_pc_ext hnp (by omega)]
  exact fb_ct_all.mpr (fun k hk => by rw [Nat.testBit_two_pow_sub_one]; simp [hk])
section CU
variable {X : az_X} {d : Nat} {mem : az_M} {Q : Option az_V → az_M → Prop} {N np : Nat} {sm : Int32} {V ch : Nat → Nat} {G : Nat → List Nat}
theorem s_X0_leastCost (hsm : sm = 0 ∨ sm = 1) (hV : za_V sm V ch np N G) (hN : N ≤ 16) (hE : za_E mem np N sm ch G) (hM : za_M mem V np) (hQ : ∀ m', (∀ k, k ≠ 383 → m' k = mem k) → Q (some (.inl (nI (V (2 ^ np - 1))))) m') : az_Sp X (d + 25) mX0_leastCost [.inr 382] mem Q := by
  have hnp := hE.2.1
  have hp0 := Nat.two_pow_pos np
  have e8 : 2 ^ np ≤ 2 ^ 12 := Nat.pow_le_pow_right (by decide) hnp
  have hb := hV.2.1 (2 ^ np - 1) (by omega)
  refine az_body (by decide +kernel) (Nat.le_of_ble_eq_true rfl) ?_
  show az_Ev X _ mX0_leastCost 0 [some (.inr 382), none] [] mem Q
  refine az_aloadn dX0_leastCost_0 rfl ?_
  refine az_iconst (v := 1) dX0_leastCost_1 (by decide) ?_
  refine az_aloadn dX0_leastCost_2 rfl ?_
  refine az_geti dX0_leastCost_3 flX0_21 sh_382 rfl ?_
  rw [hE.1]
  refine az_ishl dX0_leastCost_6 ?_
  rw [zi_shl np (by omega)]
  refine az_iconst (v := 1) dX0_leastCost_7 (by decide) ?_
  refine az_isub dX0_leastCost_8 ?_
  rw [show (1 : Int32) = nI 1 from rfl, nI_sub (by omega)]
  refine az_iconst (v := 0) dX0_leastCost_9 (by decide) ?_
  refine az_inv2 (N := mX0_costOf) dX0_leastCost_10 lkX0_64 okX0_costOf sh_382 rfl (Nat.le_of_ble_eq_true rfl) ?_
  refine s_X0_costOf (d := d) hsm hV hN 12 (dp := 0) hE hM (by omega) (by rw [zn_pc_full (by omega)]; exact hnp) (by rw [zn_pc_full (by omega)]; omega) (fun m1 k1 k2 => ?_)
  try dsimp only [az_ps]
  refine az_istoren dX0_leastCost_13 (by decide) ?_
  dsimp only [List.set]
  refine az_iloadn dX0_leastCost_14 rfl ?_
  refine az_ldc dX0_leastCost_15 kcX0_68 ?_
  refine az_icmpne (t := 25) dX0_leastCost_17 (by decide) (fun h17 => ?_) (fun h17 => ?_)
  rotate_left 1
  · exact absurd ((nI_eq (b := 1000000000) (by omega) (by decide)).mp h17) (by omega)
  refine az_pc 25 (by decide) ?_
  refine az_iloadn dX0_leastCost_25 rfl ?_
  refine az_iret dX0_leastCost_26 rfl ?_
  exact hQ m1 k1
theorem s_X0_firstMark (hsm : sm = 0 ∨ sm = 1) (hV : za_V sm V ch np N G) (hN : N ≤ 16) (hE : za_E mem np N sm ch G) (hM : za_M mem V np) (hQ : ∀ m', (∀ k, k ≠ 383 → m' k = mem k) → Q (some (.inl (if np < 2 then -1 else zr_in (zf_in (fun m => decide (za_A sm V ch np (G m) (2 ^ np - 1) = V (2 ^ np - 1))) N 0)))) m') : az_Sp X (d + 26) mX0_firstMark [.inr 382] mem Q := by
  have hnp := hE.2.1
  have hp0 := Nat.two_pow_pos np
  have e8 : 2 ^ np ≤ 2 ^ 12 := Nat.pow_le_pow_right (by decide) hnp
  have hb := hV.2.1 (2 ^ np - 1) (by omega)
  have hpf := zn_pc_full (np := np) (by omega)
  refine az_body (by decide +kernel) (Nat.le_of_ble_eq_true rfl) ?_
  show az_Ev X _ mX0_firstMark 0 [some (.inr 382), none, none, none] [] mem Q
  refine az_iconst (v := 1) dX0_firstMark_0 (by decide) ?_
  refine az_aloadn dX0_firstMark_1 rfl ?_
  refine az_geti dX0_firstMark_2 flX0_21 sh_382 rfl ?_
  rw [hE.1]
  refine az_ishl dX0_firstMark_5 ?_
  rw [zi_shl np (by omega)]
  refine az_iconst (v := 1) dX0_firstMark_6 (by decide) ?_
  refine az_isub dX0_firstMark_7 ?_
  rw [show (1 : Int32) = nI 1 from rfl, nI_sub (by omega)]
  refine az_istoren dX0_firstMark_8 (by decide) ?_
  dsimp only [List.set]
  refine az_aloadn dX0_firstMark_9 rfl ?_
  refine az_iloadn dX0_firstMark_10 rfl ?_
  refine az_iconst (v := 0) dX0_firstMark_11 (by decide) ?_
  refine az_inv2 (N := mX0_costOf) dX0_firstMark_12 lkX0_64 okX0_costOf sh_382 rfl (Nat.le_of_ble_eq_true rfl) ?_
  refine s_X0_costOf (d := d + 1) hsm hV hN 12 (dp := 0) hE hM (by omega) (by rw [hpf]; exact hnp) (by rw [hpf]; omega) (fun m1 k1 k2 => ?_)
  have hE1 := za_E_fr k1 hE
  try dsimp only [az_ps]
  refine az_istoren dX0_firstMark_15 (by decide) ?_
  dsimp only [List.set]
  refine az_aloadn dX0_firstMark_16 rfl ?_
  refine az_pc 17 (by decide) ?_
  refine az_geti dX0_firstMark_17 flX0_21 sh_382 rfl ?_
  refine az_iconst (v := 2) dX0_firstMark_20 (by decide) ?_
  rw [hE1.1]
  refine az_icmplt (t := 30) dX0_firstMark_21 (by decide) (fun h21 => ?_) (fun h21 => ?_)
  · refine az_iconst (v := -1) dX0_firstMark_30 (by decide) ?_
    refine az_iret dX0_firstMark_31 rfl ?_
    have := hQ m1 k1
    rw [if_pos ((nI_ltI (b := 2) (by omega) (by decide)).mp h21)] at this
    exact this
  have hn2 : ¬ np < 2 := fun q => h21 (nI_lt (b := 2) q (by decide))
  rw [if_neg hn2] at hQ
  refine az_iloadn dX0_firstMark_24 rfl ?_
  refine az_ldc dX0_firstMark_25 kcX0_68 ?_
  refine az_icmpne (t := 32) dX0_firstMark_27 (by decide) (fun h27 => ?_) (fun h27 => ?_)
  rotate_left 1
  · exact absurd ((nI_eq (b := 1000000000) (by omega) (by decide)).mp h27) (by omega)
  refine az_iconst (v := 0) dX0_firstMark_32 (by decide) ?_
  refine az_istoren dX0_firstMark_33 (by decide) ?_
  dsimp only [List.set]
  skip
  refine az_up (fun m => ∀ (m' : az_M), (∀ k, k ≠ 383 → m' k = mem k) → za_M m' V np → zf_in (fun m => decide (za_A sm V ch np (G m) (2 ^ np - 1) = V (2 ^ np - 1))) (N - m) m = zf_in (fun m => decide (za_A sm V ch np (G m) (2 ^ np - 1) = V (2 ^ np - 1))) N 0 → az_Ev X (d + 26) mX0_firstMark 34 [some (.inr 382), some (.inl (nI (2 ^ np - 1))), some (.inl (nI (V (2 ^ np - 1)))), some (.inl (nI m))] [] m' Q) N 0 (by omega) (fun m _ hm ih m' g1 g2 g3 => ?_) (fun m' g1 g2 g3 => ?_) m1 k1 k2 rfl
  · have hE2 := za_E_fr g1 hE
    have hAb := hV.2.2.2 m (2 ^ np - 1) hm (by omega)
    rw [zs_sub hm] at g3
    refine az_iloadn dX0_firstMark_34 rfl ?_
    refine az_aloadn dX0_firstMark_35 rfl ?_
    refine az_geti dX0_firstMark_36 flX0_25 sh_382 rfl ?_
    rw [hE2.2.2.1]
    refine az_icmpge (t := 61) dX0_firstMark_39 (by decide) (fun h39 => ?_) (fun h39 => ?_)
    · exact absurd h39 (nI_ge (by omega) (by omega))
    refine az_aloadn dX0_firstMark_42 rfl ?_
    refine az_iloadn dX0_firstMark_43 rfl ?_
    refine az_iloadn dX0_firstMark_44 rfl ?_
    refine az_iconst (v := 0) dX0_firstMark_45 (by decide) ?_
    refine az_inv3 (N := mX0_costOfAsking) dX0_firstMark_46 lkX0_69 okX0_costOfAsking sh_382 rfl (Nat.le_of_ble_eq_true rfl) ?_
    refine x_ask (d := d) (g := 12) (dp := 0) hsm hV hN (fun a b c e1 e2 e3 => s_X0_costOf hsm hV hN 12 a b c e1 e2 e3) hE2 g2 hm (by omega) (by rw [hpf]; omega) (by rw [hpf]; omega) (fun m2 j1 j2 => ?_)
    try dsimp only [az_ps]
    refine az_iloadn dX0_firstMark_49 rfl ?_
    refine az_icmpne (t := 55) dX0_firstMark_50 (by decide) (fun h50 => ?_) (fun h50 => ?_)
    · rw [zf_in_f (f := fun m => decide (za_A sm V ch np (G m) (2 ^ np - 1) = V (2 ^ np - 1))) (decide_eq_false (fun q => h50 (by rw [q])))] at g3
      refine az_iinc (w := 1) dX0_firstMark_55 rfl (by decide) (by decide) ?_
      dsimp only [List.set]
      refine az_goto (t := 34) dX0_firstMark_58 (by decide) ?_
      rw [nI_1]
      exact ih m2 (fun k hk => by rw [j1 k hk]; exact g1 k hk) j2 g3
    · rw [zf_in_t (f := fun m => decide (za_A sm V ch np (G m) (2 ^ np - 1) = V (2 ^ np - 1))) (decide_eq_true ((nI_eq (by omega) (by omega)).mp h50))] at g3
      refine az_iloadn dX0_firstMark_53 rfl ?_
      refine az_iret dX0_firstMark_54 rfl ?_
      have := hQ m2 (fun k hk => by rw [j1 k hk]; exact g1 k hk)
      rw [← g3] at this
      exact this
  · have hE2 := za_E_fr g1 hE
    rw [Nat.sub_self] at g3
    refine az_iloadn dX0_firstMark_34 rfl ?_
    refine az_aloadn dX0_firstMark_35 rfl ?_
    refine az_geti dX0_firstMark_36 flX0_25 sh_382 rfl ?_
    rw [hE2.2.2.1]
    refine az_icmpge (t := 61) dX0_firstMark_39 (by decide) (fun h39 => ?_) (fun h39 => ?_)
    rotate_left 1
    · exact absurd (Int32.le_refl _) h39
    refine az_iconst (v := -1) dX0_firstMark_61 (by decide) ?_
    refine az_iret dX0_firstMark_62 rfl ?_
    have := hQ m' g1
    rw [← g3] at this
    exact this
end CU
section CV
variable {X : az_X} {d : Nat} {mem : az_M} {Q : Option az_V → az_M → Prop} {N : Nat}
theorem t_X0_prepare {an : Nat → Int32} {x : Nat} {cc : Nat → Nat} {sm : Int32} (hsm : sm = 0 ∨ sm = 1) (hn : mem 1 0 = nI N) (hN : N ≤ 16) (hC : zC mem N) (han : ∀ m p, m < N → p < N → mem 374 (16 * m + p) = an (16 * m + p)) (hx : x < 2 ^ N) (hx12 : zn_pc x ≤ 12) (hcc : ∀ p, p < N → mem 5 p = nI (cc p)) (hQ : ∀ m' np h pl ch, (∀ k, (k < 382 ∨ 387 < k) → m' k = mem k) → za_E m' np N sm ch (fun m => zg_pl h np (zx_gl an N m)) → (∀ s, s < 2 ^ np → m' 383 s = -1) → za_F an N x N np h pl ch cc → Q none m') : az_Sp X (d + 4) mX0_prepare [.inr 382, .inl (nI x), .inr 1, .inr 371, .inl sm] mem Q := by
  have hgl : ∀ m, m < N → zx_gl (mem 374) N m = zx_gl an N m := fun m hm => zx_gl_congr (fun q hq => han m q hm hq)
  refine s_X0_prepare hsm hn hN hx hx12 hcc (fun a b h1 h2 => ?_) (fun m hm => ?_) hQ
  · rw [hC.2.2.2.2.1 a b h1 h2]; exact zm_congr N (zm_pf_congr han (by omega) h2)
  · have := hC.2.2.2.2.2.2 m hm
    rw [hgl m hm] at this; exact this
theorem s_X7_worst {x : Int32} {S an : Nat → Int32} {cc : Nat → Nat} (hS : zS mem N) (hcc : ∀ p, p < N → mem 5 p = nI (cc p) ∧ cc p ≤ 100) (hS5 : ∀ p, p < N → S (295 + p) = nI (cc p)) (han : ∀ m1, zSf mem m1 N → ∀ m p, m < N → p < N → m1 374 (16 * m + p) = an (16 * m + p)) (hQ0 : ¬ ((0 ≤ x ∧ x < nI (2 ^ N)) ∧ zm_many x ≤ 12) → Q (some (.inl (-1))) mem) (hQ1 : ((0 ≤ x ∧ x < nI (2 ^ N)) ∧ zm_many x ≤ 12) → ∀ m1 m2, zSf mem m1 N → (∀ k, (k < 382 ∨ 387 < k) → m2 k = m1 k) → (zt_at (zo_FO S an N) x.toNatClampNeg).1 ≠ 1000000 → Q (some (.inl (zt_at (zo_FO S an N) x.toNatClampNeg).1)) m2) : az_Sp X (d + 26) mX7_worst [.inr 0, .inl x] mem Q := by
  have hN := hS.2.1
  refine az_body (by decide +kernel) (Nat.le_of_ble_eq_true rfl) ?_
  show az_Ev X _ mX7_worst 0 [some (.inr 0), some (.inl x)] [] mem Q
  refine az_aloadn dX7_worst_0 rfl ?_
  refine az_iloadn dX7_worst_1 rfl ?_
  refine az_inv1 (N := mX7_canBeAsked) dX7_worst_2 lkX7_213 okX7_canBeAsked sh_0 rfl (Nat.le_of_ble_eq_true rfl) ?_
  refine s_X7_canBeAsked (d := d + 24) hS.1 hN ?_
  try dsimp only [az_ps]
  refine az_ifne (t := 10) dX7_worst_5 (by decide) (fun h5 => ?_) (fun h5 => ?_)
  rotate_left 1
  · replace h5 := zb_z h5
    refine az_iconst (v := -1) dX7_worst_8 (by decide) ?_
    refine az_iret dX7_worst_9 rfl ?_
    exact hQ0 h5
  replace h5 := zb_n h5
  obtain ⟨xn, xe⟩ := zi_of (N := 2 ^ N) (Nat.lt_of_le_of_lt (zi_pow hN) (by decide)) h5.1
  have hx12 : zn_pc x.toNatClampNeg ≤ 12 := by
    have := h5.2
    rw [xe, zm_many_n (by have := zi_pow hN; omega)] at this
    exact (nI_leI (b := 12) (by have := zn_pc_le x.toNatClampNeg; omega) (by decide)).mp this
  refine az_aloadn dX7_worst_10 rfl ?_
  refine az_getr dX7_worst_11 flX7_47 sh_0 rfl ?_
  refine az_iloadn dX7_worst_14 rfl ?_
  refine az_aloadn dX7_worst_15 rfl ?_
  refine az_getr dX7_worst_16 flX7_12 sh_0 rfl ?_
  refine az_aloadn dX7_worst_19 rfl ?_
  refine az_inv0 (N := mX7_freshSight) dX7_worst_20 lkX7_131 okX7_freshSight sh_0 rfl (Nat.le_of_ble_eq_true rfl) ?_
  refine t_X7_fresh (d := d + 22) hS (fun m1 hf => ?_)
  have f1 : m1 1 0 = nI N := by rw [hf.1 1 (by decide) (by omega)]; exact hS.1
  have hx2 := hQ1 h5
  generalize x.toNatClampNeg = xx at xn xe hx12 hx2
  subst xe
  try dsimp only [az_ps]
  refine az_iconst (v := 0) dX7_worst_23 (by decide) ?_
  refine az_inv4 (N := mX0_prepare) dX7_worst_24 lkX7_216 okX0_prepare sh_382 rfl (Nat.le_of_ble_eq_true rfl) ?_
  refine t_X0_prepare (d := d + 21) (an := an) (cc := cc) (Or.inl rfl) f1 hN hf.2.2.1 (han m1 hf) xn hx12 (fun p hp => by rw [hf.1 5 (by decide) (by omega)]; exact (hcc p hp).1) (fun m2 np h pl ch k1 kE k3 kF => ?_)
  have hV := (zK_V (S := S) hN kE.2.1 kF (fun p hp => (hcc p hp).2) hS5).1
  try dsimp only [az_ps]
  refine az_pc 27 (by decide) ?_
  refine az_aloadn dX7_worst_27 rfl ?_
  refine az_getr dX7_worst_28 flX7_47 sh_0 rfl ?_
  refine az_inv0 (N := mX0_leastCost) dX7_worst_31 lkX7_220 okX0_leastCost sh_382 rfl (Nat.le_of_ble_eq_true rfl) ?_
  refine s_X0_leastCost (Or.inl rfl) hV hN kE (fun P hP _ => Or.inl (k3 P hP)) (fun m3 j1 => ?_)
  have hK := zK_all (S := S) hN kE.2.1 kF (fun p hp => (hcc p hp).2) hS5 16 (2 ^ np - 1) (by have := Nat.two_pow_pos np; omega) (zn_pc_le _)
  have hw := Nat.le_trans hK.2.1 (zn_pc_le _)
  have hk1 := hK.1
  try dsimp only
  rw [zE_full xn kF] at hw hk1 ⊢
  rw [← hk1]
  try dsimp only [az_ps]
  refine az_iret dX7_worst_34 rfl ?_
  exact hx2 m1 m3 hf (fun k hk => by rw [j1 k (by omega)]; exact k1 k hk) (fun q => by rw [hk1] at q; exact absurd ((nI_eq (b := 1000000) (by omega) (by decide)).mp q) (by omega))
theorem s_X7_mean {x : Int32} {S an : Nat → Int32} {cc : Nat → Nat} (hS : zS mem N) (hcc : ∀ p, p < N → mem 5 p = nI (cc p) ∧ cc p ≤ 100) (hS5 : ∀ p, p < N → S (295 + p) = nI (cc p)) (han : ∀ m1, zSf mem m1 N → ∀ m p, m < N → p < N → m1 374 (16 * m + p) = an (16 * m + p)) (hQ0 : ¬ ((0 ≤ x ∧ x < nI (2 ^ N)) ∧ zm_many x ≤ 12) → Q (some (.inl (-1))) mem) (hQ1 : ((0 ≤ x ∧ x < nI (2 ^ N)) ∧ zm_many x ≤ 12) → ∀ m1 m2, zSf mem m1 N → (∀ k, (k < 382 ∨ 387 < k) → m2 k = m1 k) → Q (some (.inl (zt_at (zo_FO S an N) x.toNatClampNeg).2.1)) m2) : az_Sp X (d + 26) mX7_mean [.inr 0, .inl x] mem Q := by
  have hN := hS.2.1
  refine az_body (by decide +kernel) (Nat.le_of_ble_eq_true rfl) ?_
  show az_Ev X _ mX7_mean 0 [some (.inr 0), some (.inl x)] [] mem Q
  refine az_aloadn dX7_mean_0 rfl ?_
  refine az_iloadn dX7_mean_1 rfl ?_
  refine az_inv1 (N := mX7_canBeAsked) dX7_mean_2 lkX7_213 okX7_canBeAsked sh_0 rfl (Nat.le_of_ble_eq_true rfl) ?_
  refine s_X7_canBeAsked (d := d + 24) hS.1 hN ?_
  try dsimp only [az_ps]
  refine az_ifne (t := 10) dX7_mean_5 (by decide) (fun h5 => ?_) (fun h5 => ?_)
  rotate_left 1
  · replace h5 := zb_z h5
    refine az_iconst (v := -1) dX7_mean_8 (by decide) ?_
    refine az_iret dX7_mean_9 rfl ?_
    exact hQ0 h5
  replace h5 := zb_n h5
  obtain ⟨xn, xe⟩ := zi_of (N := 2 ^ N) (Nat.lt_of_le_of_lt (zi_pow hN) (by decide)) h5.1
  have hx12 : zn_pc x.toNatClampNeg ≤ 12 := by
    have := h5.2
    rw [xe, zm_many_n (by have := zi_pow hN; omega)] at this
    exact (nI_leI (b := 12) (by have := zn_pc_le x.toNatClampNeg; omega) (by decide)).mp this
  refine az_aloadn dX7_mean_10 rfl ?_
  refine az_getr dX7_mean_11 flX7_47 sh_0 rfl ?_
  refine az_iloadn dX7_mean_14 rfl ?_
  refine az_aloadn dX7_mean_15 rfl ?_
  refine az_getr dX7_mean_16 flX7_12 sh_0 rfl ?_
  refine az_aloadn dX7_mean_19 rfl ?_
  refine az_inv0 (N := mX7_freshSight) dX7_mean_20 lkX7_131 okX7_freshSight sh_0 rfl (Nat.le_of_ble_eq_true rfl) ?_
  refine t_X7_fresh (d := d + 22) hS (fun m1 hf => ?_)
  have f1 : m1 1 0 = nI N := by rw [hf.1 1 (by decide) (by omega)]; exact hS.1
  have hx2 := hQ1 h5
  generalize x.toNatClampNeg = xx at xn xe hx12 hx2
  subst xe
  try dsimp only [az_ps]
  refine az_iconst (v := 1) dX7_mean_23 (by decide) ?_
  refine az_inv4 (N := mX0_prepare) dX7_mean_24 lkX7_216 okX0_prepare sh_382 rfl (Nat.le_of_ble_eq_true rfl) ?_
  refine t_X0_prepare (d := d + 21) (an := an) (cc := cc) (Or.inr rfl) f1 hN hf.2.2.1 (han m1 hf) xn hx12 (fun p hp => by rw [hf.1 5 (by decide) (by omega)]; exact (hcc p hp).1) (fun m2 np h pl ch k1 kE k3 kF => ?_)
  have hV := (zK_V (S := S) hN kE.2.1 kF (fun p hp => (hcc p hp).2) hS5).2
  try dsimp only [az_ps]
  refine az_pc 27 (by decide) ?_
  refine az_aloadn dX7_mean_27 rfl ?_
  refine az_getr dX7_mean_28 flX7_47 sh_0 rfl ?_
  refine az_inv0 (N := mX0_leastCost) dX7_mean_31 lkX7_220 okX0_leastCost sh_382 rfl (Nat.le_of_ble_eq_true rfl) ?_
  refine s_X0_leastCost (Or.inr rfl) hV hN kE (fun P hP _ => Or.inl (k3 P hP)) (fun m3 j1 => ?_)
  have hK := zK_all (S := S) hN kE.2.1 kF (fun p hp => (hcc p hp).2) hS5 16 (2 ^ np - 1) (by have := Nat.two_pow_pos np; omega) (zn_pc_le _)
  have hk1 := hK.2.2.1
  try dsimp only
  rw [zE_full xn kF] at hk1 ⊢
  rw [← hk1]
  try dsimp only [az_ps]
  refine az_iret dX7_mean_34 rfl ?_
  exact hx2 m1 m3 hf (fun k hk => by rw [j1 k (by omega)]; exact k1 k hk)
theorem s_X7_next {x : Int32} {S an : Nat → Int32} {cc : Nat → Nat} (hS : zS mem N) (hcc : ∀ p, p < N → mem 5 p = nI (cc p) ∧ cc p ≤ 100) (hS5 : ∀ p, p < N → S (295 + p) = nI (cc p)) (han : ∀ m1, zSf mem m1 N → ∀ m p, m < N → p < N → m1 374 (16 * m + p) = an (16 * m + p)) (hQ0 : ¬ ((0 ≤ x ∧ x < nI (2 ^ N)) ∧ zm_many x ≤ 12) → Q (some (.inl (-1))) mem) (hQ1 : ((0 ≤ x ∧ x < nI (2 ^ N)) ∧ zm_many x ≤ 12) → ∀ m1 m2, zSf mem m1 N → (∀ k, (k < 382 ∨ 387 < k) → m2 k = m1 k) → Q (some (.inl (zt_at (zo_FO S an N) x.toNatClampNeg).2.2)) m2) : az_Sp X (d + 27) mX7_next [.inr 0, .inl x] mem Q := by
  have hN := hS.2.1
  refine az_body (by decide +kernel) (Nat.le_of_ble_eq_true rfl) ?_
  show az_Ev X _ mX7_next 0 [some (.inr 0), some (.inl x)] [] mem Q
  refine az_aloadn dX7_next_0 rfl ?_
  refine az_iloadn dX7_next_1 rfl ?_
  refine az_inv1 (N := mX7_canBeAsked) dX7_next_2 lkX7_213 okX7_canBeAsked sh_0 rfl (Nat.le_of_ble_eq_true rfl) ?_
  refine s_X7_canBeAsked (d := d + 25) hS.1 hN ?_
  try dsimp only [az_ps]
  refine az_ifne (t := 10) dX7_next_5 (by decide) (fun h5 => ?_) (fun h5 => ?_)
  rotate_left 1
  · replace h5 := zb_z h5
    refine az_iconst (v := -1) dX7_next_8 (by decide) ?_
    refine az_iret dX7_next_9 rfl ?_
    exact hQ0 h5
  replace h5 := zb_n h5
  obtain ⟨xn, xe⟩ := zi_of (N := 2 ^ N) (Nat.lt_of_le_of_lt (zi_pow hN) (by decide)) h5.1
  have hx12 : zn_pc x.toNatClampNeg ≤ 12 := by
    have := h5.2
    rw [xe, zm_many_n (by have := zi_pow hN; omega)] at this
    exact (nI_leI (b := 12) (by have := zn_pc_le x.toNatClampNeg; omega) (by decide)).mp this
  refine az_aloadn dX7_next_10 rfl ?_
  refine az_getr dX7_next_11 flX7_47 sh_0 rfl ?_
  refine az_iloadn dX7_next_14 rfl ?_
  refine az_aloadn dX7_next_15 rfl ?_
  refine az_getr dX7_next_16 flX7_12 sh_0 rfl ?_
  refine az_aloadn dX7_next_19 rfl ?_
  refine az_inv0 (N := mX7_freshSight) dX7_next_20 lkX7_131 okX7_freshSight sh_0 rfl (Nat.le_of_ble_eq_true rfl) ?_
  refine t_X7_fresh (d := d + 23) hS (fun m1 hf => ?_)
  have f1 : m1 1 0 = nI N := by rw [hf.1 1 (by decide) (by omega)]; exact hS.1
  have hx2 := hQ1 h5
  generalize x.toNatClampNeg = xx at xn xe hx12 hx2
  subst xe
  try dsimp only [az_ps]
  refine az_iconst (v := 0) dX7_next_23 (by decide) ?_
  refine az_inv4 (N := mX0_prepare) dX7_next_24 lkX7_216 okX0_prepare sh_382 rfl (Nat.le_of_ble_eq_true rfl) ?_
  refine t_X0_prepare (d := d + 22) (an := an) (cc := cc) (Or.inl rfl) f1 hN hf.2.2.1 (han m1 hf) xn hx12 (fun p hp => by rw [hf.1 5 (by decide) (by omega)]; exact (hcc p hp).1) (fun m2 np h pl ch k1 kE k3 kF => ?_)
  have hV := (zK_V (S := S) hN kE.2.1 kF (fun p hp => (hcc p hp).2) hS5).1
  try dsimp only [az_ps]
  refine az_pc 27 (by decide) ?_
  refine az_aloadn dX7_next_27 rfl ?_
  refine az_getr dX7_next_28 flX7_47 sh_0 rfl ?_
  refine az_inv0 (N := mX0_firstMark) dX7_next_31 lkX7_223 okX0_firstMark sh_382 rfl (Nat.le_of_ble_eq_true rfl) ?_
  refine s_X0_firstMark (Or.inl rfl) hV hN kE (fun P hP _ => Or.inl (k3 P hP)) (fun m3 j1 => ?_)
  have hK := zK_all (S := S) hN kE.2.1 kF (fun p hp => (hcc p hp).2) hS5 16 (2 ^ np - 1) (by have := Nat.two_pow_pos np; omega) (zn_pc_le _)
  have hval : (if np < 2 then (-1 : Int32) else zr_in (zf_in (fun m => decide (za_A 0 (fun P => zW S an N (zE xx pl N P)) ch np (zg_pl h np (zx_gl an N m)) (2 ^ np - 1) = zW S an N (zE xx pl N (2 ^ np - 1)))) N 0)) = (zt_at (zo_FO S an N) xx).2.2 := by
    have hpf := zn_pc_full (np := np) (by have := kE.2.1; omega)
    by_cases c : np < 2
    · rw [if_pos c]
      have := hK.2.2.2.2.1 (by rw [hpf]; exact c)
      rw [zE_full xn kF] at this
      rw [this]
    · rw [if_neg c]
      have := (hK.2.2.2.2.2 (by rw [hpf]; omega)).2.2
      rw [← this, zE_full xn kF]
  try dsimp only
  rw [hval]
  try dsimp only [az_ps]
  refine az_iret dX7_next_34 rfl ?_
  exact hx2 m1 m3 hf (fun k hk => by rw [j1 k (by omega)]; exact k1 k hk)
end CV

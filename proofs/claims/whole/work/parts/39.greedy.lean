/-! the class's greedy set, pairs apart -/
def zy_w (P : Nat → Int32) (nd : Int32) (N : Nat) : Nat → Int32 → Int32
  | 0, x => x
  | f + 1, x => if zg_best P x nd N = -1 then x else zy_w P nd N f (x ||| 1 <<< (zg_best P x nd N &&& 31))
section CG
variable {X : az_X} {d : Nat} {mem : az_M} {Q : Option az_V → az_M → Prop} {N : Nat}
theorem s_X5_markPartingMost {s : Nat} {x nd : Int32} (hn : mem 371 0 = nI N) (hN : N ≤ 16) (hP : zP mem N) (hx : x = nI s) (hs : s < 65536) (hQ : Q (some (.inl (zg_best (mem 375) x nd N))) mem) : az_Sp X (d + 3) mX5_markPartingMost [.inr 371, .inl x, .inl nd] mem Q := by
  unfold zg_best at hQ
  subst hx
  refine az_body (by decide +kernel) (Nat.le_of_ble_eq_true rfl) ?_
  show az_Ev X _ mX5_markPartingMost 0 [some (.inr 371), some (.inl (nI s)), some (.inl nd), none, none, none, none] [] mem Q
  refine az_iconst (v := -1) dX5_markPartingMost_0 (by decide) ?_
  refine az_istoren dX5_markPartingMost_1 (by decide) ?_
  dsimp only [List.set]
  refine az_iconst (v := 0) dX5_markPartingMost_2 (by decide) ?_
  refine az_istore dX5_markPartingMost_3 (by decide) ?_
  dsimp only [List.set]
  refine az_iconst (v := 0) dX5_markPartingMost_5 (by decide) ?_
  refine az_istore dX5_markPartingMost_6 (by decide) ?_
  dsimp only [List.set]
  skip
  generalize hR : zg_m (zg_c (mem 375) (nI s) nd N) (nI s) N 0 (-1) 0 = R at hQ
  refine az_up (fun m => ∀ b mo L6, zg_m (zg_c (mem 375) (nI s) nd N) (nI s) (N - m) m b mo = R → az_Ev X (d + 3) mX5_markPartingMost 8 [some (.inr 371), some (.inl (nI s)), some (.inl nd), some (.inl b), some (.inl mo), some (.inl (nI m)), L6] [] mem Q) N 0 (by omega) (fun m _ hm ih b mo L6 h => ?_) (fun b mo L6 h => ?_) (-1) 0 none hR
  · rw [zs_sub hm, zg_m] at h
    have hb := zb_bit (k := s) (i := m) (by omega) (by omega)
    refine az_iload dX5_markPartingMost_8 rfl ?_
    refine az_aloadn dX5_markPartingMost_10 rfl ?_
    refine az_geti dX5_markPartingMost_11 flX5_9 sh_371 rfl ?_
    rw [hn]
    refine az_icmpge (t := 56) dX5_markPartingMost_14 (by decide) (fun h14 => ?_) (fun h14 => ?_)
    · exact absurd h14 (nI_ge (by omega) (by omega))
    refine az_iloadn dX5_markPartingMost_17 rfl ?_
    refine az_iload dX5_markPartingMost_18 rfl ?_
    refine az_ishr dX5_markPartingMost_20 ?_
    refine az_iconst (v := 1) dX5_markPartingMost_21 (by decide) ?_
    refine az_iand dX5_markPartingMost_22 ?_
    refine az_ifne (t := 50) dX5_markPartingMost_23 (by decide) (fun h23 => ?_) (fun h23 => ?_)
    · have hb1 : (nI s >>> (nI m &&& 31)) &&& 1 = 1 := by
        rw [hb] at h23 ⊢
        by_cases hz : s.testBit m = true
        · rw [if_pos hz]
        · rw [if_neg hz] at h23; exact absurd rfl h23
      rw [if_pos (Or.inl hb1)] at h
      refine az_iinc (w := 1) dX5_markPartingMost_50 rfl (by decide) (by decide) ?_
      dsimp only [List.set]
      refine az_goto (t := 8) dX5_markPartingMost_53 (by decide) ?_
      rw [nI_1]; exact ih _ _ _ h
    · have hb0 : ¬ (nI s >>> (nI m &&& 31)) &&& 1 = 1 := by rw [h23]; decide
      refine az_aloadn dX5_markPartingMost_26 rfl ?_
      refine az_iload dX5_markPartingMost_27 rfl ?_
      refine az_iloadn dX5_markPartingMost_29 rfl ?_
      refine az_iloadn dX5_markPartingMost_30 rfl ?_
      refine az_inv3 (N := mX5_countLackingPartedBy) dX5_markPartingMost_31 lkX5_123 okX5_countLackingPartedBy sh_371 rfl (Nat.le_of_ble_eq_true rfl) ?_
      refine s_X5_countLackingPartedBy hn hN hP rfl hs (by omega) ?_
      try dsimp only [az_ps]
      refine az_istore dX5_markPartingMost_34 (by decide) ?_
      dsimp only [List.set]
      refine az_iload dX5_markPartingMost_36 rfl ?_
      refine az_iload dX5_markPartingMost_38 rfl ?_
      refine az_icmple (t := 50) dX5_markPartingMost_40 (by decide) (fun h40 => ?_) (fun h40 => ?_)
      · rw [if_pos (Or.inr h40)] at h
        refine az_iinc (w := 1) dX5_markPartingMost_50 rfl (by decide) (by decide) ?_
        dsimp only [List.set]
        refine az_goto (t := 8) dX5_markPartingMost_53 (by decide) ?_
        rw [nI_1]; exact ih _ _ _ h
      · rw [if_neg (fun q => q.elim hb0 h40)] at h
        refine az_iload dX5_markPartingMost_43 rfl ?_
        refine az_istore dX5_markPartingMost_45 (by decide) ?_
        dsimp only [List.set]
        refine az_iload dX5_markPartingMost_47 rfl ?_
        refine az_istoren dX5_markPartingMost_49 (by decide) ?_
        dsimp only [List.set]
        refine az_iinc (w := 1) dX5_markPartingMost_50 rfl (by decide) (by decide) ?_
        dsimp only [List.set]
        refine az_goto (t := 8) dX5_markPartingMost_53 (by decide) ?_
        rw [nI_1]; exact ih _ _ _ h
  · rw [Nat.sub_self, zg_m] at h
    subst h
    refine az_iload dX5_markPartingMost_8 rfl ?_
    refine az_aloadn dX5_markPartingMost_10 rfl ?_
    refine az_geti dX5_markPartingMost_11 flX5_9 sh_371 rfl ?_
    rw [hn]
    refine az_icmpge (t := 56) dX5_markPartingMost_14 (by decide) (fun h14 => ?_) (fun h14 => ?_)
    rotate_left 1
    · exact absurd (Int32.le_refl _) h14
    refine az_iloadn dX5_markPartingMost_56 rfl ?_
    refine az_iret dX5_markPartingMost_57 rfl ?_
    exact hQ
theorem zg_best_or {P : Nat → Int32} {nd : Int32} {s : Nat} (hN : N ≤ 16) (hs : s < 2 ^ N) : zg_best P (nI s) nd N = -1 ∨ ∃ i, i < N ∧ zg_best P (nI s) nd N = nI i ∧ (nI s ||| 1 <<< (zg_best P (nI s) nd N &&& 31)) = nI (s ||| 2 ^ i) ∧ (s ||| 2 ^ i) < 2 ^ N ∧ zg_v N (s ||| 2 ^ i) + 1 = zg_v N s := by
  rcases zg_m_spec (c := zg_c P (nI s) nd N) (x := nI s) N 0 (-1) 0 with hb | ⟨i, -, h2, h3, h4⟩
  · exact Or.inl hb
  · exact Or.inr (zg_step hN hs (by show 0 ≤ zg_m _ _ _ _ _ _; rw [h3]; exact nI_pos' (by omega)))
theorem s_X5_greedySet {nd : Int32} (hn : mem 371 0 = nI N) (hN : N ≤ 16) (hP : zP mem N) (hQ : Q (some (.inl (zy_w (mem 375) nd N N 0))) mem) : az_Sp X (d + 4) mX5_greedySet [.inr 371, .inl nd] mem Q := by
  have hp := zi_pow hN
  refine az_body (by decide +kernel) (Nat.le_of_ble_eq_true rfl) ?_
  show az_Ev X _ mX5_greedySet 0 [some (.inr 371), some (.inl nd), none, none, none] [] mem Q
  refine az_iconst (v := 0) dX5_greedySet_0 (by decide) ?_
  refine az_istoren dX5_greedySet_1 (by decide) ?_
  dsimp only [List.set]
  refine az_iconst (v := 0) dX5_greedySet_2 (by decide) ?_
  refine az_istoren dX5_greedySet_3 (by decide) ?_
  dsimp only [List.set]
  skip
  generalize hR : zy_w (mem 375) nd N N 0 = R at hQ
  refine az_up (fun t => ∀ (s : Nat) L4, s < 2 ^ N → zy_w (mem 375) nd N (N - t) (nI s) = R → az_Ev X (d + 4) mX5_greedySet 4 [some (.inr 371), some (.inl nd), some (.inl (nI s)), some (.inl (nI t)), L4] [] mem Q) N 0 (by omega) (fun t _ ht ih s L4 hs h => ?_) (fun s L4 hs h => ?_) 0 none (Nat.two_pow_pos N) hR
  · rw [zs_sub ht, zy_w] at h
    refine az_iloadn dX5_greedySet_4 rfl ?_
    refine az_aloadn dX5_greedySet_5 rfl ?_
    refine az_geti dX5_greedySet_6 flX5_9 sh_371 rfl ?_
    rw [hn]
    refine az_icmpge (t := 41) dX5_greedySet_9 (by decide) (fun h9 => ?_) (fun h9 => ?_)
    · exact absurd h9 (nI_ge (by omega) (by omega))
    refine az_aloadn dX5_greedySet_12 rfl ?_
    refine az_iloadn dX5_greedySet_13 rfl ?_
    refine az_iloadn dX5_greedySet_14 rfl ?_
    refine az_inv2 (N := mX5_markPartingMost) dX5_greedySet_15 lkX5_120 okX5_markPartingMost sh_371 rfl (Nat.le_of_ble_eq_true rfl) ?_
    refine s_X5_markPartingMost hn hN hP rfl (by omega) ?_
    try dsimp only [az_ps]
    refine az_istore dX5_greedySet_18 (by decide) ?_
    dsimp only [List.set]
    refine az_iload dX5_greedySet_20 rfl ?_
    refine az_iconst (v := -1) dX5_greedySet_22 (by decide) ?_
    refine az_icmpne (t := 28) dX5_greedySet_23 (by decide) (fun h23 => ?_) (fun h23 => ?_)
    · rw [if_neg h23] at h
      obtain ⟨i, hi, e1, e2, e3, -⟩ := (zg_best_or (P := mem 375) (nd := nd) hN hs).resolve_left h23
      rw [e2] at h
      refine az_iloadn dX5_greedySet_28 rfl ?_
      refine az_iconst (v := 1) dX5_greedySet_29 (by decide) ?_
      refine az_iload dX5_greedySet_30 rfl ?_
      refine az_ishl dX5_greedySet_32 ?_
      refine az_ior dX5_greedySet_33 ?_
      refine az_istoren dX5_greedySet_34 (by decide) ?_
      dsimp only [List.set]
      refine az_iinc (w := 1) dX5_greedySet_35 rfl (by decide) (by decide) ?_
      dsimp only [List.set]
      refine az_goto (t := 4) dX5_greedySet_38 (by decide) ?_
      rw [nI_1, e2]; exact ih _ _ e3 h
    · rw [if_pos h23] at h
      subst h
      refine az_iloadn dX5_greedySet_26 rfl ?_
      refine az_iret dX5_greedySet_27 rfl ?_
      exact hQ
  · rw [Nat.sub_self, zy_w] at h
    subst h
    refine az_iloadn dX5_greedySet_4 rfl ?_
    refine az_aloadn dX5_greedySet_5 rfl ?_
    refine az_geti dX5_greedySet_6 flX5_9 sh_371 rfl ?_
    rw [hn]
    refine az_icmpge (t := 41) dX5_greedySet_9 (by decide) (fun h9 => ?_) (fun h9 => ?_)
    rotate_left 1
    · exact absurd (Int32.le_refl _) h9
    refine az_iloadn dX5_greedySet_41 rfl ?_
    refine az_iret dX5_greedySet_42 rfl ?_
    exact hQ
/-- the k-th of the list, or how many there are, or none -/
def zq_ap (l : List Nat) (k : Int32) (cnt : Int32) : Int32 := if 0 ≤ k ∧ k < nI l.length then nI (l.getD k.toNatClampNeg 0) else if cnt = 0 then -1 else nI l.length
theorem zp_in_pre {P : Nat → Int32} {a : Nat} : ∀ (n b : Nat) (s : Int32 × List Nat), ∃ t, (zp_in P a n b s).2 = s.2 ++ t
  | 0, _, s => ⟨[], by rw [zp_in, List.append_nil]⟩
  | n + 1, b, s => by
    rw [zp_in]
    split
    · exact zp_in_pre n (b + 1) s
    · obtain ⟨t, ht⟩ := zp_in_pre (P := P) (a := a) n (b + 1) (s.1 ||| P (16 * a + b), s.2 ++ [16 * a + b])
      exact ⟨[16 * a + b] ++ t, by rw [ht, List.append_assoc]⟩
theorem zp_pr_pre {P : Nat → Int32} {N : Nat} : ∀ (n a : Nat) (s : Int32 × List Nat), ∃ t, (zp_pr P N n a s).2 = s.2 ++ t
  | 0, _, s => ⟨[], by rw [zp_pr, List.append_nil]⟩
  | n + 1, a, s => by
    rw [zp_pr]
    obtain ⟨t1, h1⟩ := zp_in_pre (P := P) (a := a) (N - (a + 1)) (a + 1) s
    obtain ⟨t2, h2⟩ := zp_pr_pre (P := P) (N := N) n (a + 1) (zp_in P a (N - (a + 1)) (a + 1) s)
    exact ⟨t1 ++ t2, by rw [h2, h1, List.append_assoc]⟩
theorem s_X5_goThrough {k cnt : Int32} (hn : mem 371 0 = nI N) (hN : N ≤ 16) (hcz : cnt = 0 ∨ cnt = 1) (hQ : Q (some (.inl (zq_ap (zp_pr (mem 375) N N 0 (0, [])).2 k cnt))) mem) : az_Sp X d mX5_goThroughApartPairs [.inr 371, .inl k, .inl cnt] mem Q := by
  have htri : zp_tri N ≤ 120 := zp_tri_le N (by omega)
  have hlen := zp_pr_len (mem 375) N N 0 (0, []) (by omega)
  simp only [List.length_nil] at hlen
  refine az_body (by decide +kernel) (Nat.le_of_ble_eq_true rfl) ?_
  show az_Ev X _ mX5_goThroughApartPairs 0 [some (.inr 371), some (.inl k), some (.inl cnt), none, none, none, none, none] [] mem Q
  refine az_iconst (v := 0) dX5_goThroughApartPairs_0 (by decide) ?_
  refine az_istoren dX5_goThroughApartPairs_1 (by decide) ?_
  dsimp only [List.set]
  refine az_iconst (v := 0) dX5_goThroughApartPairs_2 (by decide) ?_
  refine az_istore dX5_goThroughApartPairs_3 (by decide) ?_
  dsimp only [List.set]
  refine az_iconst (v := 0) dX5_goThroughApartPairs_5 (by decide) ?_
  refine az_istore dX5_goThroughApartPairs_6 (by decide) ?_
  dsimp only [List.set]
  skip
  generalize hR : zp_pr (mem 375) N N 0 (0, []) = R at hQ hlen
  refine az_up (fun i => ∀ (u : Int32) (l : List Nat) L6 L7, zp_pr (mem 375) N (N - i) i (u, l) = R → ¬ (0 ≤ k ∧ k < nI l.length) → az_Ev X d mX5_goThroughApartPairs 8 [some (.inr 371), some (.inl k), some (.inl cnt), some (.inl u), some (.inl (nI l.length)), some (.inl (nI i)), L6, L7] [] mem Q) N 0 (by omega) (fun i _ hi ih u l L6 L7 h1 hk => ?_) (fun u l L6 L7 h1 hk => ?_) 0 [] none none hR (fun h => absurd h.2 (Int32.not_lt.mpr h.1))
  · rw [zs_sub hi, zp_pr] at h1
    refine az_iload dX5_goThroughApartPairs_8 rfl ?_
    refine az_aloadn dX5_goThroughApartPairs_10 rfl ?_
    refine az_geti dX5_goThroughApartPairs_11 flX5_9 sh_371 rfl ?_
    rw [hn]
    refine az_icmpge (t := 94) dX5_goThroughApartPairs_14 (by decide) (fun h14 => ?_) (fun h14 => ?_)
    · exact absurd h14 (nI_ge (by omega) (by omega))
    refine az_iload dX5_goThroughApartPairs_17 rfl ?_
    refine az_iconst (v := 1) dX5_goThroughApartPairs_19 (by decide) ?_
    refine az_iadd dX5_goThroughApartPairs_20 ?_
    refine az_istore dX5_goThroughApartPairs_21 (by decide) ?_
    dsimp only [List.set]
    rw [nI_1]
    generalize hR2 : zp_in (mem 375) i (N - (i + 1)) (i + 1) (u, l) = R2 at h1
    refine az_up (fun j => ∀ (u : Int32) (l : List Nat) L7, zp_in (mem 375) i (N - j) j (u, l) = R2 → ¬ (0 ≤ k ∧ k < nI l.length) → az_Ev X d mX5_goThroughApartPairs 23 [some (.inr 371), some (.inl k), some (.inl cnt), some (.inl u), some (.inl (nI l.length)), some (.inl (nI i)), some (.inl (nI j)), L7] [] mem Q) N (i + 1) (by omega) (fun j hj1 hj ih2 u l L7 h2 hk => ?_) (fun u l L7 h2 hk => ?_) u l L7 hR2 hk
    · rw [zs_sub hj, zp_in] at h2
      refine az_iload dX5_goThroughApartPairs_23 rfl ?_
      refine az_aloadn dX5_goThroughApartPairs_25 rfl ?_
      refine az_geti dX5_goThroughApartPairs_26 flX5_9 sh_371 rfl ?_
      rw [hn]
      refine az_icmpge (t := 88) dX5_goThroughApartPairs_29 (by decide) (fun h29 => ?_) (fun h29 => ?_)
      · exact absurd h29 (nI_ge (by omega) (by omega))
      refine az_aloadn dX5_goThroughApartPairs_32 rfl ?_
      refine az_getr dX5_goThroughApartPairs_33 flX5_25 sh_371 rfl ?_
      refine az_bipush (v := 16) dX5_goThroughApartPairs_36 (by decide) ?_
      refine az_iload dX5_goThroughApartPairs_38 rfl ?_
      refine az_imul dX5_goThroughApartPairs_40 ?_
      refine az_iload dX5_goThroughApartPairs_41 rfl ?_
      refine az_iadd dX5_goThroughApartPairs_43 ?_
      refine az_iald (16 * i + j) dX5_goThroughApartPairs_44 sh_375 (by omega) (by decide) (by simp only [az_lit, nI_add, pk_mul, Nat.add_assoc]) ?_
      refine az_istore dX5_goThroughApartPairs_45 (by decide) ?_
      dsimp only [List.set]
      refine az_pc 47 (by decide) ?_
      refine az_iload dX5_goThroughApartPairs_47 rfl ?_
      refine az_ifeq (t := 82) dX5_goThroughApartPairs_49 (by decide) (fun h49 => ?_) (fun h49 => ?_)
      · rw [if_pos (Or.inl h49)] at h2
        refine az_iinc (w := 1) dX5_goThroughApartPairs_82 rfl (by decide) (by decide) ?_
        dsimp only [List.set]
        refine az_goto (t := 23) dX5_goThroughApartPairs_85 (by decide) ?_
        rw [nI_1]; exact ih2 _ _ _ h2 hk
      refine az_iload dX5_goThroughApartPairs_52 rfl ?_
      refine az_iloadn dX5_goThroughApartPairs_54 rfl ?_
      refine az_iand dX5_goThroughApartPairs_55 ?_
      refine az_ifne (t := 82) dX5_goThroughApartPairs_56 (by decide) (fun h56 => ?_) (fun h56 => ?_)
      · rw [if_pos (Or.inr h56)] at h2
        refine az_iinc (w := 1) dX5_goThroughApartPairs_82 rfl (by decide) (by decide) ?_
        dsimp only [List.set]
        refine az_goto (t := 23) dX5_goThroughApartPairs_85 (by decide) ?_
        rw [nI_1]; exact ih2 _ _ _ h2 hk
      rw [if_neg (fun h => h.elim h49 (fun q => q h56))] at h2
      obtain ⟨t1, e1⟩ := zp_in_pre (P := mem 375) (a := i) (N - (j + 1)) (j + 1) (u ||| mem 375 (16 * i + j), l ++ [16 * i + j])
      obtain ⟨t2, e2⟩ := zp_pr_pre (P := mem 375) (N := N) (N - (i + 1)) (i + 1) R2
      rw [h2] at e1
      rw [h1, e1] at e2
      have hl120 : l.length < 120 := by
        have := congrArg List.length e2
        simp only [List.length_append, List.length_cons, List.length_nil] at this
        omega
      refine az_iload dX5_goThroughApartPairs_59 rfl ?_
      refine az_iloadn dX5_goThroughApartPairs_61 rfl ?_
      refine az_icmpne (t := 74) dX5_goThroughApartPairs_62 (by decide) (fun h62 => ?_) (fun h62 => ?_)
      rotate_left 1
      · have hkk : 0 ≤ k ∧ k < nI R.2.length := by
            rw [← h62, e2]
            refine ⟨nI_pos' (by omega), nI_lt ?_ ?_⟩
            · simp only [List.length_append, List.length_cons, List.length_nil]; omega
            · rw [← e2]; omega
        unfold zq_ap at hQ
        rw [if_pos hkk, ← h62, nI_clamp (by omega), e2] at hQ
        refine az_bipush (v := 16) dX5_goThroughApartPairs_65 (by decide) ?_
        refine az_iload dX5_goThroughApartPairs_67 rfl ?_
        refine az_imul dX5_goThroughApartPairs_69 ?_
        refine az_iload dX5_goThroughApartPairs_70 rfl ?_
        refine az_iadd dX5_goThroughApartPairs_72 ?_
        refine az_iret dX5_goThroughApartPairs_73 rfl ?_
        have eg : (l ++ [16 * i + j] ++ t1 ++ t2).getD l.length 0 = 16 * i + j := by
          simp only [List.getD_eq_getElem?_getD, List.append_assoc]
          rw [List.getElem?_append_right (Nat.le_refl _), Nat.sub_self]
          rfl
        rw [eg] at hQ
        simpa only [az_lit, nI_add, pk_mul] using hQ
      have hk2 : ¬ (0 ≤ k ∧ k < nI (l ++ [16 * i + j]).length) := fun h => by
        rw [List.length_append, List.length_singleton] at h
        obtain ⟨K, hK, rfl⟩ := zi_ex (by omega) h
        rcases Nat.lt_or_ge K l.length with q | q
        · exact hk ⟨h.1, nI_lt q (by omega)⟩
        · exact h62 (by rw [show K = l.length by omega])
      refine az_iloadn dX5_goThroughApartPairs_74 rfl ?_
      refine az_iload dX5_goThroughApartPairs_75 rfl ?_
      refine az_ior dX5_goThroughApartPairs_77 ?_
      refine az_istoren dX5_goThroughApartPairs_78 (by decide) ?_
      dsimp only [List.set]
      refine az_iinc (w := 1) dX5_goThroughApartPairs_79 rfl (by decide) (by decide) ?_
      dsimp only [List.set]
      refine az_pc 82 (by decide) ?_
      refine az_iinc (w := 1) dX5_goThroughApartPairs_82 rfl (by decide) (by decide) ?_
      dsimp only [List.set]
      refine az_goto (t := 23) dX5_goThroughApartPairs_85 (by decide) ?_
      rw [show nI l.length + 1 = nI (l ++ [16 * i + j]).length by rw [nI_1, List.length_append, List.length_singleton], nI_1]
      exact ih2 _ _ _ h2 hk2
    · rw [Nat.sub_self, zp_in] at h2
      subst h2
      refine az_iload dX5_goThroughApartPairs_23 rfl ?_
      refine az_aloadn dX5_goThroughApartPairs_25 rfl ?_
      refine az_geti dX5_goThroughApartPairs_26 flX5_9 sh_371 rfl ?_
      rw [hn]
      refine az_icmpge (t := 88) dX5_goThroughApartPairs_29 (by decide) (fun h29 => ?_) (fun h29 => ?_)
      rotate_left 1
      · exact absurd (Int32.le_refl _) h29
      refine az_iinc (w := 1) dX5_goThroughApartPairs_88 rfl (by decide) (by decide) ?_
      dsimp only [List.set]
      refine az_goto (t := 8) dX5_goThroughApartPairs_91 (by decide) ?_
      rw [nI_1]; exact ih _ _ _ _ h1 hk
  · rw [Nat.sub_self, zp_pr] at h1
    subst h1
    unfold zq_ap at hQ
    rw [if_neg hk] at hQ
    refine az_iload dX5_goThroughApartPairs_8 rfl ?_
    refine az_aloadn dX5_goThroughApartPairs_10 rfl ?_
    refine az_geti dX5_goThroughApartPairs_11 flX5_9 sh_371 rfl ?_
    rw [hn]
    refine az_icmpge (t := 94) dX5_goThroughApartPairs_14 (by decide) (fun h14 => ?_) (fun h14 => ?_)
    rotate_left 1
    · exact absurd (Int32.le_refl _) h14
    refine az_iloadn dX5_goThroughApartPairs_94 rfl ?_
    refine az_ifeq (t := 103) dX5_goThroughApartPairs_95 (by decide) (fun h95 => ?_) (fun h95 => ?_)
    · rw [if_pos h95] at hQ
      refine az_iconst (v := -1) dX5_goThroughApartPairs_103 (by decide) ?_
      refine az_iret dX5_goThroughApartPairs_104 rfl ?_
      exact hQ
    · rw [if_neg h95] at hQ
      refine az_iload dX5_goThroughApartPairs_98 rfl ?_
      refine az_goto (t := 104) dX5_goThroughApartPairs_100 (by decide) ?_
      refine az_iret dX5_goThroughApartPairs_104 rfl ?_
      exact hQ
theorem s_X5_countApartPairs (hn : mem 371 0 = nI N) (hN : N ≤ 16) (hQ : Q (some (.inl (nI (zp_pr (mem 375) N N 0 (0, [])).2.length))) mem) : az_Sp X (d + 1) mX5_countApartPairs [.inr 371] mem Q := by
  refine az_body (by decide +kernel) (Nat.le_of_ble_eq_true rfl) ?_
  show az_Ev X _ mX5_countApartPairs 0 [some (.inr 371)] [] mem Q
  refine az_aloadn dX5_countApartPairs_0 rfl ?_
  refine az_iconst (v := -1) dX5_countApartPairs_1 (by decide) ?_
  refine az_iconst (v := 1) dX5_countApartPairs_2 (by decide) ?_
  refine az_inv2 (N := mX5_goThroughApartPairs) dX5_countApartPairs_3 lkX5_116 okX5_goThroughApartPairs sh_371 rfl (Nat.le_of_ble_eq_true rfl) ?_
  refine s_X5_goThrough hn hN (Or.inr rfl) ?_
  rw [show zq_ap (zp_pr (mem 375) N N 0 (0, [])).2 (-1) 1 = nI (zp_pr (mem 375) N N 0 (0, [])).2.length from by unfold zq_ap; rw [if_neg (fun h => absurd h.1 (by decide)), if_neg (by decide)]]
  try dsimp only [az_ps]
  refine az_iret dX5_countApartPairs_6 rfl ?_
  exact hQ
theorem s_X5_apartPair {k : Int32} (hn : mem 371 0 = nI N) (hN : N ≤ 16) (hQ : Q (some (.inl (if 0 ≤ k ∧ k < nI (zp_pr (mem 375) N N 0 (0, [])).2.length then nI ((zp_pr (mem 375) N N 0 (0, [])).2.getD k.toNatClampNeg 0) else -1))) mem) : az_Sp X (d + 1) mX5_apartPair [.inr 371, .inl k] mem Q := by
  refine az_body (by decide +kernel) (Nat.le_of_ble_eq_true rfl) ?_
  show az_Ev X _ mX5_apartPair 0 [some (.inr 371), some (.inl k)] [] mem Q
  refine az_aloadn dX5_apartPair_0 rfl ?_
  refine az_iloadn dX5_apartPair_1 rfl ?_
  refine az_iconst (v := 0) dX5_apartPair_2 (by decide) ?_
  refine az_inv2 (N := mX5_goThroughApartPairs) dX5_apartPair_3 lkX5_116 okX5_goThroughApartPairs sh_371 rfl (Nat.le_of_ble_eq_true rfl) ?_
  refine s_X5_goThrough hn hN (Or.inl rfl) ?_
  rw [show zq_ap (zp_pr (mem 375) N N 0 (0, [])).2 k 0 = (if 0 ≤ k ∧ k < nI (zp_pr (mem 375) N N 0 (0, [])).2.length then nI ((zp_pr (mem 375) N N 0 (0, [])).2.getD k.toNatClampNeg 0) else -1) from by unfold zq_ap; rw [if_pos rfl]]
  try dsimp only [az_ps]
  refine az_iret dX5_apartPair_6 rfl ?_
  exact hQ
end CG

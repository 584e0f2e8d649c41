/-! the class's fresh sight -/
def zC_an (mem : az_M) (a b : Nat) : Int32 := zx_says (mem 1 1) (mem 1 2) (mem 3 a) (mem 373 (16 * a + b)) (zm_bf (mem 2) a b) (decide (a = b))
/-- sight is what follows from the net -/
def zC (mem : az_M) (N : Nat) : Prop := mem 371 0 = nI N ∧ (∀ p, p < N → mem 372 p = zm_mask (zm_bf (mem 2) p) N) ∧ (∃ old, mem 373 = zx_k N N 0 (zx_00 N (mem 2) old)) ∧ (∀ a b, a < N → b < N → mem 374 (16 * a + b) = zC_an mem a b) ∧ (∀ a b, a < b → b < N → mem 375 (16 * a + b) = zm_mask (zm_pf (mem 374) a b) N) ∧ (∀ p, p < N → mem 376 p = zm_mask (zm_yf (mem 1 1) (mem 374) p) N) ∧ (∀ m, m < N → mem 378 m = nI (zx_gl (mem 374) N m).length ∧ ∀ i, i < (zx_gl (mem 374) N m).length → mem 377 (16 * m + i) = nI ((zx_gl (mem 374) N m).getD i 0))
theorem zx_g_congr {an an' : Nat → Int32} {N m : Nat} (h : ∀ q, q < N → an (16 * m + q) = an' (16 * m + q)) : ∀ (n p g : Nat) (l : List Nat), p + n ≤ N → zx_g an N m n p g l = zx_g an' N m n p g l
  | 0, _, _, _, _ => rfl
  | n + 1, p, g, l, hp => by
    have e : zn_mask (zx_sa an m p) N = zn_mask (zx_sa an' m p) N := zn_congr N (fun i hi => by unfold zx_sa; rw [h i hi, h p (by omega)])
    rw [zx_g, zx_g, e, zx_g_congr h n (p + 1) _ _ (by omega), zx_g_congr h n (p + 1) _ _ (by omega)]
theorem zx_gl_congr {an an' : Nat → Int32} {N m : Nat} (h : ∀ q, q < N → an (16 * m + q) = an' (16 * m + q)) : zx_gl an N m = zx_gl an' N m := zx_g_congr h N 0 0 [] (by omega)
theorem zx_g_len {an : Nat → Int32} {N m : Nat} : ∀ (n p g : Nat) (l : List Nat), (zx_g an N m n p g l).length ≤ l.length + n
  | 0, _, _, _ => Nat.le_refl _
  | n + 1, p, g, l => by
    rw [zx_g]
    split
    · have := zx_g_len (an := an) (N := N) (m := m) n (p + 1) g l; omega
    · have := zx_g_len (an := an) (N := N) (m := m) n (p + 1) (g ||| zn_mask (zx_sa an m p) N) (l ++ [zn_mask (zx_sa an m p) N])
      rw [List.length_append, List.length_singleton] at this
      omega
theorem zx_gl_len {an : Nat → Int32} {N m : Nat} (hN : N ≤ 16) : (zx_gl an N m).length ≤ 16 := by
  have := zx_g_len (an := an) (N := N) (m := m) N 0 0 []
  unfold zx_gl
  simp only [List.length_nil] at this
  omega
section CE
variable {X : az_X} {d : Nat} {mem : az_M} {Q : Option az_V → az_M → Prop} {N : Nat}
theorem s_X5_look (hn0 : mem 1 0 = nI N) (hN : N ≤ 16) (hQ : ∀ m', (∀ k, (k < 371 ∨ 378 < k) → m' k = mem k) → zC m' N → Q none m') : az_Sp X (d + 2) mX5_look [.inr 371, .inr 1] mem Q := by
  refine az_body (by decide +kernel) (Nat.le_of_ble_eq_true rfl) ?_
  show az_Ev X _ mX5_look 0 [some (.inr 371), some (.inr 1), none, none] [] mem Q
  refine az_aloadn dX5_look_0 rfl ?_
  refine az_aloadn dX5_look_1 rfl ?_
  refine az_geti dX5_look_2 flX5_37 sh_1 rfl ?_
  rw [hn0]
  refine az_puti dX5_look_5 plX5_9 sh_371 rfl ?_
  refine az_iconst (v := 0) dX5_look_8 (by decide) ?_
  refine az_istoren dX5_look_9 (by decide) ?_
  dsimp only [List.set]
  skip
  refine az_up (fun i => ∀ m' L3, (∀ k, k ≠ 371 → k ≠ 372 → m' k = mem k) → m' 371 0 = nI N → (∀ p, p < i → m' 372 p = zm_mask (zm_bf (mem 2) p) N) → az_Ev X (d + 2) mX5_look 10 [some (.inr 371), some (.inr 1), some (.inl (nI i)), L3] [] m' Q) N 0 (by omega) (fun i _ hi ih m' L3 hf hn h1 => ?_) (fun m' L3 hf hn h1 => ?_) _ none (fun k k1 k2 => by rw [az_w_ne _ k1]) (by rw [az_w_eq, if_pos ⟨rfl, rfl⟩]) (fun p h => absurd h (by omega))
  · refine az_iloadn dX5_look_10 rfl ?_
    refine az_aloadn dX5_look_11 rfl ?_
    refine az_geti dX5_look_12 flX5_9 sh_371 rfl ?_
    rw [hn]
    refine az_icmpge (t := 35) dX5_look_15 (by decide) (fun h15 => ?_) (fun h15 => ?_)
    · exact absurd h15 (nI_ge (by omega) (by omega))
    refine az_aloadn dX5_look_18 rfl ?_
    refine az_getr dX5_look_19 flX5_15 sh_371 rfl ?_
    refine az_iloadn dX5_look_22 rfl ?_
    refine az_aloadn dX5_look_23 rfl ?_
    refine az_iloadn dX5_look_24 rfl ?_
    refine az_inv1 (N := mX2_besideBits) dX5_look_25 lkX5_40 okX2_besideBits sh_1 rfl (Nat.le_of_ble_eq_true rfl) ?_
    refine s_X2_besideBits (N := N) (by rw [hf 1 (by decide) (by decide)]; exact hn0) hN (by omega) ?_
    rw [hf 2 (by decide) (by decide)]
    try dsimp only [az_ps]
    refine az_iast (i) dX5_look_28 sh_372 (by omega) (by decide) (by simp only [az_lit, nI_add, pk_mul, Nat.add_assoc]) ?_
    refine az_iinc (w := 1) dX5_look_29 rfl (by decide) (by decide) ?_
    dsimp only [List.set]
    refine az_goto (t := 10) dX5_look_32 (by decide) ?_
    rw [nI_1]
    refine ih _ _ (fun k k1 k2 => by rw [az_w_ne _ k2]; exact hf k k1 k2) (by rw [az_w_ne _ (by decide)]; exact hn) (fun p hp => ?_)
    rw [az_w_eq]
    by_cases hpi : p = i
    · rw [if_pos ⟨rfl, hpi⟩, hpi]
    · rw [if_neg (by omega)]; exact h1 p (by omega)
  refine az_iloadn dX5_look_10 rfl ?_
  refine az_aloadn dX5_look_11 rfl ?_
  refine az_geti dX5_look_12 flX5_9 sh_371 rfl ?_
  rw [hn]
  refine az_icmpge (t := 35) dX5_look_15 (by decide) (fun h15 => ?_) (fun h15 => ?_)
  rotate_left 1
  · exact absurd (Int32.le_refl _) h15
  refine az_aloadn dX5_look_35 rfl ?_
  refine az_aloadn dX5_look_36 rfl ?_
  refine az_inv1 (N := mX5_findWays) dX5_look_37 lkX5_44 okX5_findWays sh_371 rfl (Nat.le_of_ble_eq_true rfl) ?_
  refine s_X5_findWays hn hN (fun m2 f2 g2 => ?_)
  try dsimp only [az_ps]
  refine az_iconst (v := 0) dX5_look_40 (by decide) ?_
  refine az_istoren dX5_look_41 (by decide) ?_
  dsimp only [List.set]
  skip
  have F2 : ∀ k, (k < 371 ∨ 374 ≤ k) → m2 k = mem k := fun k hk => by rw [f2 k (by omega), hf k (by omega) (by omega)]
  have n2 : m2 371 0 = nI N := by rw [f2 371 (by decide)]; exact hn
  have b2 : ∀ p, p < N → m2 372 p = zm_mask (zm_bf (m2 2) p) N := fun p hp => by rw [f2 372 (by decide), F2 2 (by omega)]; exact h1 p hp
  have w2 : ∃ old, m2 373 = zx_k N N 0 (zx_00 N (m2 2) old) := ⟨m' 373, by rw [F2 2 (by omega), g2, hf 2 (by decide) (by decide)]⟩
  clear g2 f2 h1 hn hf
  refine az_up (fun i => ∀ m3 L3, (∀ k, k ≠ 374 → k ≠ 377 → k ≠ 378 → m3 k = m2 k) → (∀ a b, a < i → b < N → m3 374 (16 * a + b) = zC_an m2 a b) → (∀ m, m < i → m3 378 m = nI (zx_gl (m3 374) N m).length ∧ ∀ q, q < (zx_gl (m3 374) N m).length → m3 377 (16 * m + q) = nI ((zx_gl (m3 374) N m).getD q 0)) → az_Ev X (d + 2) mX5_look 42 [some (.inr 371), some (.inr 1), some (.inl (nI i)), L3] [] m3 Q) N 0 (by omega) (fun i _ hi ih m3 L3 f3 a3 g3 => ?_) (fun m3 L3 f3 a3 g3 => ?_) m2 L3 (fun _ _ _ _ => rfl) (fun a b h => absurd h (by omega)) (fun m h => absurd h (by omega))
  · have hn : m3 371 0 = nI N := by rw [f3 371 (by decide) (by decide) (by decide)]; exact n2
    refine az_iloadn dX5_look_42 rfl ?_
    refine az_aloadn dX5_look_43 rfl ?_
    refine az_geti dX5_look_44 flX5_9 sh_371 rfl ?_
    rw [hn]
    refine az_icmpge (t := 95) dX5_look_47 (by decide) (fun h47 => ?_) (fun h47 => ?_)
    · exact absurd h47 (nI_ge (by omega) (by omega))
    refine az_iconst (v := 0) dX5_look_50 (by decide) ?_
    refine az_istoren dX5_look_51 (by decide) ?_
    dsimp only [List.set]
    skip
    refine az_up (fun j => ∀ m4, (∀ k, k ≠ 374 → m4 k = m3 k) → (∀ q, (q < 16 * i ∨ 16 * i + 16 ≤ q) → m4 374 q = m3 374 q) → (∀ b, b < j → m4 374 (16 * i + b) = zC_an m2 i b) → az_Ev X (d + 2) mX5_look 52 [some (.inr 371), some (.inr 1), some (.inl (nI i)), some (.inl (nI j))] [] m4 Q) N 0 (by omega) (fun j _ hj ih2 m4 f4 o4 a4 => ?_) (fun m4 f4 o4 a4 => ?_) m3 (fun _ _ => rfl) (fun _ _ => rfl) (fun b h => absurd h (by omega))
    · have e4 : ∀ k, k < 374 → m4 k = m2 k := fun k hk => by rw [f4 k (by omega), f3 k (by omega) (by omega) (by omega)]
      refine az_iloadn dX5_look_52 rfl ?_
      refine az_aloadn dX5_look_53 rfl ?_
      refine az_geti dX5_look_54 flX5_9 sh_371 rfl ?_
      rw [e4 371 (by decide), n2]
      refine az_icmpge (t := 84) dX5_look_57 (by decide) (fun h57 => ?_) (fun h57 => ?_)
      · exact absurd h57 (nI_ge (by omega) (by omega))
      refine az_aloadn dX5_look_60 rfl ?_
      refine az_getr dX5_look_61 flX5_22 sh_371 rfl ?_
      refine az_bipush (v := 16) dX5_look_64 (by decide) ?_
      refine az_iloadn dX5_look_66 rfl ?_
      refine az_imul dX5_look_67 ?_
      refine az_iloadn dX5_look_68 rfl ?_
      refine az_iadd dX5_look_69 ?_
      refine az_aloadn dX5_look_70 rfl ?_
      refine az_aloadn dX5_look_71 rfl ?_
      refine az_pc 72 (by decide) ?_
      refine az_iloadn dX5_look_72 rfl ?_
      refine az_iloadn dX5_look_73 rfl ?_
      refine az_inv3 (N := mX5_answerOf) dX5_look_74 lkX5_48 okX5_answerOf sh_371 rfl (Nat.le_of_ble_eq_true rfl) ?_
      refine s_X5_answerOf (N := N) (by omega) (by omega) hj hN (by rw [e4 372 (by decide), e4 2 (by decide)]; exact b2 i hi) ?_
      rw [e4 1 (by decide), e4 3 (by decide), e4 373 (by decide), e4 2 (by decide), show zx_says (m2 1 1) (m2 1 2) (m2 3 i) (m2 373 (16 * i + j)) (zm_bf (m2 2) i j) (decide (i = j)) = zC_an m2 i j from rfl]
      try dsimp only [az_ps]
      refine az_iast (16 * i + j) dX5_look_77 sh_374 (by omega) (by decide) (by simp only [az_lit, nI_add, pk_mul, Nat.add_assoc]) ?_
      refine az_iinc (w := 1) dX5_look_78 rfl (by decide) (by decide) ?_
      dsimp only [List.set]
      refine az_goto (t := 52) dX5_look_81 (by decide) ?_
      rw [nI_1]
      refine ih2 _ (fun k hk => by rw [az_w_ne _ hk]; exact f4 k hk) (fun q hq => by rw [az_w_eq, if_neg (by omega)]; exact o4 q hq) (fun b hb => ?_)
      rw [az_w_eq]
      by_cases hbj : b = j
      · rw [if_pos ⟨rfl, by omega⟩, hbj]
      · rw [if_neg (by omega)]; exact a4 b (by omega)
    · have e4 : ∀ k, k < 374 → m4 k = m2 k := fun k hk => by rw [f4 k (by omega), f3 k (by omega) (by omega) (by omega)]
      have hn4 : m4 371 0 = nI N := by rw [e4 371 (by decide)]; exact n2
      refine az_iloadn dX5_look_52 rfl ?_
      refine az_aloadn dX5_look_53 rfl ?_
      refine az_geti dX5_look_54 flX5_9 sh_371 rfl ?_
      rw [hn4]
      refine az_icmpge (t := 84) dX5_look_57 (by decide) (fun h57 => ?_) (fun h57 => ?_)
      rotate_left 1
      · exact absurd (Int32.le_refl _) h57
      refine az_aloadn dX5_look_84 rfl ?_
      refine az_iloadn dX5_look_85 rfl ?_
      refine az_inv1 (N := mX5_groupPosts) dX5_look_86 lkX5_52 okX5_groupPosts sh_371 rfl (Nat.le_of_ble_eq_true rfl) ?_
      refine s_X5_groupPosts hn4 hN (by omega) (fun m5 f5 o5 g5 c5 => ?_)
      try dsimp only [az_ps]
      refine az_iinc (w := 1) dX5_look_89 rfl (by decide) (by decide) ?_
      dsimp only [List.set]
      refine az_goto (t := 42) dX5_look_92 (by decide) ?_
      rw [nI_1]
      have e5 : m5 374 = m4 374 := f5 374 (by decide) (by decide)
      refine ih _ _ (fun k k1 k2 k3 => by rw [f5 k k2 k3, f4 k k1]; exact f3 k k1 k2 k3) (fun a b ha hb => ?_) (fun m hm => ?_)
      · rw [e5]
        rcases Nat.lt_or_ge a i with q | q
        · rw [o4 _ (by omega)]; exact a3 a b q hb
        · have : a = i := by omega
          subst this; exact a4 b hb
      · rw [e5]
        rcases Nat.lt_or_ge m i with q | q
        · have eg : zx_gl (m4 374) N m = zx_gl (m3 374) N m := zx_gl_congr (fun z hz => o4 _ (by omega))
          have hlen : (zx_gl (m3 374) N m).length ≤ 16 := by rw [← eg]; exact zx_gl_len hN
          rw [eg, c5, if_neg (by omega), f4 378 (by decide)]
          refine ⟨(g3 m q).1, fun z hz => ?_⟩
          rw [o5 _ (by omega), f4 377 (by decide)]
          exact (g3 m q).2 z hz
        · have : m = i := by omega
          subst this
          exact ⟨by rw [c5, if_pos rfl], g5⟩
  · have hn3 : m3 371 0 = nI N := by rw [f3 371 (by decide) (by decide) (by decide)]; exact n2
    have e3 : ∀ k, k < 374 → m3 k = m2 k := fun k hk => f3 k (by omega) (by omega) (by omega)
    refine az_iloadn dX5_look_42 rfl ?_
    refine az_aloadn dX5_look_43 rfl ?_
    refine az_geti dX5_look_44 flX5_9 sh_371 rfl ?_
    rw [hn3]
    refine az_icmpge (t := 95) dX5_look_47 (by decide) (fun h47 => ?_) (fun h47 => ?_)
    rotate_left 1
    · exact absurd (Int32.le_refl _) h47
    refine az_aloadn dX5_look_95 rfl ?_
    refine az_inv0 (N := mX5_findParters) dX5_look_96 lkX5_56 okX5_findParters sh_371 rfl (Nat.le_of_ble_eq_true rfl) ?_
    refine s_X5_findParters hn3 hN (fun m6 f6 g6 => ?_)
    have hn6 : m6 371 0 = nI N := by rw [f6 371 (by decide)]; exact hn3
    have last : ∀ no m7, no = zx_no (m6 1 1) → (∀ k, k ≠ 376 → m7 k = m6 k) → (∀ p, p < N → m7 376 p = zm_mask (fun m => !decide (m6 374 (16 * m + p) = no)) N) → Q none m7 := by
      intro no m7 hno f7 y7
      have e7 : ∀ k, k < 374 → m7 k = m2 k := fun k hk => by rw [f7 k (by omega), f6 k (by omega), e3 k hk]
      have e74 : m7 374 = m3 374 := by rw [f7 374 (by decide), f6 374 (by decide)]
      refine hQ m7 (fun k hk => ?_) ⟨by rw [e7 371 (by decide)]; exact n2, fun p hp => by rw [e7 372 (by decide), e7 2 (by decide)]; exact b2 p hp, by rw [e7 373 (by decide), e7 2 (by decide)]; exact w2, fun a b ha hb => ?_, fun a b ha hb => ?_, fun p hp => ?_, fun m hm => ?_⟩
      · rw [f7 k (by omega), f6 k (by omega), f3 k (by omega) (by omega) (by omega), F2 k (by omega)]
      · rw [e74, a3 a b ha hb]
        unfold zC_an
        rw [e7 1 (by decide), e7 3 (by decide), e7 373 (by decide), e7 2 (by decide)]
      · rw [f7 375 (by decide), g6 a b ha hb, e74]
      · rw [y7 p hp, e74, e7 1 (by decide), hno, f6 1 (by decide), e3 1 (by decide), f6 374 (by decide)]
        rfl
      · rw [f7 378 (by decide), f6 378 (by decide), f7 377 (by decide), f6 377 (by decide), e74]
        exact g3 m hm
    try dsimp only [az_ps]
    refine az_aloadn dX5_look_99 rfl ?_
    refine az_aloadn dX5_look_100 rfl ?_
    refine az_geti dX5_look_101 flX5_59 sh_1 rfl ?_
    refine az_ifne (t := 112) dX5_look_104 (by decide) (fun h104 => ?_) (fun h104 => ?_)
    · have hno : (0 : Int32) = zx_no (m6 1 1) := by unfold zx_no; rw [if_neg h104]
      refine az_iconst (v := 0) dX5_look_112 (by decide) ?_
      refine az_inv1 (N := mX5_findYes) dX5_look_113 lkX5_63 okX5_findYes sh_371 rfl (Nat.le_of_ble_eq_true rfl) ?_
      refine s_X5_findYes hn6 hN (fun m7 f7 y7 => ?_)
      try dsimp only [az_ps]
      refine az_vret dX5_look_116 rfl ?_
      exact last _ m7 hno f7 y7
    · have hno : (1000000 : Int32) = zx_no (m6 1 1) := by unfold zx_no; rw [if_pos h104]
      refine az_ldc dX5_look_107 kcX5_62 ?_
      refine az_goto (t := 113) dX5_look_109 (by decide) ?_
      refine az_inv1 (N := mX5_findYes) dX5_look_113 lkX5_63 okX5_findYes sh_371 rfl (Nat.le_of_ble_eq_true rfl) ?_
      refine s_X5_findYes hn6 hN (fun m7 f7 y7 => ?_)
      try dsimp only [az_ps]
      refine az_vret dX5_look_116 rfl ?_
      exact last _ m7 hno f7 y7
theorem s_X7_freshSight (hn0 : mem 1 0 = nI N) (hN : N ≤ 16) (hs : mem 0 7 = 0 ∨ mem 0 7 = 1) (hF : mem 0 7 = 0 → zC mem N) (hQ : ∀ m', (∀ k, k ≠ 0 → (k < 371 ∨ 378 < k) → m' k = mem k) → (∀ j, m' 0 j = if j = 7 then 0 else mem 0 j) → zC m' N → Q (some (.inr 371)) m') : az_Sp X (d + 3) mX7_freshSight [.inr 0] mem Q := by
  refine az_body (by decide +kernel) (Nat.le_of_ble_eq_true rfl) ?_
  show az_Ev X _ mX7_freshSight 0 [some (.inr 0)] [] mem Q
  refine az_aloadn dX7_freshSight_0 rfl ?_
  refine az_geti dX7_freshSight_1 flX7_58 sh_0 rfl ?_
  refine az_ifeq (t := 23) dX7_freshSight_4 (by decide) (fun h4 => ?_) (fun h4 => ?_)
  · have hq := hQ mem (fun _ _ _ => rfl) (fun j => by by_cases hj : j = 7; rw [if_pos hj, hj]; exact h4; rw [if_neg hj]) (hF h4)
    refine az_aloadn dX7_freshSight_23 rfl ?_
    refine az_getr dX7_freshSight_24 flX7_33 sh_0 rfl ?_
    refine az_aret dX7_freshSight_27 rfl ?_
    exact hq
  · refine az_aloadn dX7_freshSight_7 rfl ?_
    refine az_getr dX7_freshSight_8 flX7_33 sh_0 rfl ?_
    refine az_aloadn dX7_freshSight_11 rfl ?_
    refine az_getr dX7_freshSight_12 flX7_12 sh_0 rfl ?_
    refine az_inv1 (N := mX5_look) dX7_freshSight_15 lkX7_245 okX5_look sh_371 rfl (Nat.le_of_ble_eq_true rfl) ?_
    refine s_X5_look hn0 hN (fun m1 f1 g1 => ?_)
    have hq : Q (some (.inr 371)) (az_w m1 0 7 0) := by
      refine hQ _ (fun k k0 hk => by rw [az_w_ne _ k0]; exact f1 k hk) (fun j => by rw [az_w_same, zm_upd_eq, f1 0 (by omega)]) ?_
      unfold zC zC_an at g1 ⊢
      simp only [az_w_ne m1 (show (1 : Nat) ≠ 0 by decide), az_w_ne m1 (show (2 : Nat) ≠ 0 by decide), az_w_ne m1 (show (3 : Nat) ≠ 0 by decide), az_w_ne m1 (show (371 : Nat) ≠ 0 by decide), az_w_ne m1 (show (372 : Nat) ≠ 0 by decide), az_w_ne m1 (show (373 : Nat) ≠ 0 by decide), az_w_ne m1 (show (374 : Nat) ≠ 0 by decide), az_w_ne m1 (show (375 : Nat) ≠ 0 by decide), az_w_ne m1 (show (376 : Nat) ≠ 0 by decide), az_w_ne m1 (show (377 : Nat) ≠ 0 by decide), az_w_ne m1 (show (378 : Nat) ≠ 0 by decide)]
      exact g1
    try dsimp only [az_ps]
    refine az_aloadn dX7_freshSight_18 rfl ?_
    refine az_iconst (v := 0) dX7_freshSight_19 (by decide) ?_
    refine az_putz dX7_freshSight_20 plX7_58 sh_0 rfl (by first | exact Or.inl rfl | exact Or.inr rfl | assumption) ?_
    refine az_aloadn dX7_freshSight_23 rfl ?_
    refine az_getr dX7_freshSight_24 flX7_33 sh_0 rfl ?_
    refine az_aret dX7_freshSight_27 rfl ?_
    exact hq
end CE

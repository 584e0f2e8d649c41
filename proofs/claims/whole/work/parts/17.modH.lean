/-! the model's roads -/
/-- a road laid into the state -/
def zr_lay (S : Nat → Int32) (a b v : Int32) : Nat → Int32 := upd (upd S (7 + (16 * a.toNatClampNeg + b.toNatClampNeg)) v) (7 + (16 * b.toNatClampNeg + a.toNatClampNeg)) v
def zr_go (tp : Nat → Int32) (K : Nat) : Nat → Nat → (Nat → Int32) → Nat → (Nat → Int32) × Nat
  | 0, _, S, m => (S, m)
  | f + 1, k, S, m => if k + 4 ≤ K then (if zm_rd S (tp k) (tp (k + 1)) (256 * tp (k + 2) + tp (k + 3)) then zr_go tp K f (k + 4) (zr_lay S (tp k) (tp (k + 1)) (256 * tp (k + 2) + tp (k + 3))) (m + 1) else (S, m)) else (S, m)
theorem zr_lay_0 {S : Nat → Int32} {a b v : Int32} : zr_lay S a b v 0 = S 0 := by
  unfold zr_lay; rw [upd_ne (by omega), upd_ne (by omega)]
section MH
variable {X : az_X} {d : Nat} {mem : az_M} {Q : Option az_V → az_M → Prop} {N t c : Nat}
theorem s_X8_roads {n : Int32} {T : Nat} (hn : mem 392 0 = nI N) (hN : N ≤ 16) (hH : zm_H mem t c) (hT : mem 391 5 = nI T) (hT2 : T ≤ 400) (hQ0 : ¬ (0 ≤ n ∧ n ≤ nI T) → Q (some (.inl (-1))) mem)
    (hQ1 : (0 ≤ n ∧ n ≤ nI T) → ∀ m', ((zr_go (mem 394) n.toNatClampNeg 100 0 (mem 392) 0).2 = 0 → (∀ k, k ≠ 391 → k ≠ 395 → k ≠ 396 → m' k = mem k) ∧ (∀ j, m' 391 j = if j = 5 then 0 else mem 391 j)) → (0 < (zr_go (mem 394) n.toNatClampNeg 100 0 (mem 392) 0).2 → zm_act t c (az_w mem 391 5 0) m' ∧ m' 392 = (zr_go (mem 394) n.toNatClampNeg 100 0 (mem 392) 0).1) → zF m' N → Q (some (.inl (nI (zr_go (mem 394) n.toNatClampNeg 100 0 (mem 392) 0).2))) m') : az_Sp X (d + 3) mX8_roads [.inr 391, .inl n] mem Q := by
  refine az_body (by decide +kernel) (Nat.le_of_ble_eq_true rfl) ?_
  show az_Ev X _ mX8_roads 0 [some (.inr 391), some (.inl n), none, none, none, none] [] mem Q
  refine az_iloadn dX8_roads_0 rfl ?_
  refine az_iflt (t := 12) dX8_roads_1 (by decide) (fun h1 => ?_) (fun h1 => ?_)
  · have hq := hQ0 (fun h => absurd h1 (Int32.not_lt.mpr h.1))
    refine az_iconst (v := -1) dX8_roads_12 (by decide) ?_
    exact az_iret dX8_roads_13 rfl hq
  refine az_iloadn dX8_roads_4 rfl ?_
  refine az_aloadn dX8_roads_5 rfl ?_
  refine az_geti dX8_roads_6 flX8_89 sh_391 rfl ?_
  rw [hT]
  refine az_icmple (t := 14) dX8_roads_9 (by decide) (fun h9 => ?_) (fun h9 => ?_)
  rotate_left 1
  · have hq := hQ0 (fun h => h9 h.2)
    refine az_iconst (v := -1) dX8_roads_12 (by decide) ?_
    exact az_iret dX8_roads_13 rfl hq
  refine az_aloadn dX8_roads_14 rfl ?_
  refine az_iconst (v := 0) dX8_roads_15 (by decide) ?_
  refine az_puti dX8_roads_16 plX8_89 sh_391 rfl ?_
  refine az_iconst (v := 0) dX8_roads_19 (by decide) ?_
  refine az_istoren dX8_roads_20 (by decide) ?_
  dsimp only [List.set]
  refine az_iconst (v := 1) dX8_roads_21 (by decide) ?_
  refine az_istoren dX8_roads_22 (by decide) ?_
  dsimp only [List.set]
  refine az_iconst (v := 0) dX8_roads_23 (by decide) ?_
  refine az_istore dX8_roads_24 (by decide) ?_
  dsimp only [List.set]
  skip
  have hv : 0 ≤ n ∧ n ≤ nI T := ⟨Int32.not_lt.mp h1, h9⟩
  have hQ1 := hQ1 hv
  obtain ⟨K, hK, rfl⟩ := zi_ex (x := n) (N := T + 1) (by omega) ⟨hv.1, by
    refine Int32.lt_of_le_of_lt hv.2 (nI_lt (by omega) (by omega))⟩
  rw [nI_clamp (by omega)] at hQ1
  generalize hR : zr_go (mem 394) K 100 0 (mem 392) 0 = R at hQ1
  have fin : ∀ (m' : az_M) (L3 L4 L5 : Option az_V), m' 392 0 = nI N → ((R.2 = 0 ∧ m' = az_w mem 391 5 0) ∨ (0 < R.2 ∧ ∃ m1, zm_act0 t c (az_w mem 391 5 0) m1 ∧ ∀ k, k ≠ 392 → m' k = m1 k)) → m' 392 = R.1 → az_Ev X (d + 3) mX8_roads 132 [some (.inr 391), some (.inl (nI K)), some (.inl (nI R.2)), L3, L4, L5] [] m' Q := by
    intro m' L3 L4 L5 hn' hI hS
    refine az_aloadn dX8_roads_132 rfl ?_
    refine az_inv0 (N := mX8_walk) dX8_roads_133 lkX8_52 okX8_walk sh_391 rfl (Nat.le_of_ble_eq_true rfl) ?_
    refine t_X8_walk hn' hN (fun m2 g1 hF => ?_)
    try dsimp only [az_ps]
    refine az_iloadn dX8_roads_136 rfl ?_
    refine az_iret dX8_roads_137 rfl ?_
    refine hQ1 m2 (fun h0 => ?_) (fun h0 => ?_) hF
    · rcases hI with ⟨-, rfl⟩ | ⟨h, -⟩
      · exact ⟨fun k k1 k2 k3 => by rw [g1 k k2 k3, az_w_ne _ k1], fun j => by rw [g1 391 (by decide) (by decide), az_w_same, zm_upd_eq]⟩
      · omega
    · rcases hI with ⟨h, -⟩ | ⟨-, m1, hA, hk⟩
      · omega
      · exact ⟨⟨m1, hA, fun k k1 k2 k3 => by rw [g1 k k2 k3]; exact hk k k1⟩, by rw [g1 392 (by decide) (by decide)]; exact hS⟩
  refine az_up (fun i => ∀ (m' : az_M) (m : Nat) L5, m ≤ i → m' 392 0 = nI N → m' 394 = mem 394 → ((m = 0 ∧ m' = az_w mem 391 5 0) ∨ (0 < m ∧ ∃ m1, zm_act0 t c (az_w mem 391 5 0) m1 ∧ ∀ k, k ≠ 392 → m' k = m1 k)) → zr_go (mem 394) K (100 - i) (4 * i) (m' 392) m = R → az_Ev X (d + 3) mX8_roads 26 [some (.inr 391), some (.inl (nI K)), some (.inl (nI m)), some (.inl 1), some (.inl (nI (4 * i))), L5] [] m' Q) 100 0 (by omega) (fun i _ hi ih m' m L5 hm hn' h4 hI hR => ?_) (fun m' m L5 hm hn' h4 hI hR => ?_) _ 0 none (by omega) (by rw [az_w_ne _ (by decide)]; exact hn) (by rw [az_w_ne _ (by decide)]) (Or.inl ⟨rfl, rfl⟩) (by rw [az_w_ne _ (by decide)]; exact hR)
  · rw [zs_sub hi, zr_go] at hR
    have goon : zm_rd (m' 392) (mem 394 (4 * i)) (mem 394 (4 * i + 1)) (256 * mem 394 (4 * i + 2) + mem 394 (4 * i + 3)) → zr_go (mem 394) K (100 - (i + 1)) (4 * i + 4) (zr_lay (m' 392) (mem 394 (4 * i)) (mem 394 (4 * i + 1)) (256 * mem 394 (4 * i + 2) + mem 394 (4 * i + 3))) (m + 1) = R → ∀ m2 : az_M, m2 392 = m' 392 → m2 394 = mem 394 → (∃ m1, zm_act0 t c (az_w mem 391 5 0) m1 ∧ ∀ k, k ≠ 392 → m2 k = m1 k) → az_Ev X (d + 3) mX8_roads 101 [some (.inr 391), some (.inl (nI K)), some (.inl (nI m)), some (.inl 1), some (.inl (nI (4 * i))), some (.inl (256 * mem 394 (4 * i + 2) + mem 394 (4 * i + 3)))] [] m2 Q := by
      intro hrd hgo m2 e2 e4 hI2
      have ea := zi_of (N := N) (by omega) (by rw [← hn']; exact hrd.1)
      have eb := zi_of (N := N) (by omega) (by rw [← hn']; exact hrd.2.1)
      refine az_aloadn dX8_roads_101 rfl ?_
      refine az_aloadn dX8_roads_102 rfl ?_
      refine az_getr dX8_roads_103 flX8_17 sh_391 rfl ?_
      refine az_iload dX8_roads_106 rfl ?_
      refine az_iald (4 * i) dX8_roads_108 sh_394 (by omega) (by decide) (by simp only [az_lit, nI_add, pk_mul, Nat.add_assoc]) ?_
      refine az_aloadn dX8_roads_109 rfl ?_
      refine az_getr dX8_roads_110 flX8_17 sh_391 rfl ?_
      refine az_iload dX8_roads_113 rfl ?_
      refine az_iconst (v := 1) dX8_roads_115 (by decide) ?_
      refine az_iadd dX8_roads_116 ?_
      refine az_iald (4 * i + 1) dX8_roads_117 sh_394 (by omega) (by decide) (by simp only [az_lit, nI_add, pk_mul, Nat.add_assoc]) ?_
      refine az_iload dX8_roads_118 rfl ?_
      refine az_inv3 (N := mX8_lay) dX8_roads_120 lkX8_85 okX8_lay sh_391 rfl (Nat.le_of_ble_eq_true rfl) ?_
      rw [e4]
      refine t_X8_lay ea.2 eb.2 (by omega) (by omega) ?_
      try dsimp only [az_ps]
      refine az_iinc (w := 1) dX8_roads_123 rfl (by decide) (by decide) ?_
      dsimp only [List.set]
      refine az_iinc (w := 4) dX8_roads_126 rfl (by decide) (by decide) ?_
      dsimp only [List.set]
      refine az_goto (t := 26) dX8_roads_129 (by decide) ?_
      rw [nI_1, show nI (4 * i) + 4 = nI (4 * (i + 1)) from nI_add (4 * i) 4]
      refine ih _ (m + 1) _ (by omega) (by rw [az_w_same, upd_ne (by omega), az_w_same, upd_ne (by omega), e2]; exact hn') (by rw [az_w_ne _ (by decide), az_w_ne _ (by decide)]; exact e4) (Or.inr ⟨by omega, ?_⟩) ?_
      · obtain ⟨m1, hA, hk⟩ := hI2
        exact ⟨m1, hA, fun k k1 => by rw [az_w_ne _ k1, az_w_ne _ k1]; exact hk k k1⟩
      · rw [az_w_same, az_w_same, e2]; exact hgo
    refine az_iload dX8_roads_26 rfl ?_
    refine az_iconst (v := 4) dX8_roads_28 (by decide) ?_
    refine az_iadd dX8_roads_29 ?_
    refine az_iloadn dX8_roads_30 rfl ?_
    rw [show nI (4 * i) + 4 = nI (4 * i + 4) from nI_add (4 * i) 4]
    refine az_icmpgt (t := 132) dX8_roads_31 (by decide) (fun h31 => ?_) (fun h31 => ?_)
    · rw [if_neg (fun h => absurd h31 (nI_nlt h (by omega)))] at hR
      subst hR
      exact fin m' _ _ _ hn' hI rfl
    have hk4 : 4 * i + 4 ≤ K := by rcases Nat.lt_or_ge K (4 * i + 4) with q | q; exact absurd (nI_lt q (by omega)) h31; exact q
    rw [if_pos hk4] at hR
    refine az_iloadn dX8_roads_34 rfl ?_
    refine az_ifeq (t := 132) dX8_roads_35 (by decide) (fun h35 => ?_) (fun h35 => ?_)
    · exact absurd h35 (by decide)
    refine az_sipush (v := 256) dX8_roads_38 (by decide) ?_
    refine az_aloadn dX8_roads_41 rfl ?_
    refine az_getr dX8_roads_42 flX8_17 sh_391 rfl ?_
    refine az_iload dX8_roads_45 rfl ?_
    refine az_iconst (v := 2) dX8_roads_47 (by decide) ?_
    refine az_iadd dX8_roads_48 ?_
    refine az_iald (4 * i + 2) dX8_roads_49 sh_394 (by omega) (by decide) (by simp only [az_lit, nI_add, pk_mul, Nat.add_assoc]) ?_
    refine az_imul dX8_roads_50 ?_
    refine az_aloadn dX8_roads_51 rfl ?_
    refine az_getr dX8_roads_52 flX8_17 sh_391 rfl ?_
    refine az_iload dX8_roads_55 rfl ?_
    refine az_iconst (v := 3) dX8_roads_57 (by decide) ?_
    refine az_iadd dX8_roads_58 ?_
    refine az_iald (4 * i + 3) dX8_roads_59 sh_394 (by omega) (by decide) (by simp only [az_lit, nI_add, pk_mul, Nat.add_assoc]) ?_
    refine az_iadd dX8_roads_60 ?_
    refine az_istore dX8_roads_61 (by decide) ?_
    dsimp only [List.set]
    refine az_aloadn dX8_roads_63 rfl ?_
    refine az_aloadn dX8_roads_64 rfl ?_
    refine az_getr dX8_roads_65 flX8_17 sh_391 rfl ?_
    refine az_iload dX8_roads_68 rfl ?_
    refine az_iald (4 * i) dX8_roads_70 sh_394 (by omega) (by decide) (by simp only [az_lit, nI_add, pk_mul, Nat.add_assoc]) ?_
    refine az_aloadn dX8_roads_71 rfl ?_
    refine az_getr dX8_roads_72 flX8_17 sh_391 rfl ?_
    refine az_iload dX8_roads_75 rfl ?_
    refine az_iconst (v := 1) dX8_roads_77 (by decide) ?_
    refine az_iadd dX8_roads_78 ?_
    refine az_iald (4 * i + 1) dX8_roads_79 sh_394 (by omega) (by decide) (by simp only [az_lit, nI_add, pk_mul, Nat.add_assoc]) ?_
    refine az_iload dX8_roads_80 rfl ?_
    refine az_inv3 (N := mX8_isRoad) dX8_roads_82 lkX8_81 okX8_isRoad sh_391 rfl (Nat.le_of_ble_eq_true rfl) ?_
    rw [h4]
    refine s_X8_isRoad hn' hN ?_
    try dsimp only [az_ps]
    refine az_istoren dX8_roads_85 (by decide) ?_
    dsimp only [List.set]
    refine az_iloadn dX8_roads_86 rfl ?_
    refine az_ifne (t := 93) dX8_roads_87 (by decide) (fun h87 => ?_) (fun h87 => ?_)
    rotate_left 1
    · replace h87 := zb_z h87
      rw [if_neg h87] at hR
      rw [if_neg h87]
      subst hR
      refine az_goto (t := 126) dX8_roads_90 (by decide) ?_
      refine az_iinc (w := 4) dX8_roads_126 rfl (by decide) (by decide) ?_
      dsimp only [List.set]
      refine az_goto (t := 26) dX8_roads_129 (by decide) ?_
      rw [show nI (4 * i) + 4 = nI (4 * i + 4) from nI_add (4 * i) 4]
      refine az_iload dX8_roads_26 rfl ?_
      refine az_iconst (v := 4) dX8_roads_28 (by decide) ?_
      refine az_iadd dX8_roads_29 ?_
      refine az_iloadn dX8_roads_30 rfl ?_
      refine az_icmpgt (t := 132) dX8_roads_31 (by decide) (fun _ => ?_) (fun _ => ?_)
      · exact fin m' _ _ _ hn' hI rfl
      · refine az_iloadn dX8_roads_34 rfl ?_
        refine az_ifeq (t := 132) dX8_roads_35 (by decide) (fun _ => ?_) (fun h => absurd rfl h)
        exact fin m' _ _ _ hn' hI rfl
    replace h87 := zb_n h87
    rw [if_pos h87] at hR
    rw [if_pos h87]
    refine az_iloadn dX8_roads_93 rfl ?_
    refine az_ifne (t := 101) dX8_roads_94 (by decide) (fun h94 => ?_) (fun h94 => ?_)
    · rcases hI with ⟨rfl, -⟩ | ⟨hm0, hI⟩
      · exact absurd rfl h94
      · exact goon h87 hR m' rfl h4 hI
    have hm0 : m = 0 := (nI_eq (a := m) (b := 0) (by omega) (by decide)).mp h94
    subst hm0
    have eI : m' = az_w mem 391 5 0 := by rcases hI with ⟨-, h⟩ | ⟨h, -⟩; exact h; exact absurd h (by omega)
    refine az_aloadn dX8_roads_97 rfl ?_
    refine az_inv0 (N := mX8_act) dX8_roads_98 lkX8_78 okX8_act sh_391 rfl (Nat.le_of_ble_eq_true rfl) ?_
    refine t_X8_act (t := t) (c := c) (by rw [eI]; refine ⟨?_, hH.2.1, ?_, hH.2.2.2⟩; rw [az_w_eq, if_neg (by decide)]; exact hH.1; rw [az_w_eq, if_neg (by decide)]; exact hH.2.2.1) (fun m1 hA => ?_)
    try dsimp only [az_ps]
    exact goon h87 hR m1 (hA.1 392 (by decide) (by decide)) (by rw [hA.1 394 (by decide) (by decide)]; exact h4) ⟨m1, by rw [← eI]; exact hA, fun _ _ => rfl⟩
  · rw [Nat.sub_self, zr_go] at hR
    refine az_iload dX8_roads_26 rfl ?_
    refine az_iconst (v := 4) dX8_roads_28 (by decide) ?_
    refine az_iadd dX8_roads_29 ?_
    refine az_iloadn dX8_roads_30 rfl ?_
    refine az_icmpgt (t := 132) dX8_roads_31 (by decide) (fun h31 => ?_) (fun h31 => ?_)
    rotate_left 1
    · exact absurd (show nI K < nI (4 * 100 + 4) from nI_lt (by omega) (by decide)) (by rw [← nI_add]; exact h31)
    subst hR; exact fin m' _ _ _ hn' hI rfl
end MH

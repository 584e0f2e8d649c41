/-! the class's roads -/
def zr_layc (L : Nat → Int32) (a b v : Int32) : Nat → Int32 := upd (upd L (16 * a.toNatClampNeg + b.toNatClampNeg) v) (16 * b.toNatClampNeg + a.toNatClampNeg) v
def zr_goc (n0 : Int32) (tp : Nat → Int32) (K : Nat) : Nat → Nat → (Nat → Int32) → Nat → (Nat → Int32) × Nat
  | 0, _, L, m => (L, m)
  | f + 1, k, L, m => if k + 4 ≤ K then (if zc_rd n0 L (tp k) (tp (k + 1)) (256 * tp (k + 2) + tp (k + 3)) then zr_goc n0 tp K f (k + 4) (zr_layc L (tp k) (tp (k + 1)) (256 * tp (k + 2) + tp (k + 3))) (m + 1) else (L, m)) else (L, m)
section CK
variable {X : az_X} {d : Nat} {mem : az_M} {Q : Option az_V → az_M → Prop} {N T C : Nat}
theorem s_X7_roads {n : Int32} {U : Nat} (hn : mem 1 0 = nI N) (hN : N ≤ 16) (hH : zc_H mem T C) (hZ : zc_Z mem 1) (hU : mem 369 1 = nI U) (hU2 : U ≤ 400) (hQ0 : ¬ (0 ≤ n ∧ n ≤ nI U) → Q (some (.inl (-1))) mem)
    (hQ1 : (0 ≤ n ∧ n ≤ nI U) → ∀ m', ((zr_goc (nI N) (mem 370) n.toNatClampNeg 100 0 (mem 2) 0).2 = 0 → m' = az_w mem 369 1 0) → (0 < (zr_goc (nI N) (mem 370) n.toNatClampNeg 100 0 (mem 2) 0).2 → ∃ m1, zc_act T C mem m1 ∧ m1 2 = (zr_goc (nI N) (mem 370) n.toNatClampNeg 100 0 (mem 2) 0).1 ∧ (∀ k, 1 ≤ k → k ≤ 6 → k ≠ 2 → m1 k = mem k) ∧ m' = az_w m1 369 1 0) → Q (some (.inl (nI (zr_goc (nI N) (mem 370) n.toNatClampNeg 100 0 (mem 2) 0).2))) m') : az_Sp X (d + 5) mX7_roads [.inr 0, .inl n] mem Q := by
  refine az_body (by decide +kernel) (Nat.le_of_ble_eq_true rfl) ?_
  show az_Ev X _ mX7_roads 0 [some (.inr 0), some (.inl n), none, none, none, none, none] [] mem Q
  refine az_iloadn dX7_roads_0 rfl ?_
  refine az_iflt (t := 15) dX7_roads_1 (by decide) (fun h1 => ?_) (fun h1 => ?_)
  · have hq := hQ0 (fun h => absurd h1 (Int32.not_lt.mpr h.1))
    refine az_iconst (v := -1) dX7_roads_15 (by decide) ?_
    exact az_iret dX7_roads_16 rfl hq
  refine az_iloadn dX7_roads_4 rfl ?_
  refine az_aloadn dX7_roads_5 rfl ?_
  refine az_getr dX7_roads_6 flX7_26 sh_0 rfl ?_
  refine az_geti dX7_roads_9 flX7_95 sh_369 rfl ?_
  rw [hU]
  refine az_icmple (t := 17) dX7_roads_12 (by decide) (fun h12 => ?_) (fun h12 => ?_)
  rotate_left 1
  · have hq := hQ0 (fun h => h12 h.2)
    refine az_iconst (v := -1) dX7_roads_15 (by decide) ?_
    exact az_iret dX7_roads_16 rfl hq
  refine az_iconst (v := 0) dX7_roads_17 (by decide) ?_
  refine az_istoren dX7_roads_18 (by decide) ?_
  dsimp only [List.set]
  refine az_iconst (v := 0) dX7_roads_19 (by decide) ?_
  refine az_istoren dX7_roads_20 (by decide) ?_
  dsimp only [List.set]
  skip
  have hv : 0 ≤ n ∧ n ≤ nI U := ⟨Int32.not_lt.mp h1, h12⟩
  have hQ1 := hQ1 hv
  obtain ⟨K, hK, rfl⟩ := zi_ex (x := n) (N := U + 1) (by omega) ⟨hv.1, by
    refine Int32.lt_of_le_of_lt hv.2 (nI_lt (by omega) (by omega))⟩
  rw [nI_clamp (by omega)] at hQ1
  generalize hR : zr_goc (nI N) (mem 370) K 100 0 (mem 2) 0 = R at hQ1
  have fin : ∀ (m' : az_M) (L3 L4 L5 L6 : Option az_V), ((R.2 = 0 ∧ m' = mem) ∨ (0 < R.2 ∧ ∃ m1, zc_act0 T C mem m1 ∧ ∀ k, k ≠ 2 → m' k = m1 k)) → m' 2 = R.1 → az_Ev X (d + 5) mX7_roads 126 [some (.inr 0), some (.inl (nI K)), some (.inl (nI R.2)), L3, L4, L5, L6] [] m' Q := by
    intro m' L3 L4 L5 L6 hI hS
    refine az_aloadn dX7_roads_126 rfl ?_
    refine az_getr dX7_roads_127 flX7_26 sh_0 rfl ?_
    refine az_iconst (v := 0) dX7_roads_130 (by decide) ?_
    refine az_puti dX7_roads_131 plX7_95 sh_369 rfl ?_
    refine az_iloadn dX7_roads_134 rfl ?_
    refine az_iret dX7_roads_135 rfl ?_
    refine hQ1 _ (fun h0 => ?_) (fun h0 => ?_)
    · rcases hI with ⟨-, rfl⟩ | ⟨h, -⟩
      · rfl
      · omega
    · rcases hI with ⟨h, -⟩ | ⟨-, m1, hA, hk⟩
      · omega
      · exact ⟨m', ⟨m1, hA, fun k hk2 => hk k (by omega)⟩, hS, fun k k1 k2 k3 => by rw [hk k k3]; exact zc_net_of hA (by omega), rfl⟩
  refine az_up (fun i => ∀ (m' : az_M) (m : Nat) L4 L5 L6, m ≤ i → m' 1 0 = nI N → m' 369 1 = nI U → m' 370 = mem 370 → ((m = 0 ∧ m' = mem) ∨ (0 < m ∧ ∃ m1, zc_act0 T C mem m1 ∧ ∀ k, k ≠ 2 → m' k = m1 k)) → zr_goc (nI N) (mem 370) K (100 - i) (4 * i) (m' 2) m = R → az_Ev X (d + 5) mX7_roads 21 [some (.inr 0), some (.inl (nI K)), some (.inl (nI m)), some (.inl (nI (4 * i))), L4, L5, L6] [] m' Q) 100 0 (by omega) (fun i _ hi ih m' m L4 L5 L6 hm hn' hU' h4 hI hR => ?_) (fun m' m L4 L5 L6 hm hn' hU' h4 hI hR => ?_) mem 0 none none none (by omega) hn hU rfl (Or.inl ⟨rfl, rfl⟩) hR
  · rw [zs_sub hi, zr_goc] at hR
    have goon : zc_rd (nI N) (m' 2) (mem 370 (4 * i)) (mem 370 (4 * i + 1)) (256 * mem 370 (4 * i + 2) + mem 370 (4 * i + 3)) → zr_goc (nI N) (mem 370) K (100 - (i + 1)) (4 * i + 4) (zr_layc (m' 2) (mem 370 (4 * i)) (mem 370 (4 * i + 1)) (256 * mem 370 (4 * i + 2) + mem 370 (4 * i + 3))) (m + 1) = R → ∀ m2 : az_M, m2 2 = m' 2 → m2 1 0 = nI N → m2 369 1 = nI U → m2 370 = mem 370 → (∃ m1, zc_act0 T C mem m1 ∧ ∀ k, k ≠ 2 → m2 k = m1 k) → az_Ev X (d + 5) mX7_roads 104 [some (.inr 0), some (.inl (nI K)), some (.inl (nI m)), some (.inl (nI (4 * i))), some (.inl (mem 370 (4 * i))), some (.inl (mem 370 (4 * i + 1))), some (.inl (256 * mem 370 (4 * i + 2) + mem 370 (4 * i + 3)))] [] m2 Q := by
      intro hrd hgo m2 e2 en eu e4 hI2
      have ea := zi_of (N := N) (by omega) hrd.1
      have eb := zi_of (N := N) (by omega) hrd.2.1
      refine az_aloadn dX7_roads_104 rfl ?_
      refine az_getr dX7_roads_105 flX7_12 sh_0 rfl ?_
      refine az_iload dX7_roads_108 rfl ?_
      refine az_iload dX7_roads_110 rfl ?_
      refine az_iload dX7_roads_112 rfl ?_
      refine az_inv3 (N := mX2_layRoad) dX7_roads_114 lkX7_76 okX2_layRoad sh_1 rfl (Nat.le_of_ble_eq_true rfl) ?_
      refine s_X2_layRoad ea.2 eb.2 (by omega) (by omega) ?_
      try dsimp only [az_ps]
      refine az_iinc (w := 1) dX7_roads_117 rfl (by decide) (by decide) ?_
      dsimp only [List.set]
      refine az_iinc (w := 4) dX7_roads_120 rfl (by decide) (by decide) ?_
      dsimp only [List.set]
      refine az_goto (t := 21) dX7_roads_123 (by decide) ?_
      rw [nI_1, show nI (4 * i) + 4 = nI (4 * (i + 1)) from nI_add (4 * i) 4]
      refine ih _ (m + 1) _ _ _ (by omega) (by rw [az_w_ne _ (by decide), az_w_ne _ (by decide)]; exact en) (by rw [az_w_ne _ (by decide), az_w_ne _ (by decide)]; exact eu) (by rw [az_w_ne _ (by decide), az_w_ne _ (by decide)]; exact e4) (Or.inr ⟨by omega, ?_⟩) ?_
      · obtain ⟨m1, hA, hk⟩ := hI2
        exact ⟨m1, hA, fun k k1 => by rw [az_w_ne _ k1, az_w_ne _ k1]; exact hk k k1⟩
      · rw [az_w_same, az_w_same, e2]; exact hgo
    refine az_iloadn dX7_roads_21 rfl ?_
    refine az_iconst (v := 4) dX7_roads_22 (by decide) ?_
    refine az_iadd dX7_roads_23 ?_
    refine az_iloadn dX7_roads_24 rfl ?_
    rw [show nI (4 * i) + 4 = nI (4 * i + 4) from nI_add (4 * i) 4]
    refine az_icmpgt (t := 126) dX7_roads_25 (by decide) (fun h25 => ?_) (fun h25 => ?_)
    · rw [if_neg (fun h => absurd h25 (nI_nlt h (by omega)))] at hR
      subst hR
      exact fin m' _ _ _ _ hI rfl
    have hk4 : 4 * i + 4 ≤ K := by rcases Nat.lt_or_ge K (4 * i + 4) with q | q; exact absurd (nI_lt q (by omega)) h25; exact q
    rw [if_pos hk4] at hR
    refine az_aloadn dX7_roads_28 rfl ?_
    refine az_getr dX7_roads_29 flX7_26 sh_0 rfl ?_
    refine az_iloadn dX7_roads_32 rfl ?_
    refine az_inv1 (N := mX6_byteAt) dX7_roads_33 lkX7_98 okX6_byteAt sh_369 rfl (Nat.le_of_ble_eq_true rfl) ?_
    refine s_X6_byteAt (i := 4 * i) hU' hU2 (by omega) ?_
    rw [h4]
    try dsimp only [az_ps]
    refine az_istore dX7_roads_36 (by decide) ?_
    dsimp only [List.set]
    refine az_aloadn dX7_roads_38 rfl ?_
    refine az_getr dX7_roads_39 flX7_26 sh_0 rfl ?_
    refine az_iloadn dX7_roads_42 rfl ?_
    refine az_pc 43 (by decide) ?_
    refine az_iconst (v := 1) dX7_roads_43 (by decide) ?_
    refine az_iadd dX7_roads_44 ?_
    refine az_inv1 (N := mX6_byteAt) dX7_roads_45 lkX7_98 okX6_byteAt sh_369 rfl (Nat.le_of_ble_eq_true rfl) ?_
    rw [nI_1]
    refine s_X6_byteAt (i := 4 * i + 1) hU' hU2 (by omega) ?_
    rw [h4]
    try dsimp only [az_ps]
    refine az_istore dX7_roads_48 (by decide) ?_
    dsimp only [List.set]
    refine az_sipush (v := 256) dX7_roads_50 (by decide) ?_
    refine az_aloadn dX7_roads_53 rfl ?_
    refine az_getr dX7_roads_54 flX7_26 sh_0 rfl ?_
    refine az_iloadn dX7_roads_57 rfl ?_
    refine az_iconst (v := 2) dX7_roads_58 (by decide) ?_
    refine az_iadd dX7_roads_59 ?_
    refine az_inv1 (N := mX6_byteAt) dX7_roads_60 lkX7_98 okX6_byteAt sh_369 rfl (Nat.le_of_ble_eq_true rfl) ?_
    rw [show nI (4 * i) + 2 = nI (4 * i + 2) from nI_add (4 * i) 2]
    refine s_X6_byteAt (i := 4 * i + 2) hU' hU2 (by omega) ?_
    rw [h4]
    try dsimp only [az_ps]
    refine az_imul dX7_roads_63 ?_
    refine az_aloadn dX7_roads_64 rfl ?_
    refine az_getr dX7_roads_65 flX7_26 sh_0 rfl ?_
    refine az_pc 68 (by decide) ?_
    refine az_iloadn dX7_roads_68 rfl ?_
    refine az_iconst (v := 3) dX7_roads_69 (by decide) ?_
    refine az_iadd dX7_roads_70 ?_
    refine az_inv1 (N := mX6_byteAt) dX7_roads_71 lkX7_98 okX6_byteAt sh_369 rfl (Nat.le_of_ble_eq_true rfl) ?_
    rw [show nI (4 * i) + 3 = nI (4 * i + 3) from nI_add (4 * i) 3]
    refine s_X6_byteAt (i := 4 * i + 3) hU' hU2 (by omega) ?_
    rw [h4]
    try dsimp only [az_ps]
    refine az_iadd dX7_roads_74 ?_
    refine az_istore dX7_roads_75 (by decide) ?_
    dsimp only [List.set]
    refine az_aloadn dX7_roads_77 rfl ?_
    refine az_getr dX7_roads_78 flX7_12 sh_0 rfl ?_
    refine az_iload dX7_roads_81 rfl ?_
    refine az_iload dX7_roads_83 rfl ?_
    refine az_iload dX7_roads_85 rfl ?_
    refine az_inv3 (N := mX2_roadCanBe) dX7_roads_87 lkX7_72 okX2_roadCanBe sh_1 rfl (Nat.le_of_ble_eq_true rfl) ?_
    refine s_X2_roadCanBe hn' hN ?_
    rw [hn']
    try dsimp only [az_ps]
    refine az_ifne (t := 96) dX7_roads_90 (by decide) (fun h90 => ?_) (fun h90 => ?_)
    rotate_left 1
    · replace h90 := zb_z h90
      rw [if_neg h90] at hR
      subst hR
      refine az_goto (t := 126) dX7_roads_93 (by decide) ?_
      exact fin m' _ _ _ _ hI rfl
    replace h90 := zb_n h90
    rw [if_pos h90] at hR
    refine az_iloadn dX7_roads_96 rfl ?_
    refine az_pc 97 (by decide) ?_
    refine az_ifne (t := 104) dX7_roads_97 (by decide) (fun h97 => ?_) (fun h97 => ?_)
    · rcases hI with ⟨rfl, -⟩ | ⟨hm0, hI⟩
      · exact absurd rfl h97
      · exact goon h90 hR m' rfl hn' hU' h4 hI
    have hm0 : m = 0 := (nI_eq (a := m) (b := 0) (by omega) (by decide)).mp h97
    subst hm0
    have eI : m' = mem := by rcases hI with ⟨-, h⟩ | ⟨h, -⟩; exact h; exact absurd h (by omega)
    subst eI
    refine az_aloadn dX7_roads_100 rfl ?_
    refine az_inv0 (N := mX7_beforeAct) dX7_roads_101 lkX7_69 okX7_beforeAct sh_0 rfl (Nat.le_of_ble_eq_true rfl) ?_
    refine s_X7_beforeAct hH hZ (fun m1 hA => ?_)
    try dsimp only [az_ps]
    have hk0 : ∀ k, 369 ≤ k → m1 k = m' k := fun k hk => by
        obtain ⟨m0, h0, rfl⟩ := hA
        have := hH.2.1
        rw [az_w_ne _ (by omega)]
        exact h0.1 k (by omega) (by omega)
    exact goon h90 hR m1 (zc_net_of hA (by omega)) (by rw [zc_net_of hA (by omega)]; exact hn) (by rw [hk0 369 (by decide)]; exact hU) (hk0 370 (by decide)) ⟨m1, hA, fun _ _ => rfl⟩
  · rw [Nat.sub_self, zr_goc] at hR
    refine az_iloadn dX7_roads_21 rfl ?_
    refine az_iconst (v := 4) dX7_roads_22 (by decide) ?_
    refine az_iadd dX7_roads_23 ?_
    refine az_iloadn dX7_roads_24 rfl ?_
    refine az_icmpgt (t := 126) dX7_roads_25 (by decide) (fun h25 => ?_) (fun h25 => ?_)
    rotate_left 1
    · exact absurd (show nI K < nI (4 * 100 + 4) from nI_lt (by omega) (by decide)) (by rw [← nI_add]; exact h25)
    subst hR; exact fin m' _ _ _ _ hI rfl
end CK

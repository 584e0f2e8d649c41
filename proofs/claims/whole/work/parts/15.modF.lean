/-! the model's acts -/
/-- ways and answers are those of the state -/
def zF (mem : az_M) (N : Nat) : Prop := (∃ old, mem 395 = zw_k N N 0 (zw_00 (zm_len (mem 392)) old)) ∧ ∀ a b, a < N → b < N → mem 396 (16 * a + b) = zs_says (mem 392) (mem 395) a b
def zm_act0 (t c : Nat) (mem m' : az_M) : Prop := (∀ k, k ≠ 391 → k ≠ 393 → m' k = mem k) ∧ (∀ j, m' 391 j = if j = 3 then nI ((t + 1) % 60) else if j = 2 then nI (if c < 60 then c + 1 else c) else mem 391 j) ∧ (∀ k, k < 600 → m' 393 (600 * ((t + 1) % 60) + k) = mem 392 k) ∧ (∀ i k, i < 60 → i ≠ (t + 1) % 60 → k < 600 → m' 393 (600 * i + k) = mem 393 (600 * i + k))
def zm_act (t c : Nat) (mem m' : az_M) : Prop := ∃ m1, zm_act0 t c mem m1 ∧ ∀ k, k ≠ 392 → k ≠ 395 → k ≠ 396 → m' k = m1 k
/-- the state's numbers of the past -/
def zm_H (mem : az_M) (t c : Nat) : Prop := mem 391 3 = nI t ∧ t < 60 ∧ mem 391 2 = nI c ∧ c ≤ 60
theorem zs_says_keep {S S' w : Nat → Int32} {a b : Nat} (ha : a < 16) (hb : b < 16) (h1 : S' 1 = S 1) (h2 : S' 2 = S 2) (hl : ∀ i, i < 256 → S' (7 + i) = S (7 + i)) (hr : ∀ i, i < 16 → S' (263 + i) = S (263 + i)) : zs_says S' w a b = zs_says S w a b := by
  unfold zs_says zm_len
  rw [h1, h2, hl _ (by omega), hr _ ha]
theorem zw_00_keep {S S' old : Nat → Int32} (hl : ∀ i, i < 256 → S' (7 + i) = S (7 + i)) : zw_00 (zm_len S') old = zw_00 (zm_len S) old := by
  funext i
  unfold zw_00 zw_0 zm_len
  by_cases h : i < 256
  · rw [if_pos h, if_pos h, hl i h]
  · rw [if_neg h, if_neg h]
theorem zF_keep {mem m' : az_M} {N : Nat} (hN : N ≤ 16) (h : zF mem N) (h5 : m' 395 = mem 395) (h6 : m' 396 = mem 396) (h1 : m' 392 1 = mem 392 1) (h2 : m' 392 2 = mem 392 2) (hl : ∀ i, i < 256 → m' 392 (7 + i) = mem 392 (7 + i)) (hr : ∀ i, i < 16 → m' 392 (263 + i) = mem 392 (263 + i)) : zF m' N := by
  obtain ⟨⟨old, ho⟩, ha⟩ := h
  refine ⟨⟨old, by rw [h5, zw_00_keep hl]; exact ho⟩, fun a b h3 h4 => ?_⟩
  rw [h6, h5, ha a b h3 h4, zs_says_keep (by omega) (by omega) h1 h2 hl hr]
theorem upd_ne {f : Nat → Int32} {k j : Nat} {v : Int32} (h : j ≠ k) : upd f k v j = f j := if_neg h
theorem upd_eq {f : Nat → Int32} {k : Nat} {v : Int32} : upd f k v k = v := if_pos rfl
section MF
variable {X : az_X} {d : Nat} {mem : az_M} {Q : Option az_V → az_M → Prop} {N t c : Nat}
theorem t_X8_act (h : zm_H mem t c) (hQ : ∀ m', zm_act0 t c mem m' → Q none m') : az_Sp X (d + 1) mX8_act [.inr 391] mem Q :=
  s_X8_act h.1 h.2.1 h.2.2.1 h.2.2.2 (fun m' h1 h2 h3 h4 => hQ m' ⟨h1, h2, h3, h4⟩)
theorem t_X8_walk (hn : mem 392 0 = nI N) (hN : N ≤ 16) (hQ : ∀ m', (∀ k, k ≠ 395 → k ≠ 396 → m' k = mem k) → zF m' N → Q none m') : az_Sp X (d + 2) mX8_walk [.inr 391] mem Q :=
  s_X8_walk hn hN (fun m' h1 h2 h3 => hQ m' h1 ⟨⟨mem 395, by rw [h1 392 (by decide) (by decide)]; exact h2⟩, fun a b ha hb => by rw [h1 392 (by decide) (by decide)]; exact h3 a b ha hb⟩)
theorem t_X8_lay {a b v : Int32} {A B : Nat} (ea : a = nI A) (eb : b = nI B) (ha : A < 16) (hb : B < 16) (hQ : Q none (az_w (az_w mem 392 (7 + (16 * A + B)) v) 392 (7 + (16 * B + A)) v)) : az_Sp X d mX8_lay [.inr 391, .inl a, .inl b, .inl v] mem Q := by
  subst ea; subst eb; exact s_X8_lay ha hb hQ
theorem s_X8_post (hn : mem 392 0 = nI N) (hN : N ≤ 16) (hH : zm_H mem t c) (hQ0 : N = 16 → Q (some (.inl (-1))) mem) (hQ1 : N < 16 → ∀ m', zm_act t c mem m' → m' 392 = upd (upd (upd (mem 392) (279 + N) 1) (295 + N) 1) 0 (nI (N + 1)) → zF m' (N + 1) → Q (some (.inl (nI N))) m') : az_Sp X (d + 3) mX8_post [.inr 391] mem Q := by
  refine az_body (by decide +kernel) (Nat.le_of_ble_eq_true rfl) ?_
  show az_Ev X _ mX8_post 0 [some (.inr 391)] [] mem Q
  refine az_aloadn dX8_post_0 rfl ?_
  refine az_inv0 (N := mX8_n) dX8_post_1 lkX8_62 okX8_n sh_391 rfl (Nat.le_of_ble_eq_true rfl) ?_
  refine t_X8_n hn ?_
  try dsimp only [az_ps]
  refine az_bipush (v := 16) dX8_post_4 (by decide) ?_
  refine az_icmpne (t := 11) dX8_post_6 (by decide) (fun h6 => ?_) (fun h6 => ?_)
  · have h16 : N < 16 := by rcases Nat.lt_or_ge N 16 with q | q; exact q; exact absurd (by rw [show N = 16 by omega]; rfl) h6
    refine az_aloadn dX8_post_11 rfl ?_
    refine az_inv0 (N := mX8_act) dX8_post_12 lkX8_78 okX8_act sh_391 rfl (Nat.le_of_ble_eq_true rfl) ?_
    refine t_X8_act hH (fun m1 hA => ?_)
    have e2 : m1 392 = mem 392 := hA.1 392 (by decide) (by decide)
    try dsimp only [az_ps]
    refine az_aloadn dX8_post_15 rfl ?_
    refine az_aloadn dX8_post_16 rfl ?_
    refine az_inv0 (N := mX8_n) dX8_post_17 lkX8_62 okX8_n sh_391 rfl (Nat.le_of_ble_eq_true rfl) ?_
    refine t_X8_n (N := N) (by rw [e2]; exact hn) ?_
    try dsimp only [az_ps]
    refine az_inv1 (N := mX8_first) dX8_post_20 lkX8_48 okX8_first sh_391 rfl (Nat.le_of_ble_eq_true rfl) ?_
    refine s_X8_first h16 ?_
    try dsimp only [az_ps]
    refine az_aloadn dX8_post_23 rfl ?_
    refine az_getr dX8_post_24 flX8_7 sh_391 rfl ?_
    refine az_iconst (v := 0) dX8_post_27 (by decide) ?_
    refine az_dup2 dX8_post_28 ?_
    refine az_iald (0) dX8_post_29 sh_392 (by omega) (by decide) (by simp only [az_lit, nI_add, pk_mul, Nat.add_assoc]) ?_
    rw [show az_w (az_w m1 392 (279 + N) 1) 392 (295 + N) 1 392 0 = nI N by rw [az_w_same, upd_ne (by omega), az_w_same, upd_ne (by omega), e2]; exact hn]
    refine az_iconst (v := 1) dX8_post_30 (by decide) ?_
    refine az_iadd dX8_post_31 ?_
    refine az_iast (0) dX8_post_32 sh_392 (by omega) (by decide) (by simp only [az_lit, nI_add, pk_mul, Nat.add_assoc]) ?_
    refine az_aloadn dX8_post_33 rfl ?_
    refine az_inv0 (N := mX8_walk) dX8_post_34 lkX8_52 okX8_walk sh_391 rfl (Nat.le_of_ble_eq_true rfl) ?_
    rw [nI_1]
    refine t_X8_walk (N := N + 1) (by rw [az_w_same, upd_eq]) (by omega) (fun m2 hf hF => ?_)
    have e3 : m2 392 = upd (upd (upd (mem 392) (279 + N) 1) (295 + N) 1) 0 (nI (N + 1)) := by rw [hf 392 (by decide) (by decide), az_w_same, az_w_same, az_w_same, e2]
    try dsimp only [az_ps]
    refine az_aloadn dX8_post_37 rfl ?_
    refine az_inv0 (N := mX8_n) dX8_post_38 lkX8_62 okX8_n sh_391 rfl (Nat.le_of_ble_eq_true rfl) ?_
    refine t_X8_n (N := N + 1) (by rw [e3, upd_eq]) ?_
    try dsimp only [az_ps]
    refine az_iconst (v := 1) dX8_post_41 (by decide) ?_
    refine az_isub dX8_post_42 ?_
    refine az_iret dX8_post_43 rfl ?_
    rw [nI_pred]
    exact hQ1 h16 m2 ⟨m1, hA, fun k k1 k2 k3 => by rw [hf k k2 k3, az_w_ne _ k1, az_w_ne _ k1, az_w_ne _ k1]⟩ e3 hF
  · have h16 : N = 16 := (nI_eq (a := N) (b := 16) (by omega) (by decide)).mp h6
    refine az_iconst (v := -1) dX8_post_9 (by decide) ?_
    refine az_iret dX8_post_10 rfl ?_
    exact hQ0 h16
theorem s_X8_road {a b v : Int32} (hn : mem 392 0 = nI N) (hN : N ≤ 16) (hH : zm_H mem t c) (hQ0 : ¬ zm_rd (mem 392) a b v → Q (some (.inl 0)) mem) (hQ1 : zm_rd (mem 392) a b v → ∀ m', zm_act t c mem m' → m' 392 = upd (upd (mem 392) (7 + (16 * a.toNatClampNeg + b.toNatClampNeg)) v) (7 + (16 * b.toNatClampNeg + a.toNatClampNeg)) v → zF m' N → Q (some (.inl 1)) m') : az_Sp X (d + 3) mX8_road [.inr 391, .inl a, .inl b, .inl v] mem Q := by
  classical
  refine az_body (by decide +kernel) (Nat.le_of_ble_eq_true rfl) ?_
  show az_Ev X _ mX8_road 0 [some (.inr 391), some (.inl a), some (.inl b), some (.inl v)] [] mem Q
  refine az_aloadn dX8_road_0 rfl ?_
  refine az_iloadn dX8_road_1 rfl ?_
  refine az_iloadn dX8_road_2 rfl ?_
  refine az_iloadn dX8_road_3 rfl ?_
  refine az_inv3 (N := mX8_isRoad) dX8_road_4 lkX8_81 okX8_isRoad sh_391 rfl (Nat.le_of_ble_eq_true rfl) ?_
  refine s_X8_isRoad hn hN ?_
  try dsimp only [az_ps]
  refine az_ifne (t := 12) dX8_road_7 (by decide) (fun h7 => ?_) (fun h7 => ?_)
  · replace h7 := zb_n h7
    refine az_aloadn dX8_road_12 rfl ?_
    refine az_inv0 (N := mX8_act) dX8_road_13 lkX8_78 okX8_act sh_391 rfl (Nat.le_of_ble_eq_true rfl) ?_
    refine t_X8_act hH (fun m1 hA => ?_)
    have e2 : m1 392 = mem 392 := hA.1 392 (by decide) (by decide)
    have ea := zi_of (N := N) (by omega) (by rw [← hn]; exact h7.1)
    have eb := zi_of (N := N) (by omega) (by rw [← hn]; exact h7.2.1)
    try dsimp only [az_ps]
    refine az_aloadn dX8_road_16 rfl ?_
    refine az_iloadn dX8_road_17 rfl ?_
    refine az_iloadn dX8_road_18 rfl ?_
    refine az_iloadn dX8_road_19 rfl ?_
    refine az_inv3 (N := mX8_lay) dX8_road_20 lkX8_85 okX8_lay sh_391 rfl (Nat.le_of_ble_eq_true rfl) ?_
    refine t_X8_lay ea.2 eb.2 (by omega) (by omega) ?_
    try dsimp only [az_ps]
    refine az_aloadn dX8_road_23 rfl ?_
    refine az_inv0 (N := mX8_walk) dX8_road_24 lkX8_52 okX8_walk sh_391 rfl (Nat.le_of_ble_eq_true rfl) ?_
    refine t_X8_walk (N := N) (by rw [az_w_same, upd_ne (by omega), az_w_same, upd_ne (by omega), e2]; exact hn) (by omega) (fun m2 hf hF => ?_)
    try dsimp only [az_ps]
    refine az_iconst (v := 1) dX8_road_27 (by decide) ?_
    refine az_zret dX8_road_28 rfl (by first | exact Or.inl rfl | exact Or.inr rfl | assumption) ?_
    exact hQ1 h7 m2 ⟨m1, hA, fun k k1 k2 k3 => by rw [hf k k2 k3, az_w_ne _ k1, az_w_ne _ k1]⟩ (by rw [hf 392 (by decide) (by decide), az_w_same, az_w_same, e2]) hF
  · replace h7 := zb_z h7
    refine az_iconst (v := 0) dX8_road_10 (by decide) ?_
    refine az_zret dX8_road_11 rfl (by first | exact Or.inl rfl | exact Or.inr rfl | assumption) ?_
    exact hQ0 h7
def zm_cut (S : Nat → Int32) (a b : Int32) : Prop := (0 ≤ a ∧ a < S 0) ∧ (0 ≤ b ∧ b < S 0) ∧ zm_len S (16 * a.toNatClampNeg + b.toNatClampNeg) ≠ 0
theorem s_X8_cut {a b : Int32} (hn : mem 392 0 = nI N) (hN : N ≤ 16) (hH : zm_H mem t c) (hQ0 : ¬ zm_cut (mem 392) a b → Q (some (.inl 0)) mem) (hQ1 : zm_cut (mem 392) a b → ∀ m', zm_act t c mem m' → m' 392 = upd (upd (mem 392) (7 + (16 * a.toNatClampNeg + b.toNatClampNeg)) 0) (7 + (16 * b.toNatClampNeg + a.toNatClampNeg)) 0 → zF m' N → Q (some (.inl 1)) m') : az_Sp X (d + 3) mX8_cut [.inr 391, .inl a, .inl b] mem Q := by
  refine az_body (by decide +kernel) (Nat.le_of_ble_eq_true rfl) ?_
  show az_Ev X _ mX8_cut 0 [some (.inr 391), some (.inl a), some (.inl b)] [] mem Q
  refine az_aloadn dX8_cut_0 rfl ?_
  refine az_iloadn dX8_cut_1 rfl ?_
  refine az_inv1 (N := mX8_isPost) dX8_cut_2 lkX8_66 okX8_isPost sh_391 rfl (Nat.le_of_ble_eq_true rfl) ?_
  refine s_X8_isPost ?_
  try dsimp only [az_ps]
  refine az_ifeq (t := 25) dX8_cut_5 (by decide) (fun h5 => ?_) (fun h5 => ?_)
  · replace h5 := zb_z h5
    have hq := hQ0 (fun h => h5 h.1)
    refine az_iconst (v := 0) dX8_cut_25 (by decide) ?_
    refine az_zret dX8_cut_26 rfl (by first | exact Or.inl rfl | exact Or.inr rfl | assumption) ?_
    exact hq
  · replace h5 := zb_n h5
    refine az_aloadn dX8_cut_8 rfl ?_
    refine az_iloadn dX8_cut_9 rfl ?_
    refine az_inv1 (N := mX8_isPost) dX8_cut_10 lkX8_66 okX8_isPost sh_391 rfl (Nat.le_of_ble_eq_true rfl) ?_
    refine s_X8_isPost ?_
    try dsimp only [az_ps]
    refine az_ifeq (t := 25) dX8_cut_13 (by decide) (fun h13 => ?_) (fun h13 => ?_)
    · replace h13 := zb_z h13
      have hq := hQ0 (fun h => h13 h.2.1)
      refine az_iconst (v := 0) dX8_cut_25 (by decide) ?_
      refine az_zret dX8_cut_26 rfl (by first | exact Or.inl rfl | exact Or.inr rfl | assumption) ?_
      exact hq
    · replace h13 := zb_n h13
      have ea := zi_of (N := N) (by omega) (by rw [← hn]; exact h5)
      have eb := zi_of (N := N) (by omega) (by rw [← hn]; exact h13)
      refine az_aloadn dX8_cut_16 rfl ?_
      refine az_iloadn dX8_cut_17 rfl ?_
      refine az_iloadn dX8_cut_18 rfl ?_
      refine az_inv2 (N := mX8_length) dX8_cut_19 lkX8_70 okX8_length sh_391 rfl (Nat.le_of_ble_eq_true rfl) ?_
      refine t_X8_length ea.2 eb.2 (by omega) (by omega) ?_
      try dsimp only [az_ps]
      refine az_ifne (t := 27) dX8_cut_22 (by decide) (fun h22 => ?_) (fun h22 => ?_)
      · refine az_aloadn dX8_cut_27 rfl ?_
        refine az_inv0 (N := mX8_act) dX8_cut_28 lkX8_78 okX8_act sh_391 rfl (Nat.le_of_ble_eq_true rfl) ?_
        refine t_X8_act hH (fun m1 hA => ?_)
        have e2 : m1 392 = mem 392 := hA.1 392 (by decide) (by decide)
        try dsimp only [az_ps]
        refine az_aloadn dX8_cut_31 rfl ?_
        refine az_iloadn dX8_cut_32 rfl ?_
        refine az_iloadn dX8_cut_33 rfl ?_
        refine az_iconst (v := 0) dX8_cut_34 (by decide) ?_
        refine az_inv3 (N := mX8_lay) dX8_cut_35 lkX8_85 okX8_lay sh_391 rfl (Nat.le_of_ble_eq_true rfl) ?_
        refine t_X8_lay ea.2 eb.2 (by omega) (by omega) ?_
        try dsimp only [az_ps]
        refine az_aloadn dX8_cut_38 rfl ?_
        refine az_inv0 (N := mX8_walk) dX8_cut_39 lkX8_52 okX8_walk sh_391 rfl (Nat.le_of_ble_eq_true rfl) ?_
        refine t_X8_walk (N := N) (by rw [az_w_same, upd_ne (by omega), az_w_same, upd_ne (by omega), e2]; exact hn) (by omega) (fun m2 hf hF => ?_)
        try dsimp only [az_ps]
        refine az_iconst (v := 1) dX8_cut_42 (by decide) ?_
        refine az_zret dX8_cut_43 rfl (by first | exact Or.inl rfl | exact Or.inr rfl | assumption) ?_
        exact hQ1 ⟨h5, h13, h22⟩ m2 ⟨m1, hA, fun k k1 k2 k3 => by rw [hf k k2 k3, az_w_ne _ k1, az_w_ne _ k1]⟩ (by rw [hf 392 (by decide) (by decide), az_w_same, az_w_same, e2]) hF
      · have hq := hQ0 (fun h => h.2.2 h22)
        refine az_iconst (v := 0) dX8_cut_25 (by decide) ?_
        refine az_zret dX8_cut_26 rfl (by first | exact Or.inl rfl | exact Or.inr rfl | assumption) ?_
        exact hq
theorem s_X8_reach {p v : Int32} (hn : mem 392 0 = nI N) (hN : N ≤ 16) (hH : zm_H mem t c) (hQ0 : ¬ ((0 ≤ p ∧ p < nI N) ∧ 0 ≤ v ∧ v ≤ 20000) → Q (some (.inl 0)) mem) (hQ1 : ((0 ≤ p ∧ p < nI N) ∧ 0 ≤ v ∧ v ≤ 20000) → ∀ m', zm_act t c mem m' → m' 392 = upd (mem 392) (263 + p.toNatClampNeg) v → zF m' N → Q (some (.inl 1)) m') : az_Sp X (d + 3) mX8_reach [.inr 391, .inl p, .inl v] mem Q := by
  refine az_body (by decide +kernel) (Nat.le_of_ble_eq_true rfl) ?_
  show az_Ev X _ mX8_reach 0 [some (.inr 391), some (.inl p), some (.inl v)] [] mem Q
  refine az_aloadn dX8_reach_0 rfl ?_
  refine az_iloadn dX8_reach_1 rfl ?_
  refine az_inv1 (N := mX8_isPost) dX8_reach_2 lkX8_66 okX8_isPost sh_391 rfl (Nat.le_of_ble_eq_true rfl) ?_
  refine s_X8_isPost ?_
  rw [hn]
  try dsimp only [az_ps]
  refine az_ifeq (t := 19) dX8_reach_5 (by decide) (fun h5 => ?_) (fun h5 => ?_)
  · replace h5 := zb_z h5
    have hq := hQ0 (fun h => h5 h.1)
    refine az_iconst (v := 0) dX8_reach_19 (by decide) ?_
    refine az_zret dX8_reach_20 rfl (by first | exact Or.inl rfl | exact Or.inr rfl | assumption) ?_
    exact hq
  · replace h5 := zb_n h5
    refine az_iloadn dX8_reach_8 rfl ?_
    refine az_iflt (t := 19) dX8_reach_9 (by decide) (fun h9 => ?_) (fun h9 => ?_)
    · have hq := hQ0 (fun h => absurd h9 (Int32.not_lt.mpr h.2.1))
      refine az_iconst (v := 0) dX8_reach_19 (by decide) ?_
      refine az_zret dX8_reach_20 rfl (by first | exact Or.inl rfl | exact Or.inr rfl | assumption) ?_
      exact hq
    · refine az_iloadn dX8_reach_12 rfl ?_
      refine az_sipush (v := 20000) dX8_reach_13 (by decide) ?_
      refine az_icmple (t := 21) dX8_reach_16 (by decide) (fun h16 => ?_) (fun h16 => ?_)
      · have hQ1 := hQ1 ⟨h5, Int32.not_lt.mp h9, h16⟩
        obtain ⟨P, hP, rfl⟩ := zi_ex (by omega) h5
        rw [nI_clamp (by omega)] at hQ1
        refine az_aloadn dX8_reach_21 rfl ?_
        refine az_inv0 (N := mX8_act) dX8_reach_22 lkX8_78 okX8_act sh_391 rfl (Nat.le_of_ble_eq_true rfl) ?_
        refine t_X8_act hH (fun m1 hA => ?_)
        have e2 : m1 392 = mem 392 := hA.1 392 (by decide) (by decide)
        try dsimp only [az_ps]
        refine az_aloadn dX8_reach_25 rfl ?_
        refine az_getr dX8_reach_26 flX8_7 sh_391 rfl ?_
        refine az_sipush (v := 263) dX8_reach_29 (by decide) ?_
        refine az_iloadn dX8_reach_32 rfl ?_
        refine az_iadd dX8_reach_33 ?_
        refine az_iloadn dX8_reach_34 rfl ?_
        refine az_iast (263 + P) dX8_reach_35 sh_392 (by omega) (by decide) (by simp only [az_lit, nI_add, pk_mul, Nat.add_assoc]) ?_
        refine az_aloadn dX8_reach_36 rfl ?_
        refine az_inv0 (N := mX8_walk) dX8_reach_37 lkX8_52 okX8_walk sh_391 rfl (Nat.le_of_ble_eq_true rfl) ?_
        refine t_X8_walk (N := N) (by rw [az_w_same, upd_ne (by omega), e2]; exact hn) (by omega) (fun m2 hf hF => ?_)
        try dsimp only [az_ps]
        refine az_iconst (v := 1) dX8_reach_40 (by decide) ?_
        refine az_zret dX8_reach_41 rfl (by first | exact Or.inl rfl | exact Or.inr rfl | assumption) ?_
        exact hQ1 m2 ⟨m1, hA, fun k k1 k2 k3 => by rw [hf k k2 k3, az_w_ne _ k1]⟩ (by rw [hf 392 (by decide) (by decide), az_w_same, e2]) hF
      · have hq := hQ0 (fun h => h16 h.2.2)
        refine az_iconst (v := 0) dX8_reach_19 (by decide) ?_
        refine az_zret dX8_reach_20 rfl (by first | exact Or.inl rfl | exact Or.inr rfl | assumption) ?_
        exact hq
theorem s_X8_price {p v : Int32} (hn : mem 392 0 = nI N) (hN : N ≤ 16) (hH : zm_H mem t c) (hF : zF mem N) (hQ0 : ¬ ((0 ≤ p ∧ p < nI N) ∧ 1 ≤ v ∧ v ≤ 1000) → Q (some (.inl 0)) mem) (hQ1 : ((0 ≤ p ∧ p < nI N) ∧ 1 ≤ v ∧ v ≤ 1000) → ∀ m', zm_act t c mem m' → m' 392 = upd (mem 392) (279 + p.toNatClampNeg) v → zF m' N → Q (some (.inl 1)) m') : az_Sp X (d + 2) mX8_price [.inr 391, .inl p, .inl v] mem Q := by
  refine az_body (by decide +kernel) (Nat.le_of_ble_eq_true rfl) ?_
  show az_Ev X _ mX8_price 0 [some (.inr 391), some (.inl p), some (.inl v)] [] mem Q
  refine az_aloadn dX8_price_0 rfl ?_
  refine az_iloadn dX8_price_1 rfl ?_
  refine az_inv1 (N := mX8_isPost) dX8_price_2 lkX8_66 okX8_isPost sh_391 rfl (Nat.le_of_ble_eq_true rfl) ?_
  refine s_X8_isPost ?_
  rw [hn]
  try dsimp only [az_ps]
  refine az_ifeq (t := 20) dX8_price_5 (by decide) (fun h5 => ?_) (fun h5 => ?_)
  · replace h5 := zb_z h5
    have hq := hQ0 (fun h => h5 h.1)
    refine az_iconst (v := 0) dX8_price_20 (by decide) ?_
    refine az_zret dX8_price_21 rfl (by first | exact Or.inl rfl | exact Or.inr rfl | assumption) ?_
    exact hq
  · replace h5 := zb_n h5
    refine az_iloadn dX8_price_8 rfl ?_
    refine az_iconst (v := 1) dX8_price_9 (by decide) ?_
    refine az_icmplt (t := 20) dX8_price_10 (by decide) (fun h10 => ?_) (fun h10 => ?_)
    · have hq := hQ0 (fun h => absurd h10 (Int32.not_lt.mpr h.2.1))
      refine az_iconst (v := 0) dX8_price_20 (by decide) ?_
      refine az_zret dX8_price_21 rfl (by first | exact Or.inl rfl | exact Or.inr rfl | assumption) ?_
      exact hq
    · refine az_iloadn dX8_price_13 rfl ?_
      refine az_sipush (v := 1000) dX8_price_14 (by decide) ?_
      refine az_icmple (t := 22) dX8_price_17 (by decide) (fun h17 => ?_) (fun h17 => ?_)
      · have hQ1 := hQ1 ⟨h5, Int32.not_lt.mp h10, h17⟩
        obtain ⟨P, hP, rfl⟩ := zi_ex (by omega) h5
        rw [nI_clamp (by omega)] at hQ1
        refine az_aloadn dX8_price_22 rfl ?_
        refine az_inv0 (N := mX8_act) dX8_price_23 lkX8_78 okX8_act sh_391 rfl (Nat.le_of_ble_eq_true rfl) ?_
        refine t_X8_act hH (fun m1 hA => ?_)
        have e2 : m1 392 = mem 392 := hA.1 392 (by decide) (by decide)
        try dsimp only [az_ps]
        refine az_aloadn dX8_price_26 rfl ?_
        refine az_getr dX8_price_27 flX8_7 sh_391 rfl ?_
        refine az_sipush (v := 279) dX8_price_30 (by decide) ?_
        refine az_iloadn dX8_price_33 rfl ?_
        refine az_iadd dX8_price_34 ?_
        refine az_iloadn dX8_price_35 rfl ?_
        refine az_iast (279 + P) dX8_price_36 sh_392 (by omega) (by decide) (by simp only [az_lit, nI_add, pk_mul, Nat.add_assoc]) ?_
        refine az_iconst (v := 1) dX8_price_37 (by decide) ?_
        refine az_zret dX8_price_38 rfl (by first | exact Or.inl rfl | exact Or.inr rfl | assumption) ?_
        refine hQ1 _ ⟨m1, hA, fun k k1 k2 k3 => by rw [az_w_ne _ k1]⟩ (by rw [az_w_same, e2]) ?_
        refine zF_keep hN hF (by rw [az_w_ne _ (by decide), hA.1 395 (by decide) (by decide)]) (by rw [az_w_ne _ (by decide), hA.1 396 (by decide) (by decide)]) ?_ ?_ ?_ ?_
        · rw [az_w_same, upd_ne (by omega), e2]
        · rw [az_w_same, upd_ne (by omega), e2]
        · exact fun i hi => by rw [az_w_same, upd_ne (by omega), e2]
        · exact fun i hi => by rw [az_w_same, upd_ne (by omega), e2]
      · have hq := hQ0 (fun h => h17 h.2.2)
        refine az_iconst (v := 0) dX8_price_20 (by decide) ?_
        refine az_zret dX8_price_21 rfl (by first | exact Or.inl rfl | exact Or.inr rfl | assumption) ?_
        exact hq
theorem s_X8_chance {p v : Int32} (hn : mem 392 0 = nI N) (hN : N ≤ 16) (hH : zm_H mem t c) (hF : zF mem N) (hQ0 : ¬ ((0 ≤ p ∧ p < nI N) ∧ 0 ≤ v ∧ v ≤ 100) → Q (some (.inl 0)) mem) (hQ1 : ((0 ≤ p ∧ p < nI N) ∧ 0 ≤ v ∧ v ≤ 100) → ∀ m', zm_act t c mem m' → m' 392 = upd (mem 392) (295 + p.toNatClampNeg) v → zF m' N → Q (some (.inl 1)) m') : az_Sp X (d + 2) mX8_chance [.inr 391, .inl p, .inl v] mem Q := by
  refine az_body (by decide +kernel) (Nat.le_of_ble_eq_true rfl) ?_
  show az_Ev X _ mX8_chance 0 [some (.inr 391), some (.inl p), some (.inl v)] [] mem Q
  refine az_aloadn dX8_chance_0 rfl ?_
  refine az_iloadn dX8_chance_1 rfl ?_
  refine az_inv1 (N := mX8_isPost) dX8_chance_2 lkX8_66 okX8_isPost sh_391 rfl (Nat.le_of_ble_eq_true rfl) ?_
  refine s_X8_isPost ?_
  rw [hn]
  try dsimp only [az_ps]
  refine az_ifeq (t := 18) dX8_chance_5 (by decide) (fun h5 => ?_) (fun h5 => ?_)
  · replace h5 := zb_z h5
    have hq := hQ0 (fun h => h5 h.1)
    refine az_iconst (v := 0) dX8_chance_18 (by decide) ?_
    refine az_zret dX8_chance_19 rfl (by first | exact Or.inl rfl | exact Or.inr rfl | assumption) ?_
    exact hq
  · replace h5 := zb_n h5
    refine az_iloadn dX8_chance_8 rfl ?_
    refine az_iflt (t := 18) dX8_chance_9 (by decide) (fun h9 => ?_) (fun h9 => ?_)
    · have hq := hQ0 (fun h => absurd h9 (Int32.not_lt.mpr h.2.1))
      refine az_iconst (v := 0) dX8_chance_18 (by decide) ?_
      refine az_zret dX8_chance_19 rfl (by first | exact Or.inl rfl | exact Or.inr rfl | assumption) ?_
      exact hq
    · refine az_iloadn dX8_chance_12 rfl ?_
      refine az_bipush (v := 100) dX8_chance_13 (by decide) ?_
      refine az_icmple (t := 20) dX8_chance_15 (by decide) (fun h15 => ?_) (fun h15 => ?_)
      · have hQ1 := hQ1 ⟨h5, Int32.not_lt.mp h9, h15⟩
        obtain ⟨P, hP, rfl⟩ := zi_ex (by omega) h5
        rw [nI_clamp (by omega)] at hQ1
        refine az_aloadn dX8_chance_20 rfl ?_
        refine az_inv0 (N := mX8_act) dX8_chance_21 lkX8_78 okX8_act sh_391 rfl (Nat.le_of_ble_eq_true rfl) ?_
        refine t_X8_act hH (fun m1 hA => ?_)
        have e2 : m1 392 = mem 392 := hA.1 392 (by decide) (by decide)
        try dsimp only [az_ps]
        refine az_aloadn dX8_chance_24 rfl ?_
        refine az_getr dX8_chance_25 flX8_7 sh_391 rfl ?_
        refine az_sipush (v := 295) dX8_chance_28 (by decide) ?_
        refine az_iloadn dX8_chance_31 rfl ?_
        refine az_iadd dX8_chance_32 ?_
        refine az_iloadn dX8_chance_33 rfl ?_
        refine az_iast (295 + P) dX8_chance_34 sh_392 (by omega) (by decide) (by simp only [az_lit, nI_add, pk_mul, Nat.add_assoc]) ?_
        refine az_iconst (v := 1) dX8_chance_35 (by decide) ?_
        refine az_zret dX8_chance_36 rfl (by first | exact Or.inl rfl | exact Or.inr rfl | assumption) ?_
        refine hQ1 _ ⟨m1, hA, fun k k1 k2 k3 => by rw [az_w_ne _ k1]⟩ (by rw [az_w_same, e2]) ?_
        refine zF_keep hN hF (by rw [az_w_ne _ (by decide), hA.1 395 (by decide) (by decide)]) (by rw [az_w_ne _ (by decide), hA.1 396 (by decide) (by decide)]) ?_ ?_ ?_ ?_
        · rw [az_w_same, upd_ne (by omega), e2]
        · rw [az_w_same, upd_ne (by omega), e2]
        · exact fun i hi => by rw [az_w_same, upd_ne (by omega), e2]
        · exact fun i hi => by rw [az_w_same, upd_ne (by omega), e2]
      · have hq := hQ0 (fun h => h15 h.2.2)
        refine az_iconst (v := 0) dX8_chance_18 (by decide) ?_
        refine az_zret dX8_chance_19 rfl (by first | exact Or.inl rfl | exact Or.inr rfl | assumption) ?_
        exact hq
def zm_ru (k r : Int32) : Prop := 0 ≤ k ∧ k ≤ 4 ∧ (if k = 3 then 0 ≤ r ∧ r ≤ 20000 else r = 0)
theorem s_X8_rule {k r : Int32} (hn : mem 392 0 = nI N) (hN : N ≤ 16) (hH : zm_H mem t c) (hQ0 : ¬ zm_ru k r → Q (some (.inl 0)) mem) (hQ1 : zm_ru k r → ∀ m', zm_act t c mem m' → m' 392 = upd (upd (mem 392) 1 k) 2 r → zF m' N → Q (some (.inl 1)) m') : az_Sp X (d + 3) mX8_rule [.inr 391, .inl k, .inl r] mem Q := by
  have fin : zm_ru k r → az_Ev X (d + 3) mX8_rule 34 [some (.inr 391), some (.inl k), some (.inl r)] [] mem Q := by
    intro hr
    have hQ1 := hQ1 hr
    refine az_aloadn dX8_rule_34 rfl ?_
    refine az_inv0 (N := mX8_act) dX8_rule_35 lkX8_78 okX8_act sh_391 rfl (Nat.le_of_ble_eq_true rfl) ?_
    refine t_X8_act hH (fun m1 hA => ?_)
    have e2 : m1 392 = mem 392 := hA.1 392 (by decide) (by decide)
    try dsimp only [az_ps]
    refine az_aloadn dX8_rule_38 rfl ?_
    refine az_getr dX8_rule_39 flX8_7 sh_391 rfl ?_
    refine az_iconst (v := 1) dX8_rule_42 (by decide) ?_
    refine az_iloadn dX8_rule_43 rfl ?_
    refine az_iast (1) dX8_rule_44 sh_392 (by omega) (by decide) (by simp only [az_lit, nI_add, pk_mul, Nat.add_assoc]) ?_
    refine az_aloadn dX8_rule_45 rfl ?_
    refine az_getr dX8_rule_46 flX8_7 sh_391 rfl ?_
    refine az_iconst (v := 2) dX8_rule_49 (by decide) ?_
    refine az_iloadn dX8_rule_50 rfl ?_
    refine az_iast (2) dX8_rule_51 sh_392 (by omega) (by decide) (by simp only [az_lit, nI_add, pk_mul, Nat.add_assoc]) ?_
    refine az_aloadn dX8_rule_52 rfl ?_
    refine az_inv0 (N := mX8_walk) dX8_rule_53 lkX8_52 okX8_walk sh_391 rfl (Nat.le_of_ble_eq_true rfl) ?_
    refine t_X8_walk (N := N) (by rw [az_w_same, upd_ne (by omega), az_w_same, upd_ne (by omega), e2]; exact hn) (by omega) (fun m2 hf hF => ?_)
    try dsimp only [az_ps]
    refine az_iconst (v := 1) dX8_rule_56 (by decide) ?_
    refine az_zret dX8_rule_57 rfl (by first | exact Or.inl rfl | exact Or.inr rfl | assumption) ?_
    exact hQ1 m2 ⟨m1, hA, fun k k1 k2 k3 => by rw [hf k k2 k3, az_w_ne _ k1, az_w_ne _ k1]⟩ (by rw [hf 392 (by decide) (by decide), az_w_same, az_w_same, e2]) hF
  refine az_body (by decide +kernel) (Nat.le_of_ble_eq_true rfl) ?_
  show az_Ev X _ mX8_rule 0 [some (.inr 391), some (.inl k), some (.inl r)] [] mem Q
  refine az_iloadn dX8_rule_0 rfl ?_
  refine az_iflt (t := 32) dX8_rule_1 (by decide) (fun h1 => ?_) (fun h1 => ?_)
  · have hq := hQ0 (fun h => absurd h1 (Int32.not_lt.mpr h.1))
    refine az_iconst (v := 0) dX8_rule_32 (by decide) ?_
    refine az_zret dX8_rule_33 rfl (by first | exact Or.inl rfl | exact Or.inr rfl | assumption) ?_
    exact hq
  · refine az_iloadn dX8_rule_4 rfl ?_
    refine az_iconst (v := 4) dX8_rule_5 (by decide) ?_
    refine az_icmpgt (t := 32) dX8_rule_6 (by decide) (fun h6 => ?_) (fun h6 => ?_)
    · have hq := hQ0 (fun h => absurd h6 (Int32.not_lt.mpr h.2.1))
      refine az_iconst (v := 0) dX8_rule_32 (by decide) ?_
      refine az_zret dX8_rule_33 rfl (by first | exact Or.inl rfl | exact Or.inr rfl | assumption) ?_
      exact hq
    · refine az_iloadn dX8_rule_9 rfl ?_
      refine az_iconst (v := 3) dX8_rule_10 (by decide) ?_
      refine az_icmpne (t := 28) dX8_rule_11 (by decide) (fun h11 => ?_) (fun h11 => ?_)
      · have hf3 := fun (h : zm_ru k r) => (show r = 0 from by have := h.2.2; rw [if_neg h11] at this; exact this)
        refine az_iloadn dX8_rule_28 rfl ?_
        refine az_ifeq (t := 34) dX8_rule_29 (by decide) (fun h29 => ?_) (fun h29 => ?_)
        · first
          | exact fin ⟨Int32.not_lt.mp h1, Int32.not_lt.mp h6, by rw [if_pos h11]; exact ⟨Int32.not_lt.mp h15, h22⟩⟩
          | exact fin ⟨Int32.not_lt.mp h1, Int32.not_lt.mp h6, by rw [if_neg h11]; exact h29⟩
        · have hq := hQ0 (fun h => h29 (hf3 h))
          refine az_iconst (v := 0) dX8_rule_32 (by decide) ?_
          refine az_zret dX8_rule_33 rfl (by first | exact Or.inl rfl | exact Or.inr rfl | assumption) ?_
          exact hq
      · have hf3 := fun (h : zm_ru k r) => (show 0 ≤ r ∧ r ≤ 20000 from by have := h.2.2; rw [if_pos h11] at this; exact this)
        refine az_iloadn dX8_rule_14 rfl ?_
        refine az_iflt (t := 32) dX8_rule_15 (by decide) (fun h15 => ?_) (fun h15 => ?_)
        · have hq := hQ0 (fun h => absurd h15 (Int32.not_lt.mpr (hf3 h).1))
          refine az_iconst (v := 0) dX8_rule_32 (by decide) ?_
          refine az_zret dX8_rule_33 rfl (by first | exact Or.inl rfl | exact Or.inr rfl | assumption) ?_
          exact hq
        · refine az_iloadn dX8_rule_18 rfl ?_
          refine az_sipush (v := 20000) dX8_rule_19 (by decide) ?_
          refine az_icmple (t := 34) dX8_rule_22 (by decide) (fun h22 => ?_) (fun h22 => ?_)
          · first
            | exact fin ⟨Int32.not_lt.mp h1, Int32.not_lt.mp h6, by rw [if_pos h11]; exact ⟨Int32.not_lt.mp h15, h22⟩⟩
            | exact fin ⟨Int32.not_lt.mp h1, Int32.not_lt.mp h6, by rw [if_neg h11]; exact h29⟩
          · have hq := hQ0 (fun h => h22 (hf3 h).2)
            refine az_goto (t := 32) dX8_rule_25 (by decide) ?_
            refine az_iconst (v := 0) dX8_rule_32 (by decide) ?_
            refine az_zret dX8_rule_33 rfl (by first | exact Or.inl rfl | exact Or.inr rfl | assumption) ?_
            exact hq
end MF

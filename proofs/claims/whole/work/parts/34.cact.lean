/-! the class's past, tape and acts -/
def zc_keep (T C : Nat) (mem m' : az_M) : Prop := (∀ k, k ≠ 7 → (k < 9 + 6 * T ∨ 9 + 6 * T + 6 ≤ k) → m' k = mem k) ∧ (∀ j, m' 7 j = if j = 1 then nI ((T + 1) % 60) else if j = 2 then nI (if C < 60 then C + 1 else C) else mem 7 j) ∧ zc_as (9 + 6 * T) 1 mem m'
def zc_act0 (T C : Nat) (mem m' : az_M) : Prop := ∃ m1, zc_keep T C mem m1 ∧ m' = az_w m1 0 7 1
/-- an act of the class: the past has the net as it was, and then the net alone was changed -/
def zc_act (T C : Nat) (mem m' : az_M) : Prop := ∃ m1, zc_act0 T C mem m1 ∧ ∀ k, (k = 0 ∨ 7 ≤ k) → m' k = m1 k
def zc_H (mem : az_M) (T C : Nat) : Prop := mem 7 1 = nI T ∧ T < 60 ∧ mem 7 2 = nI C ∧ C ≤ 60
/-- the net's own two booleans -/
def zc_Z (mem : az_M) (b : Nat) : Prop := (mem b 4 = 0 ∨ mem b 4 = 1) ∧ (mem b 5 = 0 ∨ mem b 5 = 1)
theorem zc_past_at {i : Nat} (h : i < 60) : az_past[i]? = some (9 + 6 * i) := by
  unfold az_past
  rw [List.getElem?_map, List.getElem?_range h]
  rfl
theorem zc_net_of {T C : Nat} {mem m1 : az_M} (h : zc_act0 T C mem m1) {k : Nat} (hk : 1 ≤ k ∧ k ≤ 6) : m1 k = mem k := by
  obtain ⟨m0, h0, rfl⟩ := h
  rw [az_w_ne _ (by omega)]
  exact h0.1 k (by omega) (by omega)
section CB
variable {X : az_X} {d : Nat} {mem : az_M} {Q : Option az_V → az_M → Prop} {N T C : Nat}
theorem s_X3_keep (hH : zc_H mem T C) (hZ : zc_Z mem 1) (hQ : ∀ m', zc_keep T C mem m' → Q none m') : az_Sp X (d + 3) mX3_keep [.inr 7, .inr 1] mem Q := by
  obtain ⟨h1, h2, h3, h4⟩ := hH
  refine az_body (by decide +kernel) (Nat.le_of_ble_eq_true rfl) ?_
  show az_Ev X _ mX3_keep 0 [some (.inr 7), some (.inr 1), none] [] mem Q
  refine az_aloadn dX3_keep_0 rfl ?_
  refine az_getr dX3_keep_1 flX3_11 sh_7 rfl ?_
  refine az_aloadn dX3_keep_4 rfl ?_
  refine az_geti dX3_keep_5 flX3_17 sh_7 rfl ?_
  refine az_aald (T) dX3_keep_8 sh_8 (zc_past_at h2) (by decide) h1 ?_
  refine az_astoren dX3_keep_9 (by decide) ?_
  dsimp only [List.set]
  refine az_aloadn dX3_keep_10 rfl ?_
  refine az_ifnull dX3_keep_11 ?_
  refine az_aloadn dX3_keep_14 rfl ?_
  refine az_aloadn dX3_keep_15 rfl ?_
  refine az_inv1 (N := mX2_become) dX3_keep_16 lkX3_25 okX2_become (zc_net_p h2).1 rfl (Nat.le_of_ble_eq_true rfl) ?_
  refine s_X2_become (zc_net_p h2) zc_net_1 hZ.1 hZ.2 (by omega) (fun m1 f1 g1 => ?_)
  have e1 : m1 7 1 = nI T := by rw [f1 7 (by omega)]; exact h1
  have e2 : m1 7 2 = nI C := by rw [f1 7 (by omega)]; exact h3
  try dsimp only [az_ps]
  refine az_aloadn dX3_keep_19 rfl ?_
  refine az_aloadn dX3_keep_20 rfl ?_
  refine az_pc 21 (by decide) ?_
  refine az_geti dX3_keep_21 flX3_17 sh_7 rfl ?_
  refine az_iconst (v := 1) dX3_keep_24 (by decide) ?_
  refine az_iadd dX3_keep_25 ?_
  rw [e1, nI_1]
  refine az_bipush (v := 60) dX3_keep_26 (by decide) ?_
  refine az_irem dX3_keep_28 (by decide) ?_
  rw [show nI (T + 1) - nI (T + 1) / 60 * 60 = nI ((T + 1) % 60) from pk_rem (d := 60) (by omega) (by decide) (by decide)]
  refine az_puti dX3_keep_29 plX3_17 sh_7 rfl ?_
  refine az_aloadn dX3_keep_32 rfl ?_
  refine az_aloadn dX3_keep_33 rfl ?_
  refine az_geti dX3_keep_34 flX3_21 sh_7 rfl ?_
  refine az_iconst (v := 1) dX3_keep_37 (by decide) ?_
  refine az_iadd dX3_keep_38 ?_
  rw [az_w_eq, if_neg (by decide), e2, nI_1]
  refine az_bipush (v := 60) dX3_keep_39 (by decide) ?_
  refine az_min dX3_keep_41 lsX3_29 (Nat.le_of_ble_eq_true rfl) (by omega) ?_
  rw [show (if (60 : Int32) < nI (C + 1) then 60 else nI (C + 1)) = nI (if C < 60 then C + 1 else C) from by
    by_cases hc : C < 60
    · rw [if_pos hc, if_neg (show ¬ (60 : Int32) < nI (C + 1) from nI_nlt (a := 60) (b := C + 1) (by omega) (by decide))]
    · rw [if_neg hc, if_pos (show (60 : Int32) < nI (C + 1) from nI_lt (a := 60) (b := C + 1) (by omega) (by omega)), show C = 60 by omega]; rfl]
  refine az_puti dX3_keep_44 plX3_21 sh_7 rfl ?_
  refine az_pc 47 (by decide) ?_
  refine az_vret dX3_keep_47 rfl ?_
  refine hQ _ ⟨fun k k1 k2 => ?_, fun j => ?_, ?_⟩
  · rw [az_w_ne _ k1, az_w_ne _ k1]; exact f1 k k2
  · rw [az_w_same, az_w_same, zm_upd_eq, zm_upd_eq, f1 7 (by omega)]
    by_cases c2 : j = 2
    · rw [if_pos c2, if_neg (show ¬ j = 1 by omega), if_pos c2]
    · rw [if_neg c2, if_neg c2]
  · obtain ⟨a1, a2, a3⟩ := g1
    exact ⟨fun j hj => by rw [az_w_ne _ (by omega), az_w_ne _ (by omega)]; exact a1 j hj, fun i hi => by rw [az_w_ne _ (by omega), az_w_ne _ (by omega)]; exact a2 i hi, fun q i x1 x2 x3 => by rw [az_w_ne _ (by omega), az_w_ne _ (by omega)]; exact a3 q i x1 x2 x3⟩
theorem s_X3_goBack {K : Nat} (hH : zc_H mem T C) (hK : K ≤ C) (hZ : zc_Z mem (9 + 6 * ((T + 60 - K) % 60))) (hQ : ∀ m', (∀ k, k ≠ 7 → (k < 1 ∨ 7 ≤ k) → m' k = mem k) → (∀ j, m' 7 j = if j = 1 then nI ((T + 60 - K) % 60) else if j = 2 then nI (C - K) else mem 7 j) → zc_as 1 (9 + 6 * ((T + 60 - K) % 60)) mem m' → Q none m') : az_Sp X (d + 3) mX3_goBack [.inr 7, .inr 1, .inl (nI K)] mem Q := by
  obtain ⟨h1, h2, h3, h4⟩ := hH
  have hT' : (T + 60 - K) % 60 < 60 := Nat.mod_lt _ (by decide)
  refine az_body (by decide +kernel) (Nat.le_of_ble_eq_true rfl) ?_
  show az_Ev X _ mX3_goBack 0 [some (.inr 7), some (.inr 1), some (.inl (nI K)), none] [] mem Q
  refine az_aloadn dX3_goBack_0 rfl ?_
  refine az_aloadn dX3_goBack_1 rfl ?_
  refine az_geti dX3_goBack_2 flX3_17 sh_7 rfl ?_
  refine az_iloadn dX3_goBack_5 rfl ?_
  rw [h1]
  refine az_isub dX3_goBack_6 ?_
  refine az_bipush (v := 60) dX3_goBack_7 (by decide) ?_
  refine az_fmod (by decide) dX3_goBack_9 lsX3_35 (Nat.le_of_ble_eq_true rfl) (by omega) ?_
  rw [zj_fm60 h2 (by omega)]
  refine az_puti dX3_goBack_12 plX3_17 sh_7 rfl ?_
  refine az_aloadn dX3_goBack_15 rfl ?_
  refine az_dup dX3_goBack_16 ?_
  refine az_geti dX3_goBack_17 flX3_21 sh_7 rfl ?_
  refine az_iloadn dX3_goBack_20 rfl ?_
  rw [az_w_eq, if_neg (by decide), h3]
  refine az_isub dX3_goBack_21 ?_
  refine az_pc 22 (by decide) ?_
  rw [pk_sub hK]
  refine az_puti dX3_goBack_22 plX3_21 sh_7 rfl ?_
  refine az_aloadn dX3_goBack_25 rfl ?_
  refine az_getr dX3_goBack_26 flX3_11 sh_7 rfl ?_
  refine az_aloadn dX3_goBack_29 rfl ?_
  refine az_geti dX3_goBack_30 flX3_17 sh_7 rfl ?_
  rw [az_w_eq, if_neg (by decide), az_w_eq, if_pos ⟨rfl, rfl⟩]
  refine az_aald ((T + 60 - K) % 60) dX3_goBack_33 sh_8 (zc_past_at hT') (by decide) rfl ?_
  refine az_astoren dX3_goBack_34 (by decide) ?_
  dsimp only [List.set]
  refine az_aloadn dX3_goBack_35 rfl ?_
  refine az_ifnull dX3_goBack_36 ?_
  refine az_aloadn dX3_goBack_39 rfl ?_
  refine az_aloadn dX3_goBack_40 rfl ?_
  refine az_inv1 (N := mX2_become) dX3_goBack_41 lkX3_25 okX2_become sh_1 rfl (Nat.le_of_ble_eq_true rfl) ?_
  refine s_X2_become zc_net_1 (zc_net_p hT') ?_ ?_ (by omega) (fun m1 f1 g1 => ?_)
  · rw [az_w_ne _ (by omega), az_w_ne _ (by omega)]; exact hZ.1
  · rw [az_w_ne _ (by omega), az_w_ne _ (by omega)]; exact hZ.2
  try dsimp only [az_ps]
  refine az_vret dX3_goBack_44 rfl ?_
  refine hQ m1 (fun k k1 k2 => ?_) (fun j => ?_) ?_
  · rw [f1 k (by omega), az_w_ne _ k1, az_w_ne _ k1]
  · rw [f1 7 (by omega), az_w_same, az_w_same, zm_upd_eq, zm_upd_eq]
    by_cases c2 : j = 2
    · rw [if_pos c2, if_neg (by omega), if_pos c2]
    · rw [if_neg c2]
      by_cases c1 : j = 1
      · rw [if_pos c1, if_pos c1]
      · rw [if_neg c1, if_neg c1, if_neg c2]
  · obtain ⟨a1, a2, a3⟩ := g1
    exact ⟨fun j hj => by rw [a1 j hj, az_w_ne _ (by omega), az_w_ne _ (by omega)], fun i hi => by rw [a2 i hi, az_w_ne _ (by omega), az_w_ne _ (by omega)], fun q i x1 x2 x3 => by rw [a3 q i x1 x2 x3, az_w_ne _ (by omega), az_w_ne _ (by omega)]⟩
theorem s_X7_beforeAct (hH : zc_H mem T C) (hZ : zc_Z mem 1) (hQ : ∀ m', zc_act0 T C mem m' → Q none m') : az_Sp X (d + 4) mX7_beforeAct [.inr 0] mem Q := by
  refine az_body (by decide +kernel) (Nat.le_of_ble_eq_true rfl) ?_
  show az_Ev X _ mX7_beforeAct 0 [some (.inr 0)] [] mem Q
  refine az_aloadn dX7_beforeAct_0 rfl ?_
  refine az_getr dX7_beforeAct_1 flX7_19 sh_0 rfl ?_
  refine az_aloadn dX7_beforeAct_4 rfl ?_
  refine az_getr dX7_beforeAct_5 flX7_12 sh_0 rfl ?_
  refine az_inv1 (N := mX3_keep) dX7_beforeAct_8 lkX7_241 okX3_keep sh_7 rfl (Nat.le_of_ble_eq_true rfl) ?_
  refine s_X3_keep hH hZ (fun m1 g1 => ?_)
  try dsimp only [az_ps]
  refine az_aloadn dX7_beforeAct_11 rfl ?_
  refine az_iconst (v := 1) dX7_beforeAct_12 (by decide) ?_
  refine az_putz dX7_beforeAct_13 plX7_58 sh_0 rfl (by first | exact Or.inl rfl | exact Or.inr rfl | assumption) ?_
  refine az_vret dX7_beforeAct_16 rfl ?_
  exact hQ _ ⟨m1, g1, rfl⟩
theorem s_X7_post (hn : mem 1 0 = nI N) (hN : N ≤ 16) (hH : zc_H mem T C) (hZ : zc_Z mem 1) (hQ0 : N = 16 → Q (some (.inl (-1))) mem) (hQ1 : N < 16 → ∀ m', zc_act T C mem m' → m' 1 = upd (mem 1) 0 (nI (N + 1)) → (∀ k, 2 ≤ k → k ≤ 6 → m' k = mem k) → Q (some (.inl (nI N))) m') : az_Sp X (d + 5) mX7_post [.inr 0] mem Q := by
  refine az_body (by decide +kernel) (Nat.le_of_ble_eq_true rfl) ?_
  show az_Ev X _ mX7_post 0 [some (.inr 0)] [] mem Q
  refine az_aloadn dX7_post_0 rfl ?_
  refine az_getr dX7_post_1 flX7_12 sh_0 rfl ?_
  refine az_geti dX7_post_4 flX7_66 sh_1 rfl ?_
  refine az_bipush (v := 16) dX7_post_7 (by decide) ?_
  rw [hn]
  refine az_icmplt (t := 14) dX7_post_9 (by decide) (fun h9 => ?_) (fun h9 => ?_)
  · have h16 : N < 16 := (nI_ltI (b := 16) (by omega) (by decide)).mp h9
    refine az_aloadn dX7_post_14 rfl ?_
    refine az_inv0 (N := mX7_beforeAct) dX7_post_15 lkX7_69 okX7_beforeAct sh_0 rfl (Nat.le_of_ble_eq_true rfl) ?_
    refine s_X7_beforeAct hH hZ (fun m1 hA => ?_)
    have e1 : m1 1 = mem 1 := zc_net_of hA (by omega)
    have e0 : m1 1 0 = nI N := by rw [e1]; exact hn
    try dsimp only [az_ps]
    refine az_aloadn dX7_post_18 rfl ?_
    refine az_getr dX7_post_19 flX7_12 sh_0 rfl ?_
    refine az_dup dX7_post_22 ?_
    refine az_geti dX7_post_23 flX7_66 sh_1 rfl ?_
    refine az_iconst (v := 1) dX7_post_26 (by decide) ?_
    rw [e0]
    refine az_iadd dX7_post_27 ?_
    rw [nI_1]
    refine az_puti dX7_post_28 plX7_66 sh_1 rfl ?_
    refine az_aloadn dX7_post_31 rfl ?_
    refine az_getr dX7_post_32 flX7_12 sh_0 rfl ?_
    refine az_geti dX7_post_35 flX7_66 sh_1 rfl ?_
    refine az_iconst (v := 1) dX7_post_38 (by decide) ?_
    refine az_pc 39 (by decide) ?_
    refine az_isub dX7_post_39 ?_
    rw [az_w_eq, if_pos ⟨rfl, rfl⟩, nI_pred]
    refine az_iret dX7_post_40 rfl ?_
    exact hQ1 h16 _ ⟨m1, hA, fun k hk => by rw [az_w_ne _ (by omega)]⟩ (by rw [az_w_same, e1]) (fun k k1 k2 => by rw [az_w_ne _ (by omega)]; exact zc_net_of hA (by omega))
  · have h16 : N = 16 := by rcases Nat.lt_or_ge N 16 with q | q; exact absurd (nI_lt (b := 16) q (by decide)) h9; omega
    refine az_iconst (v := -1) dX7_post_12 (by decide) ?_
    refine az_iret dX7_post_13 rfl ?_
    exact hQ0 h16
theorem s_X7_road {a b v : Int32} (hn : mem 1 0 = nI N) (hN : N ≤ 16) (hH : zc_H mem T C) (hZ : zc_Z mem 1) (hQ0 : ¬ zc_rd (mem 1 0) (mem 2) a b v → Q (some (.inl 0)) mem) (hQ1 : zc_rd (mem 1 0) (mem 2) a b v → ∀ m', zc_act T C mem m' → m' 2 = upd (upd (mem 2) (16 * a.toNatClampNeg + b.toNatClampNeg) v) (16 * b.toNatClampNeg + a.toNatClampNeg) v → (∀ k, 1 ≤ k → k ≤ 6 → k ≠ 2 → m' k = mem k) → Q (some (.inl 1)) m') : az_Sp X (d + 5) mX7_road [.inr 0, .inl a, .inl b, .inl v] mem Q := by
  refine az_body (by decide +kernel) (Nat.le_of_ble_eq_true rfl) ?_
  show az_Ev X _ mX7_road 0 [some (.inr 0), some (.inl a), some (.inl b), some (.inl v)] [] mem Q
  refine az_aloadn dX7_road_0 rfl ?_
  refine az_getr dX7_road_1 flX7_12 sh_0 rfl ?_
  refine az_iloadn dX7_road_4 rfl ?_
  refine az_iloadn dX7_road_5 rfl ?_
  refine az_iloadn dX7_road_6 rfl ?_
  refine az_inv3 (N := mX2_roadCanBe) dX7_road_7 lkX7_72 okX2_roadCanBe sh_1 rfl (Nat.le_of_ble_eq_true rfl) ?_
  refine s_X2_roadCanBe hn hN ?_
  try dsimp only [az_ps]
  refine az_ifne (t := 15) dX7_road_10 (by decide) (fun h10 => ?_) (fun h10 => ?_)
  · replace h10 := zb_n h10
    refine az_aloadn dX7_road_15 rfl ?_
    refine az_inv0 (N := mX7_beforeAct) dX7_road_16 lkX7_69 okX7_beforeAct sh_0 rfl (Nat.le_of_ble_eq_true rfl) ?_
    refine s_X7_beforeAct hH hZ (fun m1 hA => ?_)
    have ea := zi_of (N := N) (by omega) (by rw [← hn]; exact h10.1)
    have eb := zi_of (N := N) (by omega) (by rw [← hn]; exact h10.2.1)
    try dsimp only [az_ps]
    refine az_aloadn dX7_road_19 rfl ?_
    refine az_getr dX7_road_20 flX7_12 sh_0 rfl ?_
    refine az_iloadn dX7_road_23 rfl ?_
    refine az_iloadn dX7_road_24 rfl ?_
    refine az_iloadn dX7_road_25 rfl ?_
    refine az_inv3 (N := mX2_layRoad) dX7_road_26 lkX7_76 okX2_layRoad sh_1 rfl (Nat.le_of_ble_eq_true rfl) ?_
    refine s_X2_layRoad ea.2 eb.2 (by omega) (by omega) ?_
    try dsimp only [az_ps]
    refine az_iconst (v := 1) dX7_road_29 (by decide) ?_
    refine az_zret dX7_road_30 rfl (by first | exact Or.inl rfl | exact Or.inr rfl | assumption) ?_
    exact hQ1 h10 _ ⟨m1, hA, fun k hk => by rw [az_w_ne _ (by omega), az_w_ne _ (by omega)]⟩ (by rw [az_w_same, az_w_same, zc_net_of hA (by omega)]) (fun k k1 k2 k3 => by rw [az_w_ne _ k3, az_w_ne _ k3]; exact zc_net_of hA (by omega))
  · replace h10 := zb_z h10
    refine az_iconst (v := 0) dX7_road_13 (by decide) ?_
    refine az_zret dX7_road_14 rfl (by first | exact Or.inl rfl | exact Or.inr rfl | assumption) ?_
    exact hQ0 h10
abbrev zc_cut (n0 : Int32) (len : Nat → Int32) (a b : Int32) : Prop := (0 ≤ a ∧ a < n0) ∧ (0 ≤ b ∧ b < n0) ∧ 0 < len (16 * a.toNatClampNeg + b.toNatClampNeg)
theorem s_X7_cut {a b : Int32} (hn : mem 1 0 = nI N) (hN : N ≤ 16) (hH : zc_H mem T C) (hZ : zc_Z mem 1) (hQ0 : ¬ zc_cut (mem 1 0) (mem 2) a b → Q (some (.inl 0)) mem) (hQ1 : zc_cut (mem 1 0) (mem 2) a b → ∀ m', zc_act T C mem m' → m' 2 = upd (upd (mem 2) (16 * a.toNatClampNeg + b.toNatClampNeg) 0) (16 * b.toNatClampNeg + a.toNatClampNeg) 0 → (∀ k, 1 ≤ k → k ≤ 6 → k ≠ 2 → m' k = mem k) → Q (some (.inl 1)) m') : az_Sp X (d + 5) mX7_cut [.inr 0, .inl a, .inl b] mem Q := by
  refine az_body (by decide +kernel) (Nat.le_of_ble_eq_true rfl) ?_
  show az_Ev X _ mX7_cut 0 [some (.inr 0), some (.inl a), some (.inl b)] [] mem Q
  refine az_aloadn dX7_cut_0 rfl ?_
  refine az_getr dX7_cut_1 flX7_12 sh_0 rfl ?_
  refine az_iloadn dX7_cut_4 rfl ?_
  refine az_inv1 (N := mX2_isPost) dX7_cut_5 lkX7_80 okX2_isPost sh_1 rfl (Nat.le_of_ble_eq_true rfl) ?_
  refine s_X2_isPost ?_
  try dsimp only [az_ps]
  refine az_ifeq (t := 34) dX7_cut_8 (by decide) (fun h8 => ?_) (fun h8 => ?_)
  · replace h8 := zb_z h8
    have hq := hQ0 (fun h => h8 h.1)
    refine az_iconst (v := 0) dX7_cut_34 (by decide) ?_
    refine az_zret dX7_cut_35 rfl (by first | exact Or.inl rfl | exact Or.inr rfl | assumption) ?_
    exact hq
  · replace h8 := zb_n h8
    refine az_aloadn dX7_cut_11 rfl ?_
    refine az_getr dX7_cut_12 flX7_12 sh_0 rfl ?_
    refine az_iloadn dX7_cut_15 rfl ?_
    refine az_inv1 (N := mX2_isPost) dX7_cut_16 lkX7_80 okX2_isPost sh_1 rfl (Nat.le_of_ble_eq_true rfl) ?_
    refine s_X2_isPost ?_
    try dsimp only [az_ps]
    refine az_ifeq (t := 34) dX7_cut_19 (by decide) (fun h19 => ?_) (fun h19 => ?_)
    · replace h19 := zb_z h19
      have hq := hQ0 (fun h => h19 h.2.1)
      refine az_iconst (v := 0) dX7_cut_34 (by decide) ?_
      refine az_zret dX7_cut_35 rfl (by first | exact Or.inl rfl | exact Or.inr rfl | assumption) ?_
      exact hq
    · replace h19 := zb_n h19
      have ea := zi_of (N := N) (by omega) (by rw [← hn]; exact h8)
      have eb := zi_of (N := N) (by omega) (by rw [← hn]; exact h19)
      refine az_aloadn dX7_cut_22 rfl ?_
      refine az_getr dX7_cut_23 flX7_12 sh_0 rfl ?_
      refine az_iloadn dX7_cut_26 rfl ?_
      refine az_iloadn dX7_cut_27 rfl ?_
      refine az_inv2 (N := mX2_hasRoad) dX7_cut_28 lkX7_84 okX2_hasRoad sh_1 rfl (Nat.le_of_ble_eq_true rfl) ?_
      refine t_X2_hasRoad ea.2 eb.2 (by omega) (by omega) ?_
      try dsimp only [az_ps]
      refine az_ifne (t := 36) dX7_cut_31 (by decide) (fun h31 => ?_) (fun h31 => ?_)
      · replace h31 := zb_n h31
        refine az_aloadn dX7_cut_36 rfl ?_
        refine az_inv0 (N := mX7_beforeAct) dX7_cut_37 lkX7_69 okX7_beforeAct sh_0 rfl (Nat.le_of_ble_eq_true rfl) ?_
        refine s_X7_beforeAct hH hZ (fun m1 hA => ?_)
        try dsimp only [az_ps]
        refine az_aloadn dX7_cut_40 rfl ?_
        refine az_getr dX7_cut_41 flX7_12 sh_0 rfl ?_
        refine az_iloadn dX7_cut_44 rfl ?_
        refine az_iloadn dX7_cut_45 rfl ?_
        refine az_iconst (v := 0) dX7_cut_46 (by decide) ?_
        refine az_inv3 (N := mX2_layRoad) dX7_cut_47 lkX7_76 okX2_layRoad sh_1 rfl (Nat.le_of_ble_eq_true rfl) ?_
        refine s_X2_layRoad ea.2 eb.2 (by omega) (by omega) ?_
        try dsimp only [az_ps]
        refine az_iconst (v := 1) dX7_cut_50 (by decide) ?_
        refine az_zret dX7_cut_51 rfl (by first | exact Or.inl rfl | exact Or.inr rfl | assumption) ?_
        exact hQ1 ⟨h8, h19, h31⟩ _ ⟨m1, hA, fun k hk => by rw [az_w_ne _ (by omega), az_w_ne _ (by omega)]⟩ (by rw [az_w_same, az_w_same, zc_net_of hA (by omega)]) (fun k k1 k2 k3 => by rw [az_w_ne _ k3, az_w_ne _ k3]; exact zc_net_of hA (by omega))
      · replace h31 := zb_z h31
        have hq := hQ0 (fun h => h31 h.2.2)
        refine az_iconst (v := 0) dX7_cut_34 (by decide) ?_
        refine az_zret dX7_cut_35 rfl (by first | exact Or.inl rfl | exact Or.inr rfl | assumption) ?_
        exact hq
theorem s_X7_reach {p v : Int32} (hn : mem 1 0 = nI N) (hN : N ≤ 16) (hH : zc_H mem T C) (hZ : zc_Z mem 1) (hQ0 : ¬ ((0 ≤ p ∧ p < nI N) ∧ 0 ≤ v ∧ v ≤ 20000) → Q (some (.inl 0)) mem) (hQ1 : ((0 ≤ p ∧ p < nI N) ∧ 0 ≤ v ∧ v ≤ 20000) → ∀ m', zc_act T C mem m' → m' 3 = upd (mem 3) p.toNatClampNeg v → (∀ k, 1 ≤ k → k ≤ 6 → k ≠ 3 → m' k = mem k) → Q (some (.inl 1)) m') : az_Sp X (d + 5) mX7_reach [.inr 0, .inl p, .inl v] mem Q := by
  refine az_body (by decide +kernel) (Nat.le_of_ble_eq_true rfl) ?_
  show az_Ev X _ mX7_reach 0 [some (.inr 0), some (.inl p), some (.inl v)] [] mem Q
  refine az_aloadn dX7_reach_0 rfl ?_
  refine az_getr dX7_reach_1 flX7_12 sh_0 rfl ?_
  refine az_iloadn dX7_reach_4 rfl ?_
  refine az_inv1 (N := mX2_isPost) dX7_reach_5 lkX7_80 okX2_isPost sh_1 rfl (Nat.le_of_ble_eq_true rfl) ?_
  refine s_X2_isPost ?_
  rw [hn]
  try dsimp only [az_ps]
  refine az_ifeq (t := 22) dX7_reach_8 (by decide) (fun h8 => ?_) (fun h8 => ?_)
  · replace h8 := zb_z h8
    have hq := hQ0 (fun h => h8 h.1)
    refine az_iconst (v := 0) dX7_reach_22 (by decide) ?_
    refine az_zret dX7_reach_23 rfl (by first | exact Or.inl rfl | exact Or.inr rfl | assumption) ?_
    exact hq
  · replace h8 := zb_n h8
    refine az_iloadn dX7_reach_11 rfl ?_
    refine az_iflt (t := 22) dX7_reach_12 (by decide) (fun h12 => ?_) (fun h12 => ?_)
    · have hq := hQ0 (fun h => absurd h12 (Int32.not_lt.mpr h.2.1))
      refine az_iconst (v := 0) dX7_reach_22 (by decide) ?_
      refine az_zret dX7_reach_23 rfl (by first | exact Or.inl rfl | exact Or.inr rfl | assumption) ?_
      exact hq
    · refine az_iloadn dX7_reach_15 rfl ?_
      refine az_sipush (v := 20000) dX7_reach_16 (by decide) ?_
      refine az_icmple (t := 24) dX7_reach_19 (by decide) (fun h19 => ?_) (fun h19 => ?_)
      · have hQ1 := hQ1 ⟨h8, Int32.not_lt.mp h12, h19⟩
        obtain ⟨P, hP, rfl⟩ := zi_ex (by omega) h8
        rw [nI_clamp (by omega)] at hQ1
        refine az_aloadn dX7_reach_24 rfl ?_
        refine az_inv0 (N := mX7_beforeAct) dX7_reach_25 lkX7_69 okX7_beforeAct sh_0 rfl (Nat.le_of_ble_eq_true rfl) ?_
        refine s_X7_beforeAct hH hZ (fun m1 hA => ?_)
        try dsimp only [az_ps]
        refine az_aloadn dX7_reach_28 rfl ?_
        refine az_getr dX7_reach_29 flX7_12 sh_0 rfl ?_
        refine az_getr dX7_reach_32 flX7_102 sh_1 rfl ?_
        refine az_iloadn dX7_reach_35 rfl ?_
        refine az_iloadn dX7_reach_36 rfl ?_
        refine az_iast (P) dX7_reach_37 sh_3 (by omega) (by decide) (by simp only [az_lit, nI_add, pk_mul, Nat.add_assoc]) ?_
        refine az_iconst (v := 1) dX7_reach_38 (by decide) ?_
        refine az_zret dX7_reach_39 rfl (by first | exact Or.inl rfl | exact Or.inr rfl | assumption) ?_
        exact hQ1 _ ⟨m1, hA, fun k hk => by rw [az_w_ne _ (by omega)]⟩ (by rw [az_w_same, zc_net_of hA (by omega)]) (fun k k1 k2 k3 => by rw [az_w_ne _ k3]; exact zc_net_of hA (by omega))
      · have hq := hQ0 (fun h => h19 h.2.2)
        refine az_iconst (v := 0) dX7_reach_22 (by decide) ?_
        refine az_zret dX7_reach_23 rfl (by first | exact Or.inl rfl | exact Or.inr rfl | assumption) ?_
        exact hq
theorem s_X7_price {p v : Int32} (hn : mem 1 0 = nI N) (hN : N ≤ 16) (hH : zc_H mem T C) (hZ : zc_Z mem 1) (hQ0 : ¬ ((0 ≤ p ∧ p < nI N) ∧ 1 ≤ v ∧ v ≤ 1000) → Q (some (.inl 0)) mem) (hQ1 : ((0 ≤ p ∧ p < nI N) ∧ 1 ≤ v ∧ v ≤ 1000) → ∀ m', zc_act T C mem m' → m' 4 = upd (mem 4) p.toNatClampNeg v → (∀ k, 1 ≤ k → k ≤ 6 → k ≠ 4 → m' k = mem k) → Q (some (.inl 1)) m') : az_Sp X (d + 5) mX7_price [.inr 0, .inl p, .inl v] mem Q := by
  refine az_body (by decide +kernel) (Nat.le_of_ble_eq_true rfl) ?_
  show az_Ev X _ mX7_price 0 [some (.inr 0), some (.inl p), some (.inl v)] [] mem Q
  refine az_aloadn dX7_price_0 rfl ?_
  refine az_getr dX7_price_1 flX7_12 sh_0 rfl ?_
  refine az_iloadn dX7_price_4 rfl ?_
  refine az_inv1 (N := mX2_isPost) dX7_price_5 lkX7_80 okX2_isPost sh_1 rfl (Nat.le_of_ble_eq_true rfl) ?_
  refine s_X2_isPost ?_
  rw [hn]
  try dsimp only [az_ps]
  refine az_ifeq (t := 23) dX7_price_8 (by decide) (fun h8 => ?_) (fun h8 => ?_)
  · replace h8 := zb_z h8
    have hq := hQ0 (fun h => h8 h.1)
    refine az_iconst (v := 0) dX7_price_23 (by decide) ?_
    refine az_zret dX7_price_24 rfl (by first | exact Or.inl rfl | exact Or.inr rfl | assumption) ?_
    exact hq
  · replace h8 := zb_n h8
    refine az_iloadn dX7_price_11 rfl ?_
    refine az_iconst (v := 1) dX7_price_12 (by decide) ?_
    refine az_icmplt (t := 23) dX7_price_13 (by decide) (fun h13 => ?_) (fun h13 => ?_)
    · have hq := hQ0 (fun h => absurd h13 (Int32.not_lt.mpr h.2.1))
      refine az_iconst (v := 0) dX7_price_23 (by decide) ?_
      refine az_zret dX7_price_24 rfl (by first | exact Or.inl rfl | exact Or.inr rfl | assumption) ?_
      exact hq
    · refine az_iloadn dX7_price_16 rfl ?_
      refine az_sipush (v := 1000) dX7_price_17 (by decide) ?_
      refine az_icmple (t := 25) dX7_price_20 (by decide) (fun h20 => ?_) (fun h20 => ?_)
      · have hQ1 := hQ1 ⟨h8, Int32.not_lt.mp h13, h20⟩
        obtain ⟨P, hP, rfl⟩ := zi_ex (by omega) h8
        rw [nI_clamp (by omega)] at hQ1
        refine az_aloadn dX7_price_25 rfl ?_
        refine az_inv0 (N := mX7_beforeAct) dX7_price_26 lkX7_69 okX7_beforeAct sh_0 rfl (Nat.le_of_ble_eq_true rfl) ?_
        refine s_X7_beforeAct hH hZ (fun m1 hA => ?_)
        try dsimp only [az_ps]
        refine az_aloadn dX7_price_29 rfl ?_
        refine az_getr dX7_price_30 flX7_12 sh_0 rfl ?_
        refine az_getr dX7_price_33 flX7_106 sh_1 rfl ?_
        refine az_iloadn dX7_price_36 rfl ?_
        refine az_iloadn dX7_price_37 rfl ?_
        refine az_iast (P) dX7_price_38 sh_4 (by omega) (by decide) (by simp only [az_lit, nI_add, pk_mul, Nat.add_assoc]) ?_
        refine az_iconst (v := 1) dX7_price_39 (by decide) ?_
        refine az_zret dX7_price_40 rfl (by first | exact Or.inl rfl | exact Or.inr rfl | assumption) ?_
        exact hQ1 _ ⟨m1, hA, fun k hk => by rw [az_w_ne _ (by omega)]⟩ (by rw [az_w_same, zc_net_of hA (by omega)]) (fun k k1 k2 k3 => by rw [az_w_ne _ k3]; exact zc_net_of hA (by omega))
      · have hq := hQ0 (fun h => h20 h.2.2)
        refine az_iconst (v := 0) dX7_price_23 (by decide) ?_
        refine az_zret dX7_price_24 rfl (by first | exact Or.inl rfl | exact Or.inr rfl | assumption) ?_
        exact hq
theorem s_X7_chance {p v : Int32} (hn : mem 1 0 = nI N) (hN : N ≤ 16) (hH : zc_H mem T C) (hZ : zc_Z mem 1) (hQ0 : ¬ ((0 ≤ p ∧ p < nI N) ∧ 0 ≤ v ∧ v ≤ 100) → Q (some (.inl 0)) mem) (hQ1 : ((0 ≤ p ∧ p < nI N) ∧ 0 ≤ v ∧ v ≤ 100) → ∀ m', zc_act T C mem m' → m' 5 = upd (mem 5) p.toNatClampNeg v → (∀ k, 1 ≤ k → k ≤ 6 → k ≠ 5 → m' k = mem k) → Q (some (.inl 1)) m') : az_Sp X (d + 5) mX7_chance [.inr 0, .inl p, .inl v] mem Q := by
  refine az_body (by decide +kernel) (Nat.le_of_ble_eq_true rfl) ?_
  show az_Ev X _ mX7_chance 0 [some (.inr 0), some (.inl p), some (.inl v)] [] mem Q
  refine az_aloadn dX7_chance_0 rfl ?_
  refine az_getr dX7_chance_1 flX7_12 sh_0 rfl ?_
  refine az_iloadn dX7_chance_4 rfl ?_
  refine az_inv1 (N := mX2_isPost) dX7_chance_5 lkX7_80 okX2_isPost sh_1 rfl (Nat.le_of_ble_eq_true rfl) ?_
  refine s_X2_isPost ?_
  rw [hn]
  try dsimp only [az_ps]
  refine az_ifeq (t := 21) dX7_chance_8 (by decide) (fun h8 => ?_) (fun h8 => ?_)
  · replace h8 := zb_z h8
    have hq := hQ0 (fun h => h8 h.1)
    refine az_iconst (v := 0) dX7_chance_21 (by decide) ?_
    refine az_zret dX7_chance_22 rfl (by first | exact Or.inl rfl | exact Or.inr rfl | assumption) ?_
    exact hq
  · replace h8 := zb_n h8
    refine az_iloadn dX7_chance_11 rfl ?_
    refine az_iflt (t := 21) dX7_chance_12 (by decide) (fun h12 => ?_) (fun h12 => ?_)
    · have hq := hQ0 (fun h => absurd h12 (Int32.not_lt.mpr h.2.1))
      refine az_iconst (v := 0) dX7_chance_21 (by decide) ?_
      refine az_zret dX7_chance_22 rfl (by first | exact Or.inl rfl | exact Or.inr rfl | assumption) ?_
      exact hq
    · refine az_iloadn dX7_chance_15 rfl ?_
      refine az_bipush (v := 100) dX7_chance_16 (by decide) ?_
      refine az_icmple (t := 23) dX7_chance_18 (by decide) (fun h18 => ?_) (fun h18 => ?_)
      · have hQ1 := hQ1 ⟨h8, Int32.not_lt.mp h12, h18⟩
        obtain ⟨P, hP, rfl⟩ := zi_ex (by omega) h8
        rw [nI_clamp (by omega)] at hQ1
        refine az_aloadn dX7_chance_23 rfl ?_
        refine az_inv0 (N := mX7_beforeAct) dX7_chance_24 lkX7_69 okX7_beforeAct sh_0 rfl (Nat.le_of_ble_eq_true rfl) ?_
        refine s_X7_beforeAct hH hZ (fun m1 hA => ?_)
        try dsimp only [az_ps]
        refine az_aloadn dX7_chance_27 rfl ?_
        refine az_getr dX7_chance_28 flX7_12 sh_0 rfl ?_
        refine az_getr dX7_chance_31 flX7_109 sh_1 rfl ?_
        refine az_iloadn dX7_chance_34 rfl ?_
        refine az_iloadn dX7_chance_35 rfl ?_
        refine az_iast (P) dX7_chance_36 sh_5 (by omega) (by decide) (by simp only [az_lit, nI_add, pk_mul, Nat.add_assoc]) ?_
        refine az_iconst (v := 1) dX7_chance_37 (by decide) ?_
        refine az_zret dX7_chance_38 rfl (by first | exact Or.inl rfl | exact Or.inr rfl | assumption) ?_
        exact hQ1 _ ⟨m1, hA, fun k hk => by rw [az_w_ne _ (by omega)]⟩ (by rw [az_w_same, zc_net_of hA (by omega)]) (fun k k1 k2 k3 => by rw [az_w_ne _ k3]; exact zc_net_of hA (by omega))
      · have hq := hQ0 (fun h => h18 h.2.2)
        refine az_iconst (v := 0) dX7_chance_21 (by decide) ?_
        refine az_zret dX7_chance_22 rfl (by first | exact Or.inl rfl | exact Or.inr rfl | assumption) ?_
        exact hq
theorem zm_ru_c {k r : Int32} : zm_ru k r ↔ (0 ≤ k ∧ k ≤ 4 ∧ 0 ≤ r ∧ r ≤ if k = 3 then 20000 else 0) := by
  unfold zm_ru
  by_cases h : k = 3
  · rw [if_pos h, if_pos h]
  · rw [if_neg h, if_neg h]
    constructor
    · rintro ⟨a, b, rfl⟩; exact ⟨a, b, Int32.le_refl _, Int32.le_refl _⟩
    · rintro ⟨a, b, c, e⟩; exact ⟨a, b, Int32.le_antisymm e c⟩
theorem s_X7_rule {k r : Int32} (hH : zc_H mem T C) (hZ : zc_Z mem 1) (hQ0 : ¬ zm_ru k r → Q (some (.inl 0)) mem) (hQ1 : zm_ru k r → ∀ m', zc_act T C mem m' → m' 1 = upd (upd (mem 1) 1 k) 2 r → (∀ k, 2 ≤ k → k ≤ 6 → m' k = mem k) → Q (some (.inl 1)) m') : az_Sp X (d + 5) mX7_rule [.inr 0, .inl k, .inl r] mem Q := by
  rw [zm_ru_c] at hQ0 hQ1
  generalize hmost : (if k = 3 then (20000 : Int32) else 0) = most at hQ0 hQ1
  have main : az_Ev X (d + 5) mX7_rule 13 [some (.inr 0), some (.inl k), some (.inl r), some (.inl most)] [] mem Q := by
    refine az_iloadn dX7_rule_13 rfl ?_
    refine az_iflt (t := 31) dX7_rule_14 (by decide) (fun h14 => ?_) (fun h14 => ?_)
    · have hq := hQ0 (fun h => absurd h14 (Int32.not_lt.mpr h.1))
      refine az_iconst (v := 0) dX7_rule_31 (by decide) ?_
      refine az_zret dX7_rule_32 rfl (by first | exact Or.inl rfl | exact Or.inr rfl | assumption) ?_
      exact hq
    · refine az_iloadn dX7_rule_17 rfl ?_
      refine az_iconst (v := 4) dX7_rule_18 (by decide) ?_
      refine az_icmpgt (t := 31) dX7_rule_19 (by decide) (fun h19 => ?_) (fun h19 => ?_)
      · have hq := hQ0 (fun h => absurd h19 (Int32.not_lt.mpr h.2.1))
        refine az_iconst (v := 0) dX7_rule_31 (by decide) ?_
        refine az_zret dX7_rule_32 rfl (by first | exact Or.inl rfl | exact Or.inr rfl | assumption) ?_
        exact hq
      · refine az_iloadn dX7_rule_22 rfl ?_
        refine az_iflt (t := 31) dX7_rule_23 (by decide) (fun h23 => ?_) (fun h23 => ?_)
        · have hq := hQ0 (fun h => absurd h23 (Int32.not_lt.mpr h.2.2.1))
          refine az_iconst (v := 0) dX7_rule_31 (by decide) ?_
          refine az_zret dX7_rule_32 rfl (by first | exact Or.inl rfl | exact Or.inr rfl | assumption) ?_
          exact hq
        · refine az_iloadn dX7_rule_26 rfl ?_
          refine az_iloadn dX7_rule_27 rfl ?_
          refine az_icmple (t := 33) dX7_rule_28 (by decide) (fun h28 => ?_) (fun h28 => ?_)
          · have hQ1 := hQ1 ⟨Int32.not_lt.mp h14, Int32.not_lt.mp h19, Int32.not_lt.mp h23, h28⟩
            refine az_aloadn dX7_rule_33 rfl ?_
            refine az_inv0 (N := mX7_beforeAct) dX7_rule_34 lkX7_69 okX7_beforeAct sh_0 rfl (Nat.le_of_ble_eq_true rfl) ?_
            refine s_X7_beforeAct hH hZ (fun m1 hA => ?_)
            try dsimp only [az_ps]
            refine az_aloadn dX7_rule_37 rfl ?_
            refine az_getr dX7_rule_38 flX7_12 sh_0 rfl ?_
            refine az_iloadn dX7_rule_41 rfl ?_
            refine az_puti dX7_rule_42 plX7_112 sh_1 rfl ?_
            refine az_aloadn dX7_rule_45 rfl ?_
            refine az_getr dX7_rule_46 flX7_12 sh_0 rfl ?_
            refine az_iloadn dX7_rule_49 rfl ?_
            refine az_puti dX7_rule_50 plX7_115 sh_1 rfl ?_
            refine az_iconst (v := 1) dX7_rule_53 (by decide) ?_
            refine az_zret dX7_rule_54 rfl (by first | exact Or.inl rfl | exact Or.inr rfl | assumption) ?_
            exact hQ1 _ ⟨m1, hA, fun k hk => by rw [az_w_ne _ (by omega), az_w_ne _ (by omega)]⟩ (by rw [az_w_same, az_w_same, zc_net_of hA (by omega)]) (fun k k1 k2 => by rw [az_w_ne _ (by omega), az_w_ne _ (by omega)]; exact zc_net_of hA (by omega))
          · have hq := hQ0 (fun h => h28 h.2.2.2)
            refine az_iconst (v := 0) dX7_rule_31 (by decide) ?_
            refine az_zret dX7_rule_32 rfl (by first | exact Or.inl rfl | exact Or.inr rfl | assumption) ?_
            exact hq
  refine az_body (by decide +kernel) (Nat.le_of_ble_eq_true rfl) ?_
  show az_Ev X _ mX7_rule 0 [some (.inr 0), some (.inl k), some (.inl r), none] [] mem Q
  refine az_iloadn dX7_rule_0 rfl ?_
  refine az_iconst (v := 3) dX7_rule_1 (by decide) ?_
  refine az_icmpne (t := 11) dX7_rule_2 (by decide) (fun h2 => ?_) (fun h2 => ?_)
  · rw [if_neg h2] at hmost; subst hmost
    refine az_iconst (v := 0) dX7_rule_11 (by decide) ?_
    refine az_istoren dX7_rule_12 (by decide) ?_
    dsimp only [List.set]
    exact main
  · rw [if_pos h2] at hmost; subst hmost
    refine az_sipush (v := 20000) dX7_rule_5 (by decide) ?_
    refine az_goto (t := 12) dX7_rule_8 (by decide) ?_
    refine az_istoren dX7_rule_12 (by decide) ?_
    dsimp only [List.set]
    exact main
theorem s_X7_may {f l : Int32} (hl : l = 0 ∨ l = 1) (hH : zc_H mem T C) (hZ : zc_Z mem 1) (hQ0 : ¬ (0 ≤ f ∧ f ≤ 3) → Q (some (.inl (-1))) mem) (hQ1 : (0 ≤ f ∧ f ≤ 3) → ∀ m', zc_act T C mem m' → m' 1 = upd (upd (mem 1) 3 f) 4 l → (∀ k, 2 ≤ k → k ≤ 6 → m' k = mem k) → Q (some (.inl (zm_need f l))) m') : az_Sp X (d + 5) mX7_may [.inr 0, .inl f, .inl l] mem Q := by
  refine az_body (by decide +kernel) (Nat.le_of_ble_eq_true rfl) ?_
  show az_Ev X _ mX7_may 0 [some (.inr 0), some (.inl f), some (.inl l)] [] mem Q
  refine az_iloadn dX7_may_0 rfl ?_
  refine az_iflt (t := 9) dX7_may_1 (by decide) (fun h1 => ?_) (fun h1 => ?_)
  · have hq := hQ0 (fun h => absurd h1 (Int32.not_lt.mpr h.1))
    refine az_iconst (v := -1) dX7_may_9 (by decide) ?_
    refine az_iret dX7_may_10 rfl ?_
    exact hq
  · refine az_iloadn dX7_may_4 rfl ?_
    refine az_iconst (v := 3) dX7_may_5 (by decide) ?_
    refine az_icmple (t := 11) dX7_may_6 (by decide) (fun h6 => ?_) (fun h6 => ?_)
    · have hQ1 := hQ1 ⟨Int32.not_lt.mp h1, h6⟩
      refine az_aloadn dX7_may_11 rfl ?_
      refine az_inv0 (N := mX7_beforeAct) dX7_may_12 lkX7_69 okX7_beforeAct sh_0 rfl (Nat.le_of_ble_eq_true rfl) ?_
      refine s_X7_beforeAct hH hZ (fun m1 hA => ?_)
      try dsimp only [az_ps]
      refine az_aloadn dX7_may_15 rfl ?_
      refine az_getr dX7_may_16 flX7_12 sh_0 rfl ?_
      refine az_iloadn dX7_may_19 rfl ?_
      refine az_puti dX7_may_20 plX7_118 sh_1 rfl ?_
      refine az_aloadn dX7_may_23 rfl ?_
      refine az_getr dX7_may_24 flX7_12 sh_0 rfl ?_
      refine az_iloadn dX7_may_27 rfl ?_
      refine az_putz dX7_may_28 plX7_121 sh_1 rfl hl ?_
      refine az_aloadn dX7_may_31 rfl ?_
      refine az_getr dX7_may_32 flX7_12 sh_0 rfl ?_
      refine az_inv0 (N := mX2_need) dX7_may_35 lkX7_124 okX2_need sh_1 rfl (Nat.le_of_ble_eq_true rfl) ?_
      refine s_X2_need (by rw [az_w_eq, if_pos ⟨rfl, rfl⟩]; exact hl) ?_
      rw [az_w_eq, if_neg (by decide), az_w_eq, if_pos ⟨rfl, rfl⟩, az_w_eq, if_pos ⟨rfl, rfl⟩]
      try dsimp only [az_ps]
      refine az_pc 38 (by decide) ?_
      refine az_iret dX7_may_38 rfl ?_
      exact hQ1 _ ⟨m1, hA, fun k hk => by rw [az_w_ne _ (by omega), az_w_ne _ (by omega)]⟩ (by rw [az_w_same, az_w_same, zc_net_of hA (by omega)]) (fun k k1 k2 => by rw [az_w_ne _ (by omega), az_w_ne _ (by omega)]; exact zc_net_of hA (by omega))
    · have hq := hQ0 (fun h => h6 h.2)
      refine az_iconst (v := -1) dX7_may_9 (by decide) ?_
      refine az_iret dX7_may_10 rfl ?_
      exact hq
theorem s_X7_want {l : Int32} (hl : l = 0 ∨ l = 1) (hH : zc_H mem T C) (hZ : zc_Z mem 1) (hQ1 : ∀ m', zc_act T C mem m' → m' 1 = upd (mem 1) 5 l → (∀ k, 2 ≤ k → k ≤ 6 → m' k = mem k) → Q none m') : az_Sp X (d + 5) mX7_want [.inr 0, .inl l] mem Q := by
  refine az_body (by decide +kernel) (Nat.le_of_ble_eq_true rfl) ?_
  show az_Ev X _ mX7_want 0 [some (.inr 0), some (.inl l)] [] mem Q
  refine az_aloadn dX7_want_0 rfl ?_
  refine az_inv0 (N := mX7_beforeAct) dX7_want_1 lkX7_69 okX7_beforeAct sh_0 rfl (Nat.le_of_ble_eq_true rfl) ?_
  refine s_X7_beforeAct hH hZ (fun m1 hA => ?_)
  try dsimp only [az_ps]
  refine az_aloadn dX7_want_4 rfl ?_
  refine az_getr dX7_want_5 flX7_12 sh_0 rfl ?_
  refine az_iloadn dX7_want_8 rfl ?_
  refine az_putz dX7_want_9 plX7_128 sh_1 rfl hl ?_
  refine az_vret dX7_want_12 rfl ?_
  exact hQ1 _ ⟨m1, hA, fun k hk => by rw [az_w_ne _ (by omega)]⟩ (by rw [az_w_same, zc_net_of hA (by omega)]) (fun k k1 k2 => by rw [az_w_ne _ (by omega)]; exact zc_net_of hA (by omega))
end CB

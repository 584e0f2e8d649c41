/-! the model's walk, act, gather -/
theorem az_w_same (mem : az_M) (k j : Nat) (v : Int32) : az_w mem k j v k = upd (mem k) j v := by simp [az_w, az_st]
theorem az_w_ne (mem : az_M) {k j a : Nat} {v : Int32} (h : a ≠ k) : az_w mem k j v a = mem a := by simp [az_w, az_st, h]
theorem zm_upd_eq (f : Nat → Int32) (k j : Nat) (v : Int32) : upd f k v j = if j = k then v else f j := rfl
def zw_st (a k b : Nat) (w : Nat → Int32) : Nat → Int32 := if w (16 * a + k) + w (16 * k + b) < w (16 * a + b) then upd w (16 * a + b) (w (16 * a + k) + w (16 * k + b)) else w
def zw_b (a k : Nat) : Nat → Nat → (Nat → Int32) → Nat → Int32
  | 0, _, w => w
  | n + 1, b, w => zw_b a k n (b + 1) (zw_st a k b w)
def zw_a (N k : Nat) : Nat → Nat → (Nat → Int32) → Nat → Int32
  | 0, _, w => w
  | n + 1, a, w => zw_a N k n (a + 1) (zw_b a k N 0 w)
def zw_k (N : Nat) : Nat → Nat → (Nat → Int32) → Nat → Int32
  | 0, _, w => w
  | n + 1, k, w => zw_k N n (k + 1) (zw_a N k N 0 w)
/-- the ways ahead of all rounds -/
def zw_0 (len : Nat → Int32) (i : Nat) : Int32 := if i / 16 = i % 16 then 0 else if 0 < len i then len i else 1000000
def zw_00 (len old : Nat → Int32) (i : Nat) : Int32 := if i < 256 then zw_0 len i else old i
def zs_says (S w : Nat → Int32) (m p : Nat) : Int32 :=
  if S 1 = 0 then w (16 * m + p) else if S 1 = 1 then (if 0 < zm_len S (16 * m + p) ∨ m = p then 1 else 0) else if S 1 = 2 then (if 0 < zm_len S (16 * m + p) then 1 else 0) else if S 1 = 3 then (if w (16 * m + p) ≤ S 2 then 1 else 0) else (if w (16 * m + p) ≤ S (263 + m) then 1 else 0)
abbrev zm_rd (S : Nat → Int32) (a b v : Int32) : Prop := (0 ≤ a ∧ a < S 0) ∧ (0 ≤ b ∧ b < S 0) ∧ a ≠ b ∧ 1 ≤ v ∧ v ≤ 1000 ∧ zm_len S (16 * a.toNatClampNeg + b.toNatClampNeg) = 0
theorem zi_of {x : Int32} {N : Nat} (hN : N < 2 ^ 31) (h : 0 ≤ x ∧ x < nI N) : x.toNatClampNeg < N ∧ x = nI x.toNatClampNeg := by
  obtain ⟨j, hj, rfl⟩ := nI_of (x := x) (Int32.not_lt.mpr h.1)
  rw [nI_clamp hj]
  exact ⟨(nI_ltI hj hN).mp h.2, rfl⟩
theorem zi_ne {x : Int32} {k : Nat} (hk : k < 2 ^ 31) (h : ¬ x = nI k) : x.toInt ≠ (k : Int) := by
  intro he
  apply h
  apply Int32.toInt_inj.mp
  rw [he, nI_toInt hk]
section MC
variable {X : az_X} {d : Nat} {mem : az_M} {Q : Option az_V → az_M → Prop} {N : Nat}
theorem t_X8_length {a b : Int32} {A B : Nat} (ea : a = nI A) (eb : b = nI B) (ha : A < 16) (hb : B < 16) (hQ : Q (some (.inl (zm_len (mem 392) (16 * A + B)))) mem) : az_Sp X d mX8_length [.inr 391, .inl a, .inl b] mem Q := by
  subst ea; subst eb; exact s_X8_length ha hb hQ
theorem s_X8_isRoad {a b v : Int32} [Decidable (zm_rd (mem 392) a b v)] (hn : mem 392 0 = nI N) (hN : N ≤ 16) (hQ : Q (some (.inl (if zm_rd (mem 392) a b v then 1 else 0))) mem) : az_Sp X (d + 2) mX8_isRoad [.inr 391, .inl a, .inl b, .inl v] mem Q := by
  refine az_body (by decide +kernel) (Nat.le_of_ble_eq_true rfl) ?_
  show az_Ev X _ mX8_isRoad 0 [some (.inr 391), some (.inl a), some (.inl b), some (.inl v)] [] mem Q
  refine az_aloadn dX8_isRoad_0 rfl ?_
  refine az_iloadn dX8_isRoad_1 rfl ?_
  refine az_inv1 (N := mX8_isPost) dX8_isRoad_2 lkX8_66 okX8_isPost sh_391 rfl (Nat.le_of_ble_eq_true rfl) ?_
  refine s_X8_isPost ?_
  try dsimp only [az_ps]
  refine az_ifeq (t := 46) dX8_isRoad_5 (by decide) (fun h5 => ?_) (fun h5 => ?_)
  · replace h5 := zb_z h5
    rw [if_neg (fun h => h5 h.1)] at hQ
    refine az_iconst (v := 0) dX8_isRoad_46 (by decide) ?_
    refine az_zret dX8_isRoad_47 rfl (by first | exact Or.inl rfl | exact Or.inr rfl | assumption) ?_
    exact hQ
  · replace h5 := zb_n h5
    refine az_aloadn dX8_isRoad_8 rfl ?_
    refine az_iloadn dX8_isRoad_9 rfl ?_
    refine az_inv1 (N := mX8_isPost) dX8_isRoad_10 lkX8_66 okX8_isPost sh_391 rfl (Nat.le_of_ble_eq_true rfl) ?_
    refine s_X8_isPost ?_
    try dsimp only [az_ps]
    refine az_ifeq (t := 46) dX8_isRoad_13 (by decide) (fun h13 => ?_) (fun h13 => ?_)
    · replace h13 := zb_z h13
      rw [if_neg (fun h => h13 h.2.1)] at hQ
      refine az_iconst (v := 0) dX8_isRoad_46 (by decide) ?_
      refine az_zret dX8_isRoad_47 rfl (by first | exact Or.inl rfl | exact Or.inr rfl | assumption) ?_
      exact hQ
    · replace h13 := zb_n h13
      refine az_iloadn dX8_isRoad_16 rfl ?_
      refine az_iloadn dX8_isRoad_17 rfl ?_
      refine az_icmpeq (t := 46) dX8_isRoad_18 (by decide) (fun h18 => ?_) (fun h18 => ?_)
      · rw [if_neg (fun h => h.2.2.1 h18)] at hQ
        refine az_iconst (v := 0) dX8_isRoad_46 (by decide) ?_
        refine az_zret dX8_isRoad_47 rfl (by first | exact Or.inl rfl | exact Or.inr rfl | assumption) ?_
        exact hQ
      · refine az_iloadn dX8_isRoad_21 rfl ?_
        refine az_iconst (v := 1) dX8_isRoad_22 (by decide) ?_
        refine az_icmplt (t := 46) dX8_isRoad_23 (by decide) (fun h23 => ?_) (fun h23 => ?_)
        · rw [if_neg (fun h => absurd h23 (Int32.not_lt.mpr h.2.2.2.1))] at hQ
          refine az_iconst (v := 0) dX8_isRoad_46 (by decide) ?_
          refine az_zret dX8_isRoad_47 rfl (by first | exact Or.inl rfl | exact Or.inr rfl | assumption) ?_
          exact hQ
        · refine az_iloadn dX8_isRoad_26 rfl ?_
          refine az_sipush (v := 1000) dX8_isRoad_27 (by decide) ?_
          refine az_icmpgt (t := 46) dX8_isRoad_30 (by decide) (fun h30 => ?_) (fun h30 => ?_)
          · rw [if_neg (fun h => absurd h30 (Int32.not_lt.mpr h.2.2.2.2.1))] at hQ
            refine az_iconst (v := 0) dX8_isRoad_46 (by decide) ?_
            refine az_zret dX8_isRoad_47 rfl (by first | exact Or.inl rfl | exact Or.inr rfl | assumption) ?_
            exact hQ
          · rw [hn] at h5 h13
            have ea := zi_of (by omega) h5
            have eb := zi_of (by omega) h13
            refine az_aloadn dX8_isRoad_33 rfl ?_
            refine az_iloadn dX8_isRoad_34 rfl ?_
            refine az_iloadn dX8_isRoad_35 rfl ?_
            refine az_inv2 (N := mX8_length) dX8_isRoad_36 lkX8_70 okX8_length sh_391 rfl (Nat.le_of_ble_eq_true rfl) ?_
            refine t_X8_length ea.2 eb.2 (by omega) (by omega) ?_
            try dsimp only [az_ps]
            refine az_ifne (t := 46) dX8_isRoad_39 (by decide) (fun h39 => ?_) (fun h39 => ?_)
            · rw [if_neg (fun h => h39 h.2.2.2.2.2)] at hQ
              refine az_iconst (v := 0) dX8_isRoad_46 (by decide) ?_
              refine az_zret dX8_isRoad_47 rfl (by first | exact Or.inl rfl | exact Or.inr rfl | assumption) ?_
              exact hQ
            · rw [if_pos ⟨by rw [hn]; exact h5, by rw [hn]; exact h13, h18, Int32.not_lt.mp h23, Int32.not_lt.mp h30, h39⟩] at hQ
              refine az_iconst (v := 1) dX8_isRoad_42 (by decide) ?_
              refine az_goto (t := 47) dX8_isRoad_43 (by decide) ?_
              refine az_zret dX8_isRoad_47 rfl (by first | exact Or.inl rfl | exact Or.inr rfl | assumption) ?_
              exact hQ
theorem s_X8_gather (hn : mem 392 0 = nI N) (hN : N ≤ 16) (hQ : ∀ m', (∀ k, k ≠ 397 → k ≠ 398 → m' k = mem k) → (∀ a b, a < b → b < N → m' 397 (16 * a + b) = zm_mask (zm_pf (mem 396) a b) N) → (∀ p, p < N → m' 398 p = zm_mask (zm_yf (mem 392 1) (mem 396) p) N) → Q none m') : az_Sp X (d + 3) mX8_gather [.inr 391] mem Q := by
  refine az_body (by decide +kernel) (Nat.le_of_ble_eq_true rfl) ?_
  show az_Ev X _ mX8_gather 0 [some (.inr 391), none, none] [] mem Q
  refine az_iconst (v := 0) dX8_gather_0 (by decide) ?_
  refine az_istoren dX8_gather_1 (by decide) ?_
  dsimp only [List.set]
  skip
  refine az_up (fun i => ∀ m' L2, (∀ k, k ≠ 397 → k ≠ 398 → m' k = mem k) → (∀ a b, a < i → a < b → b < N → m' 397 (16 * a + b) = zm_mask (zm_pf (mem 396) a b) N) → (∀ p, p < i → m' 398 p = zm_mask (zm_yf (mem 392 1) (mem 396) p) N) → az_Ev X (d + 3) mX8_gather 2 [some (.inr 391), some (.inl (nI i)), L2] [] m' Q) N 0 (by omega) (fun i _ hi ih m' L2 hf h1 h2 => ?_) (fun m' L2 hf h1 h2 => ?_) mem none (fun _ _ _ => rfl) (fun a b h => absurd h (by omega)) (fun p h => absurd h (by omega))
  · have hn' : m' 392 0 = nI N := by rw [hf 392 (by decide) (by decide)]; exact hn
    refine az_iloadn dX8_gather_2 rfl ?_
    refine az_aloadn dX8_gather_3 rfl ?_
    refine az_inv0 (N := mX8_n) dX8_gather_4 lkX8_62 okX8_n sh_391 rfl (Nat.le_of_ble_eq_true rfl) ?_
    refine t_X8_n hn' ?_
    try dsimp only [az_ps]
    refine az_icmpge (t := 62) dX8_gather_7 (by decide) (fun h7 => ?_) (fun h7 => ?_)
    · exact absurd h7 (nI_ge (by omega) (by omega))
    refine az_aloadn dX8_gather_10 rfl ?_
    refine az_getr dX8_gather_11 flX8_29 sh_391 rfl ?_
    refine az_iloadn dX8_gather_14 rfl ?_
    refine az_aloadn dX8_gather_15 rfl ?_
    refine az_iloadn dX8_gather_16 rfl ?_
    refine az_inv1 (N := mX8_yes) dX8_gather_17 lkX8_121 okX8_yes sh_391 rfl (Nat.le_of_ble_eq_true rfl) ?_
    refine s_X8_yes hn' hN (by omega) ?_
    rw [hf 392 (by decide) (by decide), hf 396 (by decide) (by decide)]
    try dsimp only [az_ps]
    refine az_iast (i) dX8_gather_20 sh_398 (by omega) (by decide) (by simp only [az_lit, nI_add, pk_mul, Nat.add_assoc]) ?_
    refine az_iloadn dX8_gather_21 rfl ?_
    refine az_iconst (v := 1) dX8_gather_22 (by decide) ?_
    refine az_iadd dX8_gather_23 ?_
    refine az_istoren dX8_gather_24 (by decide) ?_
    dsimp only [List.set]
    rw [nI_1]
    refine az_up (fun j => ∀ m', (∀ k, k ≠ 397 → k ≠ 398 → m' k = mem k) → (∀ a b, a < i → a < b → b < N → m' 397 (16 * a + b) = zm_mask (zm_pf (mem 396) a b) N) → (∀ b, i < b → b < j → m' 397 (16 * i + b) = zm_mask (zm_pf (mem 396) i b) N) → (∀ p, p < i + 1 → m' 398 p = zm_mask (zm_yf (mem 392 1) (mem 396) p) N) → az_Ev X (d + 3) mX8_gather 25 [some (.inr 391), some (.inl (nI i)), some (.inl (nI j))] [] m' Q) N (i + 1) (by omega) (fun j hj1 hj ih2 m' hf h1 h3 h2 => ?_) (fun m' hf h1 h3 h2 => ?_) _ ?_ ?_ ?_ ?_
    · have hn' : m' 392 0 = nI N := by rw [hf 392 (by decide) (by decide)]; exact hn
      refine az_iloadn dX8_gather_25 rfl ?_
      refine az_aloadn dX8_gather_26 rfl ?_
      refine az_inv0 (N := mX8_n) dX8_gather_27 lkX8_62 okX8_n sh_391 rfl (Nat.le_of_ble_eq_true rfl) ?_
      refine t_X8_n hn' ?_
      try dsimp only [az_ps]
      refine az_icmpge (t := 56) dX8_gather_30 (by decide) (fun h30 => ?_) (fun h30 => ?_)
      · exact absurd h30 (nI_ge (by omega) (by omega))
      refine az_aloadn dX8_gather_33 rfl ?_
      refine az_getr dX8_gather_34 flX8_26 sh_391 rfl ?_
      refine az_bipush (v := 16) dX8_gather_37 (by decide) ?_
      refine az_iloadn dX8_gather_39 rfl ?_
      refine az_imul dX8_gather_40 ?_
      refine az_iloadn dX8_gather_41 rfl ?_
      refine az_iadd dX8_gather_42 ?_
      refine az_aloadn dX8_gather_43 rfl ?_
      refine az_iloadn dX8_gather_44 rfl ?_
      refine az_iloadn dX8_gather_45 rfl ?_
      refine az_inv2 (N := mX8_parting) dX8_gather_46 lkX8_111 okX8_parting sh_391 rfl (Nat.le_of_ble_eq_true rfl) ?_
      refine s_X8_parting hn' hN (by omega) (by omega) ?_
      rw [hf 396 (by decide) (by decide)]
      try dsimp only [az_ps]
      refine az_iast (16 * i + j) dX8_gather_49 sh_397 (by omega) (by decide) (by simp only [az_lit, nI_add, pk_mul, Nat.add_assoc]) ?_
      refine az_iinc (w := 1) dX8_gather_50 rfl (by decide) (by decide) ?_
      dsimp only [List.set]
      refine az_goto (t := 25) dX8_gather_53 (by decide) ?_
      rw [nI_1]
      refine ih2 _ (fun k hk1 hk2 => by rw [az_w_ne _ hk1]; exact hf k hk1 hk2) (fun a b ha hb hb2 => ?_) (fun b hb1 hb2 => ?_) (fun p hp => by rw [az_w_ne _ (by decide)]; exact h2 p hp)
      · rw [az_w_eq, if_neg (by omega)]; exact h1 a b ha hb hb2
      · rw [az_w_eq]
        by_cases hbj : b = j
        · rw [if_pos ⟨rfl, by omega⟩, hbj]
        · rw [if_neg (by omega)]; exact h3 b hb1 (by omega)
    · have hn' : m' 392 0 = nI N := by rw [hf 392 (by decide) (by decide)]; exact hn
      refine az_iloadn dX8_gather_25 rfl ?_
      refine az_aloadn dX8_gather_26 rfl ?_
      refine az_inv0 (N := mX8_n) dX8_gather_27 lkX8_62 okX8_n sh_391 rfl (Nat.le_of_ble_eq_true rfl) ?_
      refine t_X8_n hn' ?_
      try dsimp only [az_ps]
      refine az_icmpge (t := 56) dX8_gather_30 (by decide) (fun h30 => ?_) (fun h30 => ?_)
      rotate_left 1
      · exact absurd (Int32.le_refl _) h30
      refine az_iinc (w := 1) dX8_gather_56 rfl (by decide) (by decide) ?_
      dsimp only [List.set]
      refine az_goto (t := 2) dX8_gather_59 (by decide) ?_
      rw [nI_1]
      refine ih _ _ hf (fun a b ha hb hb2 => ?_) h2
      rcases Nat.lt_or_ge a i with q | q
      · exact h1 a b q hb hb2
      · have : a = i := by omega
        subst this; exact h3 b hb hb2
    · exact fun k hk1 hk2 => by rw [az_w_ne _ hk2]; exact hf k hk1 hk2
    · exact fun a b ha hb hb2 => by rw [az_w_ne _ (by decide)]; exact h1 a b ha hb hb2
    · exact fun b hb1 hb2 => absurd hb1 (by omega)
    · intro p hp
      rw [az_w_eq]
      by_cases hpi : p = i
      · rw [if_pos ⟨rfl, hpi⟩, hpi]
      · rw [if_neg (by omega)]; exact h2 p (by omega)
  · have hn' : m' 392 0 = nI N := by rw [hf 392 (by decide) (by decide)]; exact hn
    refine az_iloadn dX8_gather_2 rfl ?_
    refine az_aloadn dX8_gather_3 rfl ?_
    refine az_inv0 (N := mX8_n) dX8_gather_4 lkX8_62 okX8_n sh_391 rfl (Nat.le_of_ble_eq_true rfl) ?_
    refine t_X8_n hn' ?_
    try dsimp only [az_ps]
    refine az_icmpge (t := 62) dX8_gather_7 (by decide) (fun h7 => ?_) (fun h7 => ?_)
    rotate_left 1
    · exact absurd (Int32.le_refl _) h7
    refine az_vret dX8_gather_62 rfl ?_
    exact hQ m' hf (fun a b h1' h2' => h1 a b (by omega) h1' h2') h2
theorem s_X8_act {t c : Nat} (ht : mem 391 3 = nI t) (ht2 : t < 60) (hc : mem 391 2 = nI c) (hc2 : c ≤ 60) (hQ : ∀ m', (∀ k, k ≠ 391 → k ≠ 393 → m' k = mem k) → (∀ j, m' 391 j = if j = 3 then nI ((t + 1) % 60) else if j = 2 then nI (if c < 60 then c + 1 else c) else mem 391 j) → (∀ k, k < 600 → m' 393 (600 * ((t + 1) % 60) + k) = mem 392 k) → (∀ i k, i < 60 → i ≠ (t + 1) % 60 → k < 600 → m' 393 (600 * i + k) = mem 393 (600 * i + k)) → Q none m') : az_Sp X (d + 1) mX8_act [.inr 391] mem Q := by
  have hm : (t + 1) % 60 < 60 := Nat.mod_lt _ (by decide)
  refine az_body (by decide +kernel) (Nat.le_of_ble_eq_true rfl) ?_
  show az_Ev X _ mX8_act 0 [some (.inr 391), none] [] mem Q
  refine az_aloadn dX8_act_0 rfl ?_
  refine az_aloadn dX8_act_1 rfl ?_
  refine az_geti dX8_act_2 flX8_55 sh_391 rfl ?_
  refine az_iconst (v := 1) dX8_act_5 (by decide) ?_
  refine az_iadd dX8_act_6 ?_
  refine az_bipush (v := 60) dX8_act_7 (by decide) ?_
  refine az_irem dX8_act_9 (by decide) ?_
  refine az_puti dX8_act_10 plX8_55 sh_391 rfl ?_
  refine az_iconst (v := 0) dX8_act_13 (by decide) ?_
  refine az_istoren dX8_act_14 (by decide) ?_
  dsimp only [List.set]
  skip
  have e1 : (mem 391 3 + 1 - (mem 391 3 + 1) / 60 * 60) = nI ((t + 1) % 60) := by
    rw [ht, nI_1]; exact pk_rem (a := t + 1) (d := 60) (by omega) (by decide) (by decide)
  rw [e1]
  generalize hs : (t + 1) % 60 = s at hm hQ ⊢
  refine az_up (fun i => ∀ m', (∀ k, k ≠ 391 → k ≠ 393 → m' k = mem k) → (m' 391 = upd (mem 391) 3 (nI s)) → (∀ k, k < i → m' 393 (600 * s + k) = mem 392 k) → (∀ i k, i < 60 → i ≠ s → k < 600 → m' 393 (600 * i + k) = mem 393 (600 * i + k)) → az_Ev X (d + 1) mX8_act 15 [some (.inr 391), some (.inl (nI i))] [] m' Q) 600 0 (by omega) (fun i _ hi ih m' hf h1 h2 h3 => ?_) (fun m' hf h1 h2 h3 => ?_) _ ?_ ?_ ?_ ?_
  · refine az_iloadn dX8_act_15 rfl ?_
    refine az_sipush (v := 600) dX8_act_16 (by decide) ?_
    refine az_icmpge (t := 49) dX8_act_19 (by decide) (fun h19 => ?_) (fun h19 => ?_)
    · exact absurd h19 (nI_ge (b := 600) hi (by decide))
    refine az_aloadn dX8_act_22 rfl ?_
    refine az_getr dX8_act_23 flX8_14 sh_391 rfl ?_
    refine az_sipush (v := 600) dX8_act_26 (by decide) ?_
    refine az_aloadn dX8_act_29 rfl ?_
    refine az_geti dX8_act_30 flX8_55 sh_391 rfl ?_
    refine az_imul dX8_act_33 ?_
    refine az_iloadn dX8_act_34 rfl ?_
    refine az_iadd dX8_act_35 ?_
    refine az_aloadn dX8_act_36 rfl ?_
    refine az_getr dX8_act_37 flX8_7 sh_391 rfl ?_
    refine az_iloadn dX8_act_40 rfl ?_
    refine az_iald (i) dX8_act_41 sh_392 (by omega) (by decide) (by simp only [az_lit, nI_add, pk_mul, Nat.add_assoc]) ?_
    refine az_iast (600 * s + i) dX8_act_42 sh_393 (by omega) (by decide) (by rw [h1, zm_upd_eq, if_pos rfl]; simp only [az_lit, nI_add, pk_mul]) ?_
    refine az_iinc (w := 1) dX8_act_43 rfl (by decide) (by decide) ?_
    dsimp only [List.set]
    refine az_goto (t := 15) dX8_act_46 (by decide) ?_
    rw [nI_1, hf 392 (by decide) (by decide)]
    refine ih _ (fun k hk1 hk2 => by rw [az_w_ne _ hk2]; exact hf k hk1 hk2) (by rw [az_w_ne _ (by decide)]; exact h1) (fun k hk => ?_) (fun a k ha hb hk => ?_)
    · rw [az_w_eq]
      by_cases hki : k = i
      · rw [if_pos ⟨rfl, by omega⟩, hki]
      · rw [if_neg (by omega)]; exact h2 k (by omega)
    · rw [az_w_eq, if_neg (by omega)]; exact h3 a k ha hb hk
  · have ec : m' 391 2 = nI c := by rw [h1, zm_upd_eq, if_neg (by decide)]; exact hc
    refine az_iloadn dX8_act_15 rfl ?_
    refine az_sipush (v := 600) dX8_act_16 (by decide) ?_
    refine az_icmpge (t := 49) dX8_act_19 (by decide) (fun h19 => ?_) (fun h19 => ?_)
    rotate_left 1
    · exact absurd (Int32.le_refl _) h19
    refine az_aloadn dX8_act_49 rfl ?_
    refine az_geti dX8_act_50 flX8_59 sh_391 rfl ?_
    refine az_bipush (v := 60) dX8_act_53 (by decide) ?_
    rw [ec]
    refine az_icmpge (t := 68) dX8_act_55 (by decide) (fun h55 => ?_) (fun h55 => ?_)
    · have hc60 : ¬ c < 60 := fun h => absurd h55 (nI_ge (b := 60) h (by decide))
      rw [if_neg hc60] at hQ
      have fin : Q none m' := by
        refine hQ m' hf (fun j => ?_) h2 h3
        rw [h1, zm_upd_eq]
        by_cases h2 : j = 2
        · subst h2; rw [if_neg (by decide), if_neg (by decide), if_pos rfl]; exact hc
        · rw [if_neg h2]
      refine az_vret dX8_act_68 rfl ?_
      exact fin
    · have hc60 : c < 60 := (nI_ltI (by omega) (by decide)).mp (Int32.not_le.mp h55)
      rw [if_pos hc60] at hQ
      have fin : Q none (az_w m' 391 2 (nI (c + 1))) := by
        refine hQ _ (fun k h1 h2 => by rw [az_w_ne _ h1]; exact hf k h1 h2) (fun j => ?_) (fun k hk => by rw [az_w_ne _ (by decide)]; exact h2 k hk) (fun i k g1 g2 g3 => by rw [az_w_ne _ (by decide)]; exact h3 i k g1 g2 g3)
        rw [az_w_same, h1, zm_upd_eq, zm_upd_eq]
        by_cases h3 : j = 3
        · rw [if_neg (by omega), if_pos h3, if_pos h3]
        · rw [if_neg h3, if_neg h3]
      refine az_aloadn dX8_act_58 rfl ?_
      refine az_dup dX8_act_59 ?_
      refine az_geti dX8_act_60 flX8_59 sh_391 rfl ?_
      refine az_iconst (v := 1) dX8_act_63 (by decide) ?_
      refine az_iadd dX8_act_64 ?_
      rw [ec, nI_1]
      refine az_puti dX8_act_65 plX8_59 sh_391 rfl ?_
      refine az_vret dX8_act_68 rfl ?_
      exact fin
  · exact fun k hk1 hk2 => by rw [az_w_ne _ hk1]
  · rw [az_w_same]
  · exact fun k hk => absurd hk (by omega)
  · exact fun i k h1 h2 h3 => by rw [az_w_ne _ (by decide)]
theorem s_X8_says {m p : Nat} (hm : m < 16) (hp : p < 16) (hQ : Q (some (.inl (zs_says (mem 392) (mem 395) m p))) mem) : az_Sp X (d + 1) mX8_says [.inr 391, .inl (nI m), .inl (nI p)] mem Q := by
  refine az_body (by decide +kernel) (Nat.le_of_ble_eq_true rfl) ?_
  show az_Ev X _ mX8_says 0 [some (.inr 391), some (.inl (nI m)), some (.inl (nI p)), none, none] [] mem Q
  unfold zs_says at hQ
  refine az_aloadn dX8_says_0 rfl ?_
  refine az_getr dX8_says_1 flX8_20 sh_391 rfl ?_
  refine az_bipush (v := 16) dX8_says_4 (by decide) ?_
  refine az_iloadn dX8_says_6 rfl ?_
  refine az_imul dX8_says_7 ?_
  refine az_iloadn dX8_says_8 rfl ?_
  refine az_iadd dX8_says_9 ?_
  refine az_iald (16 * m + p) dX8_says_10 sh_395 (by omega) (by decide) (by simp only [az_lit, nI_add, pk_mul, Nat.add_assoc]) ?_
  refine az_istoren dX8_says_11 (by decide) ?_
  dsimp only [List.set]
  refine az_aloadn dX8_says_12 rfl ?_
  refine az_iloadn dX8_says_13 rfl ?_
  refine az_iloadn dX8_says_14 rfl ?_
  refine az_inv2 (N := mX8_length) dX8_says_15 lkX8_70 okX8_length sh_391 rfl (Nat.le_of_ble_eq_true rfl) ?_
  refine s_X8_length (by omega) (by omega) ?_
  try dsimp only [az_ps]
  refine az_ifle (t := 25) dX8_says_18 (by decide) (fun h18 => ?_) (fun h18 => ?_)
  · have h18' : ¬ 0 < zm_len (mem 392) (16 * m + p) := fun h => absurd h18 (Int32.not_le.mpr h)
    refine az_iconst (v := 0) dX8_says_25 (by decide) ?_
    refine az_istore dX8_says_26 (by decide) ?_
    dsimp only [List.set]
    refine az_aloadn dX8_says_28 rfl ?_
    refine az_getr dX8_says_29 flX8_7 sh_391 rfl ?_
    refine az_iconst (v := 1) dX8_says_32 (by decide) ?_
    refine az_iald (1) dX8_says_33 sh_392 (by omega) (by decide) (by simp only [az_lit, nI_add, pk_mul, Nat.add_assoc]) ?_
    by_cases hs34_0 : mem 392 1 = 0
    · refine az_tin (off := 30) (t := 64) dX8_says_34 (by rw [hs34_0]; decide) (by rw [hs34_0]; decide) (by rw [hs34_0]; decide) (by decide) ?_
      rw [if_pos hs34_0] at hQ
      refine az_iloadn dX8_says_64 rfl ?_
      refine az_iret dX8_says_65 rfl ?_
      exact hQ
    by_cases hs34_1 : mem 392 1 = 1
    · refine az_tin (off := 32) (t := 66) dX8_says_34 (by rw [hs34_1]; decide) (by rw [hs34_1]; decide) (by rw [hs34_1]; decide) (by decide) ?_
      rw [if_neg hs34_0, if_pos hs34_1] at hQ
      refine az_iload dX8_says_66 rfl ?_
      refine az_ifne (t := 76) dX8_says_68 (by decide) (fun h68 => ?_) (fun h68 => ?_)
      · refine az_iconst (v := 1) dX8_says_76 (by decide) ?_
        refine az_goto (t := 81) dX8_says_77 (by decide) ?_
        refine az_iret dX8_says_81 rfl ?_
        first | exact hQ | (rw [if_pos (Or.inl h18')] at hQ; exact hQ) | (exact absurd rfl h68) | (exact absurd h68 (by decide)) | (rw [if_neg (fun h => h.elim h18' (fun q => h73 (by rw [q])))] at hQ; exact hQ) | (rw [if_pos (Or.inr ((nI_eq (by omega) (by omega)).mp h73))] at hQ; exact hQ)
      · refine az_iloadn dX8_says_71 rfl ?_
        refine az_iloadn dX8_says_72 rfl ?_
        refine az_icmpne (t := 80) dX8_says_73 (by decide) (fun h73 => ?_) (fun h73 => ?_)
        · refine az_iconst (v := 0) dX8_says_80 (by decide) ?_
          refine az_iret dX8_says_81 rfl ?_
          first | exact hQ | (rw [if_pos (Or.inl h18')] at hQ; exact hQ) | (exact absurd rfl h68) | (exact absurd h68 (by decide)) | (rw [if_neg (fun h => h.elim h18' (fun q => h73 (by rw [q])))] at hQ; exact hQ) | (rw [if_pos (Or.inr ((nI_eq (by omega) (by omega)).mp h73))] at hQ; exact hQ)
        · refine az_iconst (v := 1) dX8_says_76 (by decide) ?_
          refine az_goto (t := 81) dX8_says_77 (by decide) ?_
          refine az_iret dX8_says_81 rfl ?_
          first | exact hQ | (rw [if_pos (Or.inl h18')] at hQ; exact hQ) | (exact absurd rfl h68) | (exact absurd h68 (by decide)) | (rw [if_neg (fun h => h.elim h18' (fun q => h73 (by rw [q])))] at hQ; exact hQ) | (rw [if_pos (Or.inr ((nI_eq (by omega) (by omega)).mp h73))] at hQ; exact hQ)
    by_cases hs34_2 : mem 392 1 = 2
    · refine az_tin (off := 48) (t := 82) dX8_says_34 (by rw [hs34_2]; decide) (by rw [hs34_2]; decide) (by rw [hs34_2]; decide) (by decide) ?_
      rw [if_neg hs34_0, if_neg hs34_1, if_pos hs34_2] at hQ
      refine az_iload dX8_says_82 rfl ?_
      refine az_ifeq (t := 91) dX8_says_84 (by decide) (fun h84 => ?_) (fun h84 => ?_)
      · refine az_iconst (v := 0) dX8_says_91 (by decide) ?_
        refine az_iret dX8_says_92 rfl ?_
        first | exact hQ | (rw [if_pos h18'] at hQ; exact hQ) | (exact absurd rfl h84) | (exact absurd h84 (by decide)) | (rw [if_neg h18'] at hQ; exact hQ)
      · refine az_iconst (v := 1) dX8_says_87 (by decide) ?_
        refine az_goto (t := 92) dX8_says_88 (by decide) ?_
        refine az_iret dX8_says_92 rfl ?_
        first | exact hQ | (rw [if_pos h18'] at hQ; exact hQ) | (exact absurd rfl h84) | (exact absurd h84 (by decide)) | (rw [if_neg h18'] at hQ; exact hQ)
    by_cases hs34_3 : mem 392 1 = 3
    · refine az_tin (off := 59) (t := 93) dX8_says_34 (by rw [hs34_3]; decide) (by rw [hs34_3]; decide) (by rw [hs34_3]; decide) (by decide) ?_
      rw [if_neg hs34_0, if_neg hs34_1, if_neg hs34_2, if_pos hs34_3] at hQ
      refine az_iloadn dX8_says_93 rfl ?_
      refine az_aloadn dX8_says_94 rfl ?_
      refine az_getr dX8_says_95 flX8_7 sh_391 rfl ?_
      refine az_iconst (v := 2) dX8_says_98 (by decide) ?_
      refine az_iald (2) dX8_says_99 sh_392 (by omega) (by decide) (by simp only [az_lit, nI_add, pk_mul, Nat.add_assoc]) ?_
      refine az_icmpgt (t := 107) dX8_says_100 (by decide) (fun h100 => ?_) (fun h100 => ?_)
      · rw [if_neg (fun h => absurd h100 (Int32.not_lt.mpr h))] at hQ
        refine az_iconst (v := 0) dX8_says_107 (by decide) ?_
        refine az_iret dX8_says_108 rfl ?_
        exact hQ
      · rw [if_pos (Int32.not_lt.mp h100)] at hQ
        refine az_iconst (v := 1) dX8_says_103 (by decide) ?_
        refine az_goto (t := 108) dX8_says_104 (by decide) ?_
        refine az_iret dX8_says_108 rfl ?_
        exact hQ
    refine az_tout (t := 109) dX8_says_34 (by have g0 := zi_ne (k := 0) (by decide) hs34_0; have g1 := zi_ne (k := 1) (by decide) hs34_1; have g2 := zi_ne (k := 2) (by decide) hs34_2; have g3 := zi_ne (k := 3) (by decide) hs34_3; omega) (by decide) ?_
    rw [if_neg hs34_0, if_neg hs34_1, if_neg hs34_2, if_neg hs34_3] at hQ
    refine az_iloadn dX8_says_109 rfl ?_
    refine az_aloadn dX8_says_110 rfl ?_
    refine az_getr dX8_says_111 flX8_7 sh_391 rfl ?_
    refine az_sipush (v := 263) dX8_says_114 (by decide) ?_
    refine az_iloadn dX8_says_117 rfl ?_
    refine az_iadd dX8_says_118 ?_
    refine az_iald (263 + m) dX8_says_119 sh_392 (by omega) (by decide) (by simp only [az_lit, nI_add, pk_mul, Nat.add_assoc]) ?_
    refine az_icmpgt (t := 127) dX8_says_120 (by decide) (fun h120 => ?_) (fun h120 => ?_)
    · rw [if_neg (fun h => absurd h120 (Int32.not_lt.mpr h))] at hQ
      refine az_iconst (v := 0) dX8_says_127 (by decide) ?_
      refine az_iret dX8_says_128 rfl ?_
      exact hQ
    · rw [if_pos (Int32.not_lt.mp h120)] at hQ
      refine az_iconst (v := 1) dX8_says_123 (by decide) ?_
      refine az_goto (t := 128) dX8_says_124 (by decide) ?_
      refine az_iret dX8_says_128 rfl ?_
      exact hQ
  · have h18' : 0 < zm_len (mem 392) (16 * m + p) := Int32.not_le.mp h18
    refine az_iconst (v := 1) dX8_says_21 (by decide) ?_
    refine az_goto (t := 26) dX8_says_22 (by decide) ?_
    refine az_istore dX8_says_26 (by decide) ?_
    dsimp only [List.set]
    refine az_aloadn dX8_says_28 rfl ?_
    refine az_getr dX8_says_29 flX8_7 sh_391 rfl ?_
    refine az_iconst (v := 1) dX8_says_32 (by decide) ?_
    refine az_iald (1) dX8_says_33 sh_392 (by omega) (by decide) (by simp only [az_lit, nI_add, pk_mul, Nat.add_assoc]) ?_
    by_cases hs34_0 : mem 392 1 = 0
    · refine az_tin (off := 30) (t := 64) dX8_says_34 (by rw [hs34_0]; decide) (by rw [hs34_0]; decide) (by rw [hs34_0]; decide) (by decide) ?_
      rw [if_pos hs34_0] at hQ
      refine az_iloadn dX8_says_64 rfl ?_
      refine az_iret dX8_says_65 rfl ?_
      exact hQ
    by_cases hs34_1 : mem 392 1 = 1
    · refine az_tin (off := 32) (t := 66) dX8_says_34 (by rw [hs34_1]; decide) (by rw [hs34_1]; decide) (by rw [hs34_1]; decide) (by decide) ?_
      rw [if_neg hs34_0, if_pos hs34_1] at hQ
      refine az_iload dX8_says_66 rfl ?_
      refine az_ifne (t := 76) dX8_says_68 (by decide) (fun h68 => ?_) (fun h68 => ?_)
      · refine az_iconst (v := 1) dX8_says_76 (by decide) ?_
        refine az_goto (t := 81) dX8_says_77 (by decide) ?_
        refine az_iret dX8_says_81 rfl ?_
        first | exact hQ | (rw [if_pos (Or.inl h18')] at hQ; exact hQ) | (exact absurd rfl h68) | (exact absurd h68 (by decide)) | (rw [if_neg (fun h => h.elim h18' (fun q => h73 (by rw [q])))] at hQ; exact hQ) | (rw [if_pos (Or.inr ((nI_eq (by omega) (by omega)).mp h73))] at hQ; exact hQ)
      · refine az_iloadn dX8_says_71 rfl ?_
        refine az_iloadn dX8_says_72 rfl ?_
        refine az_icmpne (t := 80) dX8_says_73 (by decide) (fun h73 => ?_) (fun h73 => ?_)
        · refine az_iconst (v := 0) dX8_says_80 (by decide) ?_
          refine az_iret dX8_says_81 rfl ?_
          first | exact hQ | (rw [if_pos (Or.inl h18')] at hQ; exact hQ) | (exact absurd rfl h68) | (exact absurd h68 (by decide)) | (rw [if_neg (fun h => h.elim h18' (fun q => h73 (by rw [q])))] at hQ; exact hQ) | (rw [if_pos (Or.inr ((nI_eq (by omega) (by omega)).mp h73))] at hQ; exact hQ)
        · refine az_iconst (v := 1) dX8_says_76 (by decide) ?_
          refine az_goto (t := 81) dX8_says_77 (by decide) ?_
          refine az_iret dX8_says_81 rfl ?_
          first | exact hQ | (rw [if_pos (Or.inl h18')] at hQ; exact hQ) | (exact absurd rfl h68) | (exact absurd h68 (by decide)) | (rw [if_neg (fun h => h.elim h18' (fun q => h73 (by rw [q])))] at hQ; exact hQ) | (rw [if_pos (Or.inr ((nI_eq (by omega) (by omega)).mp h73))] at hQ; exact hQ)
    by_cases hs34_2 : mem 392 1 = 2
    · refine az_tin (off := 48) (t := 82) dX8_says_34 (by rw [hs34_2]; decide) (by rw [hs34_2]; decide) (by rw [hs34_2]; decide) (by decide) ?_
      rw [if_neg hs34_0, if_neg hs34_1, if_pos hs34_2] at hQ
      refine az_iload dX8_says_82 rfl ?_
      refine az_ifeq (t := 91) dX8_says_84 (by decide) (fun h84 => ?_) (fun h84 => ?_)
      · refine az_iconst (v := 0) dX8_says_91 (by decide) ?_
        refine az_iret dX8_says_92 rfl ?_
        first | exact hQ | (rw [if_pos h18'] at hQ; exact hQ) | (exact absurd rfl h84) | (exact absurd h84 (by decide)) | (rw [if_neg h18'] at hQ; exact hQ)
      · refine az_iconst (v := 1) dX8_says_87 (by decide) ?_
        refine az_goto (t := 92) dX8_says_88 (by decide) ?_
        refine az_iret dX8_says_92 rfl ?_
        first | exact hQ | (rw [if_pos h18'] at hQ; exact hQ) | (exact absurd rfl h84) | (exact absurd h84 (by decide)) | (rw [if_neg h18'] at hQ; exact hQ)
    by_cases hs34_3 : mem 392 1 = 3
    · refine az_tin (off := 59) (t := 93) dX8_says_34 (by rw [hs34_3]; decide) (by rw [hs34_3]; decide) (by rw [hs34_3]; decide) (by decide) ?_
      rw [if_neg hs34_0, if_neg hs34_1, if_neg hs34_2, if_pos hs34_3] at hQ
      refine az_iloadn dX8_says_93 rfl ?_
      refine az_aloadn dX8_says_94 rfl ?_
      refine az_getr dX8_says_95 flX8_7 sh_391 rfl ?_
      refine az_iconst (v := 2) dX8_says_98 (by decide) ?_
      refine az_iald (2) dX8_says_99 sh_392 (by omega) (by decide) (by simp only [az_lit, nI_add, pk_mul, Nat.add_assoc]) ?_
      refine az_icmpgt (t := 107) dX8_says_100 (by decide) (fun h100 => ?_) (fun h100 => ?_)
      · rw [if_neg (fun h => absurd h100 (Int32.not_lt.mpr h))] at hQ
        refine az_iconst (v := 0) dX8_says_107 (by decide) ?_
        refine az_iret dX8_says_108 rfl ?_
        exact hQ
      · rw [if_pos (Int32.not_lt.mp h100)] at hQ
        refine az_iconst (v := 1) dX8_says_103 (by decide) ?_
        refine az_goto (t := 108) dX8_says_104 (by decide) ?_
        refine az_iret dX8_says_108 rfl ?_
        exact hQ
    refine az_tout (t := 109) dX8_says_34 (by have g0 := zi_ne (k := 0) (by decide) hs34_0; have g1 := zi_ne (k := 1) (by decide) hs34_1; have g2 := zi_ne (k := 2) (by decide) hs34_2; have g3 := zi_ne (k := 3) (by decide) hs34_3; omega) (by decide) ?_
    rw [if_neg hs34_0, if_neg hs34_1, if_neg hs34_2, if_neg hs34_3] at hQ
    refine az_iloadn dX8_says_109 rfl ?_
    refine az_aloadn dX8_says_110 rfl ?_
    refine az_getr dX8_says_111 flX8_7 sh_391 rfl ?_
    refine az_sipush (v := 263) dX8_says_114 (by decide) ?_
    refine az_iloadn dX8_says_117 rfl ?_
    refine az_iadd dX8_says_118 ?_
    refine az_iald (263 + m) dX8_says_119 sh_392 (by omega) (by decide) (by simp only [az_lit, nI_add, pk_mul, Nat.add_assoc]) ?_
    refine az_icmpgt (t := 127) dX8_says_120 (by decide) (fun h120 => ?_) (fun h120 => ?_)
    · rw [if_neg (fun h => absurd h120 (Int32.not_lt.mpr h))] at hQ
      refine az_iconst (v := 0) dX8_says_127 (by decide) ?_
      refine az_iret dX8_says_128 rfl ?_
      exact hQ
    · rw [if_pos (Int32.not_lt.mp h120)] at hQ
      refine az_iconst (v := 1) dX8_says_123 (by decide) ?_
      refine az_goto (t := 128) dX8_says_124 (by decide) ?_
      refine az_iret dX8_says_128 rfl ?_
      exact hQ
theorem s_X8_walk (hn : mem 392 0 = nI N) (hN : N ≤ 16) (hQ : ∀ m', (∀ k, k ≠ 395 → k ≠ 396 → m' k = mem k) → m' 395 = zw_k N N 0 (zw_00 (zm_len (mem 392)) (mem 395)) → (∀ a b, a < N → b < N → m' 396 (16 * a + b) = zs_says (mem 392) (m' 395) a b) → Q none m') : az_Sp X (d + 2) mX8_walk [.inr 391] mem Q := by
  refine az_body (by decide +kernel) (Nat.le_of_ble_eq_true rfl) ?_
  show az_Ev X _ mX8_walk 0 [some (.inr 391), none, none, none, none] [] mem Q
  refine az_iconst (v := 0) dX8_walk_0 (by decide) ?_
  refine az_istoren dX8_walk_1 (by decide) ?_
  dsimp only [List.set]
  skip
  refine az_up (fun i => ∀ m' L2, (∀ k, k ≠ 395 → m' k = mem k) → (∀ j, j < 16 * i → m' 395 j = zw_0 (zm_len (mem 392)) j) → (∀ j, 256 ≤ j → m' 395 j = mem 395 j) → az_Ev X (d + 2) mX8_walk 2 [some (.inr 391), some (.inl (nI i)), L2, none, none] [] m' Q) 16 0 (by omega) (fun i _ hi ih m' L2 hf h1 h2 => ?_) (fun m' L2 hf h1 h2 => ?_) mem none (fun _ _ => rfl) (fun j h => absurd h (by omega)) (fun _ _ => rfl)
  · refine az_iloadn dX8_walk_2 rfl ?_
    refine az_bipush (v := 16) dX8_walk_3 (by decide) ?_
    refine az_icmpge (t := 68) dX8_walk_5 (by decide) (fun h5 => ?_) (fun h5 => ?_)
    · exact absurd h5 (nI_ge (b := 16) hi (by decide))
    refine az_iconst (v := 0) dX8_walk_8 (by decide) ?_
    refine az_istoren dX8_walk_9 (by decide) ?_
    dsimp only [List.set]
    skip
    refine az_up (fun j => ∀ m', (∀ k, k ≠ 395 → m' k = mem k) → (∀ q, q < 16 * i + j → m' 395 q = zw_0 (zm_len (mem 392)) q) → (∀ j, 256 ≤ j → m' 395 j = mem 395 j) → az_Ev X (d + 2) mX8_walk 10 [some (.inr 391), some (.inl (nI i)), some (.inl (nI j)), none, none] [] m' Q) 16 0 (by omega) (fun j _ hj ih2 m' hf h1 h2 => ?_) (fun m' hf h1 h2 => ?_) m' hf h1 h2
    · have ed : (16 * i + j) / 16 = i := by omega
      have em : (16 * i + j) % 16 = j := by omega
      have fin : ∀ v, v = zw_0 (zm_len (mem 392)) (16 * i + j) → az_Ev X (d + 2) mX8_walk 10 [some (.inr 391), some (.inl (nI i)), some (.inl (nI (j + 1))), none, none] [] (az_w m' 395 (16 * i + j) v) Q := by
        intro v hv
        refine ih2 _ (fun k hk => by rw [az_w_ne _ hk]; exact hf k hk) (fun q hq => ?_) (fun q hq => ?_)
        · rw [az_w_eq]
          by_cases hqq : q = 16 * i + j
          · rw [if_pos ⟨rfl, hqq⟩, hqq]; exact hv
          · rw [if_neg (fun h => hqq h.2)]; exact h1 q (by omega)
        · rw [az_w_eq, if_neg (by omega)]; exact h2 q hq
      unfold zw_0 at fin
      rw [ed, em] at fin
      refine az_iloadn dX8_walk_10 rfl ?_
      refine az_bipush (v := 16) dX8_walk_11 (by decide) ?_
      refine az_icmpge (t := 62) dX8_walk_13 (by decide) (fun h13 => ?_) (fun h13 => ?_)
      · exact absurd h13 (nI_ge (b := 16) hj (by decide))
      refine az_aloadn dX8_walk_16 rfl ?_
      refine az_getr dX8_walk_17 flX8_20 sh_391 rfl ?_
      refine az_bipush (v := 16) dX8_walk_20 (by decide) ?_
      refine az_iloadn dX8_walk_22 rfl ?_
      refine az_imul dX8_walk_23 ?_
      refine az_iloadn dX8_walk_24 rfl ?_
      refine az_iadd dX8_walk_25 ?_
      refine az_iloadn dX8_walk_26 rfl ?_
      refine az_iloadn dX8_walk_27 rfl ?_
      refine az_icmpne (t := 35) dX8_walk_28 (by decide) (fun h28 => ?_) (fun h28 => ?_)
      · have hij : ¬ i = j := fun h => h28 (by rw [h])
        refine az_aloadn dX8_walk_35 rfl ?_
        refine az_iloadn dX8_walk_36 rfl ?_
        refine az_iloadn dX8_walk_37 rfl ?_
        refine az_inv2 (N := mX8_length) dX8_walk_38 lkX8_70 okX8_length sh_391 rfl (Nat.le_of_ble_eq_true rfl) ?_
        refine s_X8_length (by omega) (by omega) ?_
        try dsimp only [az_ps]
        refine az_ifle (t := 53) dX8_walk_41 (by decide) (fun h41 => ?_) (fun h41 => ?_)
        · rw [hf 392 (by decide)] at h41
          refine az_ldc dX8_walk_53 kcX8_74 ?_
          refine az_iast (16 * i + j) dX8_walk_55 sh_395 (by omega) (by decide) (by simp only [az_lit, nI_add, pk_mul, Nat.add_assoc]) ?_
          refine az_iinc (w := 1) dX8_walk_56 rfl (by decide) (by decide) ?_
          dsimp only [List.set]
          refine az_goto (t := 10) dX8_walk_59 (by decide) ?_
          rw [nI_1]
          first
          | exact fin _ (by rw [if_pos hij])
          | exact fin _ (by rw [if_neg hij, if_neg (fun h => absurd h41 (Int32.not_le.mpr h))])
          | exact fin _ (by rw [if_neg hij, if_pos (Int32.not_le.mp h41), hf 392 (by decide)])
        · rw [hf 392 (by decide)] at h41
          refine az_aloadn dX8_walk_44 rfl ?_
          refine az_iloadn dX8_walk_45 rfl ?_
          refine az_iloadn dX8_walk_46 rfl ?_
          refine az_inv2 (N := mX8_length) dX8_walk_47 lkX8_70 okX8_length sh_391 rfl (Nat.le_of_ble_eq_true rfl) ?_
          refine s_X8_length (by omega) (by omega) ?_
          try dsimp only [az_ps]
          refine az_goto (t := 55) dX8_walk_50 (by decide) ?_
          refine az_iast (16 * i + j) dX8_walk_55 sh_395 (by omega) (by decide) (by simp only [az_lit, nI_add, pk_mul, Nat.add_assoc]) ?_
          refine az_iinc (w := 1) dX8_walk_56 rfl (by decide) (by decide) ?_
          dsimp only [List.set]
          refine az_goto (t := 10) dX8_walk_59 (by decide) ?_
          rw [nI_1]
          first
          | exact fin _ (by rw [if_pos hij])
          | exact fin _ (by rw [if_neg hij, if_neg (fun h => absurd h41 (Int32.not_le.mpr h))])
          | exact fin _ (by rw [if_neg hij, if_pos (Int32.not_le.mp h41), hf 392 (by decide)])
      · have hij : i = j := (nI_eq (by omega) (by omega)).mp h28
        refine az_iconst (v := 0) dX8_walk_31 (by decide) ?_
        refine az_goto (t := 55) dX8_walk_32 (by decide) ?_
        refine az_iast (16 * i + j) dX8_walk_55 sh_395 (by omega) (by decide) (by simp only [az_lit, nI_add, pk_mul, Nat.add_assoc]) ?_
        refine az_iinc (w := 1) dX8_walk_56 rfl (by decide) (by decide) ?_
        dsimp only [List.set]
        refine az_goto (t := 10) dX8_walk_59 (by decide) ?_
        rw [nI_1]
        first
        | exact fin _ (by rw [if_pos hij])
        | exact fin _ (by rw [if_neg hij, if_neg (fun h => absurd h41 (Int32.not_le.mpr h))])
        | exact fin _ (by rw [if_neg hij, if_pos (Int32.not_le.mp h41), hf 392 (by decide)])
    · refine az_iloadn dX8_walk_10 rfl ?_
      refine az_bipush (v := 16) dX8_walk_11 (by decide) ?_
      refine az_icmpge (t := 62) dX8_walk_13 (by decide) (fun h13 => ?_) (fun h13 => ?_)
      rotate_left 1
      · exact absurd (Int32.le_refl _) h13
      refine az_iinc (w := 1) dX8_walk_62 rfl (by decide) (by decide) ?_
      dsimp only [List.set]
      refine az_goto (t := 2) dX8_walk_65 (by decide) ?_
      rw [nI_1]; exact ih _ _ hf (fun j hj => h1 j (by omega)) h2
  · have hn' : m' 392 0 = nI N := by rw [hf 392 (by decide)]; exact hn
    have hw : m' 395 = zw_00 (zm_len (mem 392)) (mem 395) := by
      funext j
      unfold zw_00
      by_cases hj : j < 256
      · rw [if_pos hj]; exact h1 j (by omega)
      · rw [if_neg hj]; exact h2 j (by omega)
    clear h1 h2 hn'
    refine az_iloadn dX8_walk_2 rfl ?_
    refine az_bipush (v := 16) dX8_walk_3 (by decide) ?_
    refine az_icmpge (t := 68) dX8_walk_5 (by decide) (fun h5 => ?_) (fun h5 => ?_)
    rotate_left 1
    · exact absurd (Int32.le_refl _) h5
    refine az_iconst (v := 0) dX8_walk_68 (by decide) ?_
    refine az_istoren dX8_walk_69 (by decide) ?_
    dsimp only [List.set]
    skip
    rw [← hw] at hQ
    generalize hR : zw_k N N 0 (m' 395) = R at hQ
    refine az_up (fun i => ∀ m' L2 L3 L4, (∀ k, k ≠ 395 → m' k = mem k) → zw_k N (N - i) i (m' 395) = R → az_Ev X (d + 2) mX8_walk 70 [some (.inr 391), some (.inl (nI i)), L2, L3, L4] [] m' Q) N 0 (by omega) (fun k _ hk ih m' L2 L3 L4 hf h1 => ?_) (fun m' L2 L3 L4 hf h1 => ?_) m' L2 none none hf hR
    · have hn' : m' 392 0 = nI N := by rw [hf 392 (by decide)]; exact hn
      rw [zs_sub hk, zw_k] at h1
      refine az_iloadn dX8_walk_70 rfl ?_
      refine az_aloadn dX8_walk_71 rfl ?_
      refine az_inv0 (N := mX8_n) dX8_walk_72 lkX8_62 okX8_n sh_391 rfl (Nat.le_of_ble_eq_true rfl) ?_
      refine t_X8_n hn' ?_
      try dsimp only [az_ps]
      refine az_icmpge (t := 170) dX8_walk_75 (by decide) (fun h75 => ?_) (fun h75 => ?_)
      · exact absurd h75 (nI_ge (by omega) (by omega))
      refine az_iconst (v := 0) dX8_walk_78 (by decide) ?_
      refine az_istoren dX8_walk_79 (by decide) ?_
      dsimp only [List.set]
      skip
      generalize hR2 : zw_a N k N 0 (m' 395) = R2 at h1
      refine az_up (fun a => ∀ m' L3 L4, (∀ k, k ≠ 395 → m' k = mem k) → zw_a N k (N - a) a (m' 395) = R2 → az_Ev X (d + 2) mX8_walk 80 [some (.inr 391), some (.inl (nI k)), some (.inl (nI a)), L3, L4] [] m' Q) N 0 (by omega) (fun a _ ha ih2 m' L3 L4 hf h2 => ?_) (fun m' L3 L4 hf h2 => ?_) m' L3 L4 hf hR2
      · have hn' : m' 392 0 = nI N := by rw [hf 392 (by decide)]; exact hn
        rw [zs_sub ha, zw_a] at h2
        refine az_iloadn dX8_walk_80 rfl ?_
        refine az_aloadn dX8_walk_81 rfl ?_
        refine az_inv0 (N := mX8_n) dX8_walk_82 lkX8_62 okX8_n sh_391 rfl (Nat.le_of_ble_eq_true rfl) ?_
        refine t_X8_n hn' ?_
        try dsimp only [az_ps]
        refine az_icmpge (t := 164) dX8_walk_85 (by decide) (fun h85 => ?_) (fun h85 => ?_)
        · exact absurd h85 (nI_ge (by omega) (by omega))
        refine az_iconst (v := 0) dX8_walk_88 (by decide) ?_
        refine az_istoren dX8_walk_89 (by decide) ?_
        dsimp only [List.set]
        skip
        generalize hR3 : zw_b a k N 0 (m' 395) = R3 at h2
        refine az_up (fun b => ∀ m' L4, (∀ k, k ≠ 395 → m' k = mem k) → zw_b a k (N - b) b (m' 395) = R3 → az_Ev X (d + 2) mX8_walk 90 [some (.inr 391), some (.inl (nI k)), some (.inl (nI a)), some (.inl (nI b)), L4] [] m' Q) N 0 (by omega) (fun b _ hb ih3 m' L4 hf h3 => ?_) (fun m' L4 hf h3 => ?_) m' L4 hf hR3
        · have hn' : m' 392 0 = nI N := by rw [hf 392 (by decide)]; exact hn
          rw [zs_sub hb, zw_b, zw_st] at h3
          refine az_iloadn dX8_walk_90 rfl ?_
          refine az_aloadn dX8_walk_91 rfl ?_
          refine az_inv0 (N := mX8_n) dX8_walk_92 lkX8_62 okX8_n sh_391 rfl (Nat.le_of_ble_eq_true rfl) ?_
          refine t_X8_n hn' ?_
          try dsimp only [az_ps]
          refine az_icmpge (t := 158) dX8_walk_95 (by decide) (fun h95 => ?_) (fun h95 => ?_)
          · exact absurd h95 (nI_ge (by omega) (by omega))
          refine az_aloadn dX8_walk_98 rfl ?_
          refine az_getr dX8_walk_99 flX8_20 sh_391 rfl ?_
          refine az_bipush (v := 16) dX8_walk_102 (by decide) ?_
          refine az_iloadn dX8_walk_104 rfl ?_
          refine az_imul dX8_walk_105 ?_
          refine az_iloadn dX8_walk_106 rfl ?_
          refine az_iadd dX8_walk_107 ?_
          refine az_iald (16 * a + k) dX8_walk_108 sh_395 (by omega) (by decide) (by simp only [az_lit, nI_add, pk_mul, Nat.add_assoc]) ?_
          refine az_aloadn dX8_walk_109 rfl ?_
          refine az_getr dX8_walk_110 flX8_20 sh_391 rfl ?_
          refine az_bipush (v := 16) dX8_walk_113 (by decide) ?_
          refine az_iloadn dX8_walk_115 rfl ?_
          refine az_imul dX8_walk_116 ?_
          refine az_iloadn dX8_walk_117 rfl ?_
          refine az_iadd dX8_walk_118 ?_
          refine az_iald (16 * k + b) dX8_walk_119 sh_395 (by omega) (by decide) (by simp only [az_lit, nI_add, pk_mul, Nat.add_assoc]) ?_
          refine az_iadd dX8_walk_120 ?_
          refine az_istore dX8_walk_121 (by decide) ?_
          dsimp only [List.set]
          refine az_iload dX8_walk_123 rfl ?_
          refine az_aloadn dX8_walk_125 rfl ?_
          refine az_getr dX8_walk_126 flX8_20 sh_391 rfl ?_
          refine az_bipush (v := 16) dX8_walk_129 (by decide) ?_
          refine az_iloadn dX8_walk_131 rfl ?_
          refine az_imul dX8_walk_132 ?_
          refine az_iloadn dX8_walk_133 rfl ?_
          refine az_iadd dX8_walk_134 ?_
          refine az_iald (16 * a + b) dX8_walk_135 sh_395 (by omega) (by decide) (by simp only [az_lit, nI_add, pk_mul, Nat.add_assoc]) ?_
          refine az_icmpge (t := 152) dX8_walk_136 (by decide) (fun h136 => ?_) (fun h136 => ?_)
          · rw [if_neg (Int32.not_lt.mpr h136)] at h3
            refine az_iinc (w := 1) dX8_walk_152 rfl (by decide) (by decide) ?_
            dsimp only [List.set]
            refine az_goto (t := 90) dX8_walk_155 (by decide) ?_
            rw [nI_1]
            first
            | exact ih3 _ _ hf h3
            | exact ih3 _ _ (fun q hq => by rw [az_w_ne _ hq]; exact hf q hq) (by rw [az_w_same]; exact h3)
          · rw [if_pos (Int32.not_le.mp h136)] at h3
            refine az_aloadn dX8_walk_139 rfl ?_
            refine az_getr dX8_walk_140 flX8_20 sh_391 rfl ?_
            refine az_bipush (v := 16) dX8_walk_143 (by decide) ?_
            refine az_iloadn dX8_walk_145 rfl ?_
            refine az_imul dX8_walk_146 ?_
            refine az_iloadn dX8_walk_147 rfl ?_
            refine az_iadd dX8_walk_148 ?_
            refine az_iload dX8_walk_149 rfl ?_
            refine az_iast (16 * a + b) dX8_walk_151 sh_395 (by omega) (by decide) (by simp only [az_lit, nI_add, pk_mul, Nat.add_assoc]) ?_
            refine az_iinc (w := 1) dX8_walk_152 rfl (by decide) (by decide) ?_
            dsimp only [List.set]
            refine az_goto (t := 90) dX8_walk_155 (by decide) ?_
            rw [nI_1]
            first
            | exact ih3 _ _ hf h3
            | exact ih3 _ _ (fun q hq => by rw [az_w_ne _ hq]; exact hf q hq) (by rw [az_w_same]; exact h3)
        · have hn' : m' 392 0 = nI N := by rw [hf 392 (by decide)]; exact hn
          rw [Nat.sub_self, zw_b] at h3
          refine az_iloadn dX8_walk_90 rfl ?_
          refine az_aloadn dX8_walk_91 rfl ?_
          refine az_inv0 (N := mX8_n) dX8_walk_92 lkX8_62 okX8_n sh_391 rfl (Nat.le_of_ble_eq_true rfl) ?_
          refine t_X8_n hn' ?_
          try dsimp only [az_ps]
          refine az_icmpge (t := 158) dX8_walk_95 (by decide) (fun h95 => ?_) (fun h95 => ?_)
          rotate_left 1
          · exact absurd (Int32.le_refl _) h95
          refine az_iinc (w := 1) dX8_walk_158 rfl (by decide) (by decide) ?_
          dsimp only [List.set]
          refine az_goto (t := 80) dX8_walk_161 (by decide) ?_
          rw [nI_1]; exact ih2 _ _ _ hf (by rw [h3]; exact h2)
      · have hn' : m' 392 0 = nI N := by rw [hf 392 (by decide)]; exact hn
        rw [Nat.sub_self, zw_a] at h2
        refine az_iloadn dX8_walk_80 rfl ?_
        refine az_aloadn dX8_walk_81 rfl ?_
        refine az_inv0 (N := mX8_n) dX8_walk_82 lkX8_62 okX8_n sh_391 rfl (Nat.le_of_ble_eq_true rfl) ?_
        refine t_X8_n hn' ?_
        try dsimp only [az_ps]
        refine az_icmpge (t := 164) dX8_walk_85 (by decide) (fun h85 => ?_) (fun h85 => ?_)
        rotate_left 1
        · exact absurd (Int32.le_refl _) h85
        refine az_iinc (w := 1) dX8_walk_164 rfl (by decide) (by decide) ?_
        dsimp only [List.set]
        refine az_goto (t := 70) dX8_walk_167 (by decide) ?_
        rw [nI_1]; exact ih _ _ _ _ hf (by rw [h2]; exact h1)
    · have hn' : m' 392 0 = nI N := by rw [hf 392 (by decide)]; exact hn
      rw [Nat.sub_self, zw_k] at h1
      refine az_iloadn dX8_walk_70 rfl ?_
      refine az_aloadn dX8_walk_71 rfl ?_
      refine az_inv0 (N := mX8_n) dX8_walk_72 lkX8_62 okX8_n sh_391 rfl (Nat.le_of_ble_eq_true rfl) ?_
      refine t_X8_n hn' ?_
      try dsimp only [az_ps]
      refine az_icmpge (t := 170) dX8_walk_75 (by decide) (fun h75 => ?_) (fun h75 => ?_)
      rotate_left 1
      · exact absurd (Int32.le_refl _) h75
      refine az_iconst (v := 0) dX8_walk_170 (by decide) ?_
      refine az_istoren dX8_walk_171 (by decide) ?_
      dsimp only [List.set]
      skip
      refine az_up (fun i => ∀ m' L2, (∀ k, k ≠ 395 → k ≠ 396 → m' k = mem k) → m' 395 = R → (∀ a b, a < i → b < N → m' 396 (16 * a + b) = zs_says (mem 392) R a b) → az_Ev X (d + 2) mX8_walk 172 [some (.inr 391), some (.inl (nI i)), L2, L3, L4] [] m' Q) N 0 (by omega) (fun i _ hi ih m' L2 hf h1 h2 => ?_) (fun m' L2 hf h1 h2 => ?_) m' L2 (fun k h1 h2 => hf k h1) h1 (fun a b h => absurd h (by omega))
      · have hn' : m' 392 0 = nI N := by rw [hf 392 (by decide) (by decide)]; exact hn
        refine az_iloadn dX8_walk_172 rfl ?_
        refine az_aloadn dX8_walk_173 rfl ?_
        refine az_inv0 (N := mX8_n) dX8_walk_174 lkX8_62 okX8_n sh_391 rfl (Nat.le_of_ble_eq_true rfl) ?_
        refine t_X8_n hn' ?_
        try dsimp only [az_ps]
        refine az_icmpge (t := 219) dX8_walk_177 (by decide) (fun h177 => ?_) (fun h177 => ?_)
        · exact absurd h177 (nI_ge (by omega) (by omega))
        refine az_iconst (v := 0) dX8_walk_180 (by decide) ?_
        refine az_istoren dX8_walk_181 (by decide) ?_
        dsimp only [List.set]
        skip
        refine az_up (fun j => ∀ m', (∀ k, k ≠ 395 → k ≠ 396 → m' k = mem k) → m' 395 = R → (∀ a b, a < i → b < N → m' 396 (16 * a + b) = zs_says (mem 392) R a b) → (∀ b, b < j → m' 396 (16 * i + b) = zs_says (mem 392) R i b) → az_Ev X (d + 2) mX8_walk 182 [some (.inr 391), some (.inl (nI i)), some (.inl (nI j)), L3, L4] [] m' Q) N 0 (by omega) (fun j _ hj ih2 m' hf h1 h2 h3 => ?_) (fun m' hf h1 h2 h3 => ?_) m' hf h1 h2 (fun b h => absurd h (by omega))
        · have hn' : m' 392 0 = nI N := by rw [hf 392 (by decide) (by decide)]; exact hn
          refine az_iloadn dX8_walk_182 rfl ?_
          refine az_aloadn dX8_walk_183 rfl ?_
          refine az_inv0 (N := mX8_n) dX8_walk_184 lkX8_62 okX8_n sh_391 rfl (Nat.le_of_ble_eq_true rfl) ?_
          refine t_X8_n hn' ?_
          try dsimp only [az_ps]
          refine az_icmpge (t := 213) dX8_walk_187 (by decide) (fun h187 => ?_) (fun h187 => ?_)
          · exact absurd h187 (nI_ge (by omega) (by omega))
          refine az_aloadn dX8_walk_190 rfl ?_
          refine az_getr dX8_walk_191 flX8_23 sh_391 rfl ?_
          refine az_bipush (v := 16) dX8_walk_194 (by decide) ?_
          refine az_iloadn dX8_walk_196 rfl ?_
          refine az_imul dX8_walk_197 ?_
          refine az_iloadn dX8_walk_198 rfl ?_
          refine az_iadd dX8_walk_199 ?_
          refine az_aloadn dX8_walk_200 rfl ?_
          refine az_iloadn dX8_walk_201 rfl ?_
          refine az_iloadn dX8_walk_202 rfl ?_
          refine az_inv2 (N := mX8_says) dX8_walk_203 lkX8_75 okX8_says sh_391 rfl (Nat.le_of_ble_eq_true rfl) ?_
          refine s_X8_says (by omega) (by omega) ?_
          rw [hf 392 (by decide) (by decide), h1]
          try dsimp only [az_ps]
          refine az_iast (16 * i + j) dX8_walk_206 sh_396 (by omega) (by decide) (by simp only [az_lit, nI_add, pk_mul, Nat.add_assoc]) ?_
          refine az_iinc (w := 1) dX8_walk_207 rfl (by decide) (by decide) ?_
          dsimp only [List.set]
          refine az_goto (t := 182) dX8_walk_210 (by decide) ?_
          rw [nI_1]
          refine ih2 _ (fun k hk1 hk2 => by rw [az_w_ne _ hk2]; exact hf k hk1 hk2) (by rw [az_w_ne _ (by decide)]; exact h1) (fun a b ha hb => ?_) (fun b hb => ?_)
          · rw [az_w_eq, if_neg (by omega)]; exact h2 a b ha hb
          · rw [az_w_eq]
            by_cases hbj : b = j
            · rw [if_pos ⟨rfl, by omega⟩, hbj]
            · rw [if_neg (by omega)]; exact h3 b (by omega)
        · have hn' : m' 392 0 = nI N := by rw [hf 392 (by decide) (by decide)]; exact hn
          refine az_iloadn dX8_walk_182 rfl ?_
          refine az_aloadn dX8_walk_183 rfl ?_
          refine az_inv0 (N := mX8_n) dX8_walk_184 lkX8_62 okX8_n sh_391 rfl (Nat.le_of_ble_eq_true rfl) ?_
          refine t_X8_n hn' ?_
          try dsimp only [az_ps]
          refine az_icmpge (t := 213) dX8_walk_187 (by decide) (fun h187 => ?_) (fun h187 => ?_)
          rotate_left 1
          · exact absurd (Int32.le_refl _) h187
          refine az_iinc (w := 1) dX8_walk_213 rfl (by decide) (by decide) ?_
          dsimp only [List.set]
          refine az_goto (t := 172) dX8_walk_216 (by decide) ?_
          rw [nI_1]
          refine ih _ _ hf h1 (fun a b ha hb => ?_)
          rcases Nat.lt_or_ge a i with q | q
          · exact h2 a b q hb
          · have : a = i := by omega
            subst this; exact h3 b hb
      · have hn' : m' 392 0 = nI N := by rw [hf 392 (by decide) (by decide)]; exact hn
        refine az_iloadn dX8_walk_172 rfl ?_
        refine az_aloadn dX8_walk_173 rfl ?_
        refine az_inv0 (N := mX8_n) dX8_walk_174 lkX8_62 okX8_n sh_391 rfl (Nat.le_of_ble_eq_true rfl) ?_
        refine t_X8_n hn' ?_
        try dsimp only [az_ps]
        refine az_icmpge (t := 219) dX8_walk_177 (by decide) (fun h177 => ?_) (fun h177 => ?_)
        rotate_left 1
        · exact absurd (Int32.le_refl _) h177
        refine az_vret dX8_walk_219 rfl ?_
        exact hQ m' hf h1 (fun a b ha hb => by rw [h1]; exact h2 a b ha hb)
end MC

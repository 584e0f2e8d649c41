/-! the class's sight: what follows from the net -/
def zx_b (a k : Nat) (first : Int32) : Nat → Nat → (Nat → Int32) → Nat → Int32
  | 0, _, w => w
  | n + 1, b, w => zx_b a k first n (b + 1) (if first + w (16 * k + b) < w (16 * a + b) then upd w (16 * a + b) (first + w (16 * k + b)) else w)
def zx_sh (N a k : Nat) (w : Nat → Int32) : Nat → Int32 := if w (16 * a + k) < 1000000 then zx_b a k (w (16 * a + k)) N 0 w else w
def zx_a (N k : Nat) : Nat → Nat → (Nat → Int32) → Nat → Int32
  | 0, _, w => w
  | n + 1, a, w => zx_a N k n (a + 1) (zx_sh N a k w)
def zx_k (N : Nat) : Nat → Nat → (Nat → Int32) → Nat → Int32
  | 0, _, w => w
  | n + 1, k, w => zx_k N n (k + 1) (zx_a N k N 0 w)
def zx_00 (N : Nat) (len old : Nat → Int32) (i : Nat) : Int32 := if i / 16 < N ∧ i % 16 < N then zw_0 len i else old i
def zx_says (k wi re far : Int32) (bs eq : Bool) : Int32 :=
  if k = 1 then (if eq || bs then 1 else 0) else if k = 2 then (if bs then 1 else 0) else if k = 3 then (if far ≤ wi then 1 else 0) else if k = 4 then (if far ≤ re then 1 else 0) else far
def zx_sa (an : Nat → Int32) (m p q : Nat) : Bool := decide (an (16 * m + q) = an (16 * m + p))
def zx_g (an : Nat → Int32) (N m : Nat) : Nat → Nat → Nat → List Nat → List Nat
  | 0, _, _, l => l
  | n + 1, p, g, l => if g.testBit p then zx_g an N m n (p + 1) g l else zx_g an N m n (p + 1) (g ||| zn_mask (zx_sa an m p) N) (l ++ [zn_mask (zx_sa an m p) N])
def zx_gl (an : Nat → Int32) (N m : Nat) : List Nat := zx_g an N m N 0 0 []
section CD
variable {X : az_X} {d : Nat} {mem : az_M} {Q : Option az_V → az_M → Prop} {N : Nat}
theorem s_X5_shortenWays {a k : Nat} (hn : mem 371 0 = nI N) (hN : N ≤ 16) (ha : a < 16) (hk : k < 16) (hQ : ∀ m', (∀ q, q ≠ 373 → m' q = mem q) → m' 373 = zx_sh N a k (mem 373) → Q none m') : az_Sp X d mX5_shortenWays [.inr 371, .inl (nI a), .inl (nI k)] mem Q := by
  unfold zx_sh at hQ
  refine az_body (by decide +kernel) (Nat.le_of_ble_eq_true rfl) ?_
  show az_Ev X _ mX5_shortenWays 0 [some (.inr 371), some (.inl (nI a)), some (.inl (nI k)), none, none, none] [] mem Q
  refine az_aloadn dX5_shortenWays_0 rfl ?_
  refine az_getr dX5_shortenWays_1 flX5_19 sh_371 rfl ?_
  refine az_bipush (v := 16) dX5_shortenWays_4 (by decide) ?_
  refine az_iloadn dX5_shortenWays_6 rfl ?_
  refine az_imul dX5_shortenWays_7 ?_
  refine az_iloadn dX5_shortenWays_8 rfl ?_
  refine az_iadd dX5_shortenWays_9 ?_
  refine az_iald (16 * a + k) dX5_shortenWays_10 sh_373 (by omega) (by decide) (by simp only [az_lit, nI_add, pk_mul, Nat.add_assoc]) ?_
  refine az_istoren dX5_shortenWays_11 (by decide) ?_
  dsimp only [List.set]
  refine az_iloadn dX5_shortenWays_12 rfl ?_
  refine az_ldc dX5_shortenWays_13 kcX5_62 ?_
  refine az_icmplt (t := 19) dX5_shortenWays_15 (by decide) (fun h15 => ?_) (fun h15 => ?_)
  rotate_left 1
  · rw [if_neg h15] at hQ
    exact az_vret dX5_shortenWays_18 rfl (hQ mem (fun _ _ => rfl) rfl)
  refine az_iconst (v := 0) dX5_shortenWays_19 (by decide) ?_
  refine az_pc 20 (by decide) ?_
  refine az_istore dX5_shortenWays_20 (by decide) ?_
  dsimp only [List.set]
  skip
  rw [if_pos h15] at hQ
  generalize mem 373 (16 * a + k) = first at hQ ⊢
  generalize hR : zx_b a k first N 0 (mem 373) = R at hQ
  refine az_up (fun b => ∀ m' L5, (∀ q, q ≠ 373 → m' q = mem q) → zx_b a k first (N - b) b (m' 373) = R → az_Ev X d mX5_shortenWays 22 [some (.inr 371), some (.inl (nI a)), some (.inl (nI k)), some (.inl first), some (.inl (nI b)), L5] [] m' Q) N 0 (by omega) (fun b _ hb ih m' L5 hf h1 => ?_) (fun m' L5 hf h1 => ?_) mem none (fun _ _ => rfl) hR
  · rw [zs_sub hb, zx_b] at h1
    have hn' : m' 371 0 = nI N := by rw [hf 371 (by decide)]; exact hn
    refine az_iload dX5_shortenWays_22 rfl ?_
    refine az_aloadn dX5_shortenWays_24 rfl ?_
    refine az_geti dX5_shortenWays_25 flX5_9 sh_371 rfl ?_
    rw [hn']
    refine az_icmpge (t := 84) dX5_shortenWays_28 (by decide) (fun h28 => ?_) (fun h28 => ?_)
    · exact absurd h28 (nI_ge (by omega) (by omega))
    refine az_iloadn dX5_shortenWays_31 rfl ?_
    refine az_aloadn dX5_shortenWays_32 rfl ?_
    refine az_getr dX5_shortenWays_33 flX5_19 sh_371 rfl ?_
    refine az_bipush (v := 16) dX5_shortenWays_36 (by decide) ?_
    refine az_iloadn dX5_shortenWays_38 rfl ?_
    refine az_imul dX5_shortenWays_39 ?_
    refine az_iload dX5_shortenWays_40 rfl ?_
    refine az_iadd dX5_shortenWays_42 ?_
    refine az_iald (16 * k + b) dX5_shortenWays_43 sh_373 (by omega) (by decide) (by simp only [az_lit, nI_add, pk_mul, Nat.add_assoc]) ?_
    refine az_pc 44 (by decide) ?_
    refine az_iadd dX5_shortenWays_44 ?_
    refine az_istore dX5_shortenWays_45 (by decide) ?_
    dsimp only [List.set]
    refine az_iload dX5_shortenWays_47 rfl ?_
    refine az_aloadn dX5_shortenWays_49 rfl ?_
    refine az_getr dX5_shortenWays_50 flX5_19 sh_371 rfl ?_
    refine az_bipush (v := 16) dX5_shortenWays_53 (by decide) ?_
    refine az_iloadn dX5_shortenWays_55 rfl ?_
    refine az_imul dX5_shortenWays_56 ?_
    refine az_iload dX5_shortenWays_57 rfl ?_
    refine az_iadd dX5_shortenWays_59 ?_
    refine az_iald (16 * a + b) dX5_shortenWays_60 sh_373 (by omega) (by decide) (by simp only [az_lit, nI_add, pk_mul, Nat.add_assoc]) ?_
    refine az_icmpge (t := 78) dX5_shortenWays_61 (by decide) (fun h61 => ?_) (fun h61 => ?_)
    · rw [if_neg (Int32.not_lt.mpr h61)] at h1
      refine az_iinc (w := 1) dX5_shortenWays_78 rfl (by decide) (by decide) ?_
      dsimp only [List.set]
      refine az_goto (t := 22) dX5_shortenWays_81 (by decide) ?_
      rw [nI_1]
      first
      | exact ih _ _ (fun q hq => by rw [az_w_ne _ hq]; exact hf q hq) (by rw [az_w_same]; exact h1)
      | exact ih _ _ hf h1
    · rw [if_pos (Int32.not_le.mp h61)] at h1
      refine az_aloadn dX5_shortenWays_64 rfl ?_
      refine az_getr dX5_shortenWays_65 flX5_19 sh_371 rfl ?_
      refine az_bipush (v := 16) dX5_shortenWays_68 (by decide) ?_
      refine az_iloadn dX5_shortenWays_70 rfl ?_
      refine az_imul dX5_shortenWays_71 ?_
      refine az_iload dX5_shortenWays_72 rfl ?_
      refine az_iadd dX5_shortenWays_74 ?_
      refine az_iload dX5_shortenWays_75 rfl ?_
      refine az_iast (16 * a + b) dX5_shortenWays_77 sh_373 (by omega) (by decide) (by simp only [az_lit, nI_add, pk_mul, Nat.add_assoc]) ?_
      refine az_iinc (w := 1) dX5_shortenWays_78 rfl (by decide) (by decide) ?_
      dsimp only [List.set]
      refine az_goto (t := 22) dX5_shortenWays_81 (by decide) ?_
      rw [nI_1]
      first
      | exact ih _ _ (fun q hq => by rw [az_w_ne _ hq]; exact hf q hq) (by rw [az_w_same]; exact h1)
      | exact ih _ _ hf h1
  · rw [Nat.sub_self, zx_b] at h1
    have hn' : m' 371 0 = nI N := by rw [hf 371 (by decide)]; exact hn
    refine az_iload dX5_shortenWays_22 rfl ?_
    refine az_aloadn dX5_shortenWays_24 rfl ?_
    refine az_geti dX5_shortenWays_25 flX5_9 sh_371 rfl ?_
    rw [hn']
    refine az_icmpge (t := 84) dX5_shortenWays_28 (by decide) (fun h28 => ?_) (fun h28 => ?_)
    rotate_left 1
    · exact absurd (Int32.le_refl _) h28
    refine az_vret dX5_shortenWays_84 rfl ?_
    exact hQ m' hf h1
theorem s_X5_findWays (hn : mem 371 0 = nI N) (hN : N ≤ 16) (hQ : ∀ m', (∀ q, q ≠ 373 → m' q = mem q) → m' 373 = zx_k N N 0 (zx_00 N (mem 2) (mem 373)) → Q none m') : az_Sp X (d + 1) mX5_findWays [.inr 371, .inr 1] mem Q := by
  refine az_body (by decide +kernel) (Nat.le_of_ble_eq_true rfl) ?_
  show az_Ev X _ mX5_findWays 0 [some (.inr 371), some (.inr 1), none, none, none] [] mem Q
  refine az_iconst (v := 0) dX5_findWays_0 (by decide) ?_
  refine az_istoren dX5_findWays_1 (by decide) ?_
  dsimp only [List.set]
  skip
  refine az_up (fun i => ∀ m' L3 L4, (∀ k, k ≠ 373 → m' k = mem k) → (∀ j, m' 373 j = if j / 16 < i ∧ j % 16 < N then zw_0 (mem 2) j else mem 373 j) → az_Ev X (d + 1) mX5_findWays 2 [some (.inr 371), some (.inr 1), some (.inl (nI i)), L3, L4] [] m' Q) N 0 (by omega) (fun i _ hi ih m' L3 L4 hf h1 => ?_) (fun m' L3 L4 hf h1 => ?_) mem none none (fun _ _ => rfl) (fun j => by rw [if_neg (by omega)])
  · have hn' : m' 371 0 = nI N := by rw [hf 371 (by decide)]; exact hn
    refine az_iloadn dX5_findWays_2 rfl ?_
    refine az_aloadn dX5_findWays_3 rfl ?_
    refine az_geti dX5_findWays_4 flX5_9 sh_371 rfl ?_
    rw [hn']
    refine az_icmpge (t := 81) dX5_findWays_7 (by decide) (fun h7 => ?_) (fun h7 => ?_)
    · exact absurd h7 (nI_ge (by omega) (by omega))
    refine az_iconst (v := 0) dX5_findWays_10 (by decide) ?_
    refine az_istoren dX5_findWays_11 (by decide) ?_
    dsimp only [List.set]
    skip
    refine az_up (fun j => ∀ m' L4, (∀ k, k ≠ 373 → m' k = mem k) → (∀ q, m' 373 q = if (q / 16 < i ∧ q % 16 < N) ∨ (q / 16 = i ∧ q % 16 < j) then zw_0 (mem 2) q else mem 373 q) → az_Ev X (d + 1) mX5_findWays 12 [some (.inr 371), some (.inr 1), some (.inl (nI i)), some (.inl (nI j)), L4] [] m' Q) N 0 (by omega) (fun j _ hj ih2 m' L4 hf h1 => ?_) (fun m' L4 hf h1 => ?_) m' L4 hf (fun q => by rw [h1]; by_cases c : q / 16 < i ∧ q % 16 < N; rw [if_pos c, if_pos (Or.inl c)]; rw [if_neg c, if_neg (by omega)])
    · have hn' : m' 371 0 = nI N := by rw [hf 371 (by decide)]; exact hn
      have e2 : m' 2 = mem 2 := hf 2 (by decide)
      have ed : (16 * i + j) / 16 = i := by omega
      have em : (16 * i + j) % 16 = j := by omega
      have fin : ∀ v L4, v = zw_0 (mem 2) (16 * i + j) → az_Ev X (d + 1) mX5_findWays 12 [some (.inr 371), some (.inr 1), some (.inl (nI i)), some (.inl (nI (j + 1))), L4] [] (az_w m' 373 (16 * i + j) v) Q := by
        intro v L4 hv
        refine ih2 _ _ (fun k hk => by rw [az_w_ne _ hk]; exact hf k hk) (fun q => ?_)
        rw [az_w_same, zm_upd_eq, h1]
        by_cases hqq : q = 16 * i + j
        · rw [if_pos hqq, if_pos (by omega), hqq]; exact hv
        · rw [if_neg hqq]
          by_cases c : (q / 16 < i ∧ q % 16 < N) ∨ (q / 16 = i ∧ q % 16 < j)
          · rw [if_pos c, if_pos (by omega)]
          · rw [if_neg c, if_neg (by omega)]
      unfold zw_0 at fin
      rw [ed, em] at fin
      refine az_iloadn dX5_findWays_12 rfl ?_
      refine az_aloadn dX5_findWays_13 rfl ?_
      refine az_geti dX5_findWays_14 flX5_9 sh_371 rfl ?_
      rw [hn']
      refine az_icmpge (t := 75) dX5_findWays_17 (by decide) (fun h17 => ?_) (fun h17 => ?_)
      · exact absurd h17 (nI_ge (by omega) (by omega))
      refine az_aloadn dX5_findWays_20 rfl ?_
      refine az_iloadn dX5_findWays_21 rfl ?_
      refine az_iloadn dX5_findWays_22 rfl ?_
      refine az_inv2 (N := mX2_hasRoad) dX5_findWays_23 lkX5_66 okX2_hasRoad sh_1 rfl (Nat.le_of_ble_eq_true rfl) ?_
      refine s_X2_hasRoad (by omega) (by omega) ?_
      try dsimp only [az_ps]
      refine az_ifeq (t := 43) dX5_findWays_26 (by decide) (fun h26 => ?_) (fun h26 => ?_)
      · replace h26 := zb_z h26
        rw [e2] at h26
        refine az_ldc dX5_findWays_43 kcX5_62 ?_
        refine az_istore dX5_findWays_45 (by decide) ?_
        dsimp only [List.set]
        refine az_aloadn dX5_findWays_47 rfl ?_
        refine az_getr dX5_findWays_48 flX5_19 sh_371 rfl ?_
        refine az_bipush (v := 16) dX5_findWays_51 (by decide) ?_
        refine az_iloadn dX5_findWays_53 rfl ?_
        refine az_imul dX5_findWays_54 ?_
        refine az_iloadn dX5_findWays_55 rfl ?_
        refine az_iadd dX5_findWays_56 ?_
        refine az_iloadn dX5_findWays_57 rfl ?_
        refine az_iloadn dX5_findWays_58 rfl ?_
        refine az_icmpne (t := 66) dX5_findWays_59 (by decide) (fun h59 => ?_) (fun h59 => ?_)
        · have hij : ¬ i = j := fun h => h59 (by rw [h])
          refine az_iload dX5_findWays_66 rfl ?_
          refine az_iast (16 * i + j) dX5_findWays_68 sh_373 (by omega) (by decide) (by simp only [az_lit, nI_add, pk_mul, Nat.add_assoc]) ?_
          refine az_iinc (w := 1) dX5_findWays_69 rfl (by decide) (by decide) ?_
          dsimp only [List.set]
          refine az_goto (t := 12) dX5_findWays_72 (by decide) ?_
          rw [nI_1]
          first
          | exact fin _ _ (by rw [if_pos hij])
          | exact fin _ _ (by rw [if_neg hij, if_neg h26])
          | exact fin _ _ (by rw [if_neg hij, if_pos h26, e2])
        · have hij : i = j := (nI_eq (by omega) (by omega)).mp h59
          refine az_iconst (v := 0) dX5_findWays_62 (by decide) ?_
          refine az_goto (t := 68) dX5_findWays_63 (by decide) ?_
          refine az_iast (16 * i + j) dX5_findWays_68 sh_373 (by omega) (by decide) (by simp only [az_lit, nI_add, pk_mul, Nat.add_assoc]) ?_
          refine az_iinc (w := 1) dX5_findWays_69 rfl (by decide) (by decide) ?_
          dsimp only [List.set]
          refine az_goto (t := 12) dX5_findWays_72 (by decide) ?_
          rw [nI_1]
          first
          | exact fin _ _ (by rw [if_pos hij])
          | exact fin _ _ (by rw [if_neg hij, if_neg h26])
          | exact fin _ _ (by rw [if_neg hij, if_pos h26, e2])
      · replace h26 := zb_n h26
        rw [e2] at h26
        refine az_aloadn dX5_findWays_29 rfl ?_
        refine az_getr dX5_findWays_30 flX5_70 sh_1 rfl ?_
        refine az_bipush (v := 16) dX5_findWays_33 (by decide) ?_
        refine az_iloadn dX5_findWays_35 rfl ?_
        refine az_imul dX5_findWays_36 ?_
        refine az_iloadn dX5_findWays_37 rfl ?_
        refine az_iadd dX5_findWays_38 ?_
        refine az_iald (16 * i + j) dX5_findWays_39 sh_2 (by omega) (by decide) (by simp only [az_lit, nI_add, pk_mul, Nat.add_assoc]) ?_
        refine az_goto (t := 45) dX5_findWays_40 (by decide) ?_
        refine az_istore dX5_findWays_45 (by decide) ?_
        dsimp only [List.set]
        refine az_aloadn dX5_findWays_47 rfl ?_
        refine az_getr dX5_findWays_48 flX5_19 sh_371 rfl ?_
        refine az_bipush (v := 16) dX5_findWays_51 (by decide) ?_
        refine az_pc 53 (by decide) ?_
        refine az_iloadn dX5_findWays_53 rfl ?_
        refine az_imul dX5_findWays_54 ?_
        refine az_iloadn dX5_findWays_55 rfl ?_
        refine az_iadd dX5_findWays_56 ?_
        refine az_iloadn dX5_findWays_57 rfl ?_
        refine az_iloadn dX5_findWays_58 rfl ?_
        refine az_icmpne (t := 66) dX5_findWays_59 (by decide) (fun h59 => ?_) (fun h59 => ?_)
        · have hij : ¬ i = j := fun h => h59 (by rw [h])
          refine az_iload dX5_findWays_66 rfl ?_
          refine az_iast (16 * i + j) dX5_findWays_68 sh_373 (by omega) (by decide) (by simp only [az_lit, nI_add, pk_mul, Nat.add_assoc]) ?_
          refine az_iinc (w := 1) dX5_findWays_69 rfl (by decide) (by decide) ?_
          dsimp only [List.set]
          refine az_goto (t := 12) dX5_findWays_72 (by decide) ?_
          rw [nI_1]
          first
          | exact fin _ _ (by rw [if_pos hij])
          | exact fin _ _ (by rw [if_neg hij, if_neg h26])
          | exact fin _ _ (by rw [if_neg hij, if_pos h26, e2])
        · have hij : i = j := (nI_eq (by omega) (by omega)).mp h59
          refine az_iconst (v := 0) dX5_findWays_62 (by decide) ?_
          refine az_goto (t := 68) dX5_findWays_63 (by decide) ?_
          refine az_iast (16 * i + j) dX5_findWays_68 sh_373 (by omega) (by decide) (by simp only [az_lit, nI_add, pk_mul, Nat.add_assoc]) ?_
          refine az_iinc (w := 1) dX5_findWays_69 rfl (by decide) (by decide) ?_
          dsimp only [List.set]
          refine az_goto (t := 12) dX5_findWays_72 (by decide) ?_
          rw [nI_1]
          first
          | exact fin _ _ (by rw [if_pos hij])
          | exact fin _ _ (by rw [if_neg hij, if_neg h26])
          | exact fin _ _ (by rw [if_neg hij, if_pos h26, e2])
    · have hn' : m' 371 0 = nI N := by rw [hf 371 (by decide)]; exact hn
      refine az_iloadn dX5_findWays_12 rfl ?_
      refine az_aloadn dX5_findWays_13 rfl ?_
      refine az_geti dX5_findWays_14 flX5_9 sh_371 rfl ?_
      rw [hn']
      refine az_icmpge (t := 75) dX5_findWays_17 (by decide) (fun h17 => ?_) (fun h17 => ?_)
      rotate_left 1
      · exact absurd (Int32.le_refl _) h17
      refine az_iinc (w := 1) dX5_findWays_75 rfl (by decide) (by decide) ?_
      dsimp only [List.set]
      refine az_goto (t := 2) dX5_findWays_78 (by decide) ?_
      rw [nI_1]
      refine ih _ _ _ hf (fun q => ?_)
      rw [h1]
      by_cases c : (q / 16 < i ∧ q % 16 < N) ∨ (q / 16 = i ∧ q % 16 < N)
      · rw [if_pos c, if_pos (by omega)]
      · rw [if_neg c, if_neg (by omega)]
  · have hn' : m' 371 0 = nI N := by rw [hf 371 (by decide)]; exact hn
    have hw : m' 373 = zx_00 N (mem 2) (mem 373) := by funext j; exact h1 j
    rw [← hw] at hQ
    clear h1
    refine az_iloadn dX5_findWays_2 rfl ?_
    refine az_aloadn dX5_findWays_3 rfl ?_
    refine az_geti dX5_findWays_4 flX5_9 sh_371 rfl ?_
    rw [hn']
    refine az_icmpge (t := 81) dX5_findWays_7 (by decide) (fun h7 => ?_) (fun h7 => ?_)
    rotate_left 1
    · exact absurd (Int32.le_refl _) h7
    refine az_iconst (v := 0) dX5_findWays_81 (by decide) ?_
    refine az_istoren dX5_findWays_82 (by decide) ?_
    dsimp only [List.set]
    skip
    generalize hR : zx_k N N 0 (m' 373) = R at hQ
    clear hw hn'
    refine az_up (fun i => ∀ m' L3, (∀ k, k ≠ 373 → m' k = mem k) → zx_k N (N - i) i (m' 373) = R → az_Ev X (d + 1) mX5_findWays 83 [some (.inr 371), some (.inr 1), some (.inl (nI i)), L3, L4] [] m' Q) N 0 (by omega) (fun k _ hk ih m' L3 hf h1 => ?_) (fun m' L3 hf h1 => ?_) m' L3 hf hR
    · have hn' : m' 371 0 = nI N := by rw [hf 371 (by decide)]; exact hn
      rw [zs_sub hk, zx_k] at h1
      refine az_iloadn dX5_findWays_83 rfl ?_
      refine az_aloadn dX5_findWays_84 rfl ?_
      refine az_geti dX5_findWays_85 flX5_9 sh_371 rfl ?_
      rw [hn']
      refine az_icmpge (t := 119) dX5_findWays_88 (by decide) (fun h88 => ?_) (fun h88 => ?_)
      · exact absurd h88 (nI_ge (by omega) (by omega))
      refine az_iconst (v := 0) dX5_findWays_91 (by decide) ?_
      refine az_istoren dX5_findWays_92 (by decide) ?_
      dsimp only [List.set]
      skip
      generalize hR2 : zx_a N k N 0 (m' 373) = R2 at h1
      refine az_up (fun a => ∀ m', (∀ k, k ≠ 373 → m' k = mem k) → zx_a N k (N - a) a (m' 373) = R2 → az_Ev X (d + 1) mX5_findWays 93 [some (.inr 371), some (.inr 1), some (.inl (nI k)), some (.inl (nI a)), L4] [] m' Q) N 0 (by omega) (fun a _ ha ih2 m' hf h2 => ?_) (fun m' hf h2 => ?_) m' hf hR2
      · have hn' : m' 371 0 = nI N := by rw [hf 371 (by decide)]; exact hn
        rw [zs_sub ha, zx_a] at h2
        refine az_iloadn dX5_findWays_93 rfl ?_
        refine az_aloadn dX5_findWays_94 rfl ?_
        refine az_geti dX5_findWays_95 flX5_9 sh_371 rfl ?_
        rw [hn']
        refine az_icmpge (t := 113) dX5_findWays_98 (by decide) (fun h98 => ?_) (fun h98 => ?_)
        · exact absurd h98 (nI_ge (by omega) (by omega))
        refine az_aloadn dX5_findWays_101 rfl ?_
        refine az_iloadn dX5_findWays_102 rfl ?_
        refine az_iloadn dX5_findWays_103 rfl ?_
        refine az_inv2 (N := mX5_shortenWays) dX5_findWays_104 lkX5_73 okX5_shortenWays sh_371 rfl (Nat.le_of_ble_eq_true rfl) ?_
        refine s_X5_shortenWays hn' hN (by omega) (by omega) (fun m2 f2 g2 => ?_)
        try dsimp only [az_ps]
        refine az_iinc (w := 1) dX5_findWays_107 rfl (by decide) (by decide) ?_
        dsimp only [List.set]
        refine az_goto (t := 93) dX5_findWays_110 (by decide) ?_
        rw [nI_1]; exact ih2 _ (fun q hq => by rw [f2 q hq]; exact hf q hq) (by rw [g2]; exact h2)
      · have hn' : m' 371 0 = nI N := by rw [hf 371 (by decide)]; exact hn
        rw [Nat.sub_self, zx_a] at h2
        refine az_iloadn dX5_findWays_93 rfl ?_
        refine az_aloadn dX5_findWays_94 rfl ?_
        refine az_geti dX5_findWays_95 flX5_9 sh_371 rfl ?_
        rw [hn']
        refine az_icmpge (t := 113) dX5_findWays_98 (by decide) (fun h98 => ?_) (fun h98 => ?_)
        rotate_left 1
        · exact absurd (Int32.le_refl _) h98
        refine az_iinc (w := 1) dX5_findWays_113 rfl (by decide) (by decide) ?_
        dsimp only [List.set]
        refine az_goto (t := 83) dX5_findWays_116 (by decide) ?_
        rw [nI_1]; exact ih _ _ hf (by rw [h2]; exact h1)
    · have hn' : m' 371 0 = nI N := by rw [hf 371 (by decide)]; exact hn
      rw [Nat.sub_self, zx_k] at h1
      refine az_iloadn dX5_findWays_83 rfl ?_
      refine az_aloadn dX5_findWays_84 rfl ?_
      refine az_geti dX5_findWays_85 flX5_9 sh_371 rfl ?_
      rw [hn']
      refine az_icmpge (t := 119) dX5_findWays_88 (by decide) (fun h88 => ?_) (fun h88 => ?_)
      rotate_left 1
      · exact absurd (Int32.le_refl _) h88
      refine az_vret dX5_findWays_119 rfl ?_
      exact hQ m' hf h1
theorem s_X5_answerOf {m p : Nat} (hm : m < 16) (hp : p < 16) (hpN : p < N) (hN : N ≤ 16) (hb : mem 372 m = zm_mask (zm_bf (mem 2) m) N) (hQ : Q (some (.inl (zx_says (mem 1 1) (mem 1 2) (mem 3 m) (mem 373 (16 * m + p)) (zm_bf (mem 2) m p) (decide (m = p))))) mem) : az_Sp X d mX5_answerOf [.inr 371, .inr 1, .inl (nI m), .inl (nI p)] mem Q := by
  have hbit : ((mem 372 m >>> (nI p &&& 31)) &&& 1 = 1) ↔ zm_bf (mem 2) m p = true := by
    rw [hb, zm_mask_n _ N (by omega), zb_bit1 (by have := zn_lt (zm_bf (mem 2) m) N; have := zi_pow hN; omega) (by omega), zn_bit]
    simp [hpN]
  unfold zx_says at hQ
  refine az_body (by decide +kernel) (Nat.le_of_ble_eq_true rfl) ?_
  show az_Ev X _ mX5_answerOf 0 [some (.inr 371), some (.inr 1), some (.inl (nI m)), some (.inl (nI p)), none, none] [] mem Q
  refine az_aloadn dX5_answerOf_0 rfl ?_
  refine az_getr dX5_answerOf_1 flX5_19 sh_371 rfl ?_
  refine az_bipush (v := 16) dX5_answerOf_4 (by decide) ?_
  refine az_iloadn dX5_answerOf_6 rfl ?_
  refine az_imul dX5_answerOf_7 ?_
  refine az_iloadn dX5_answerOf_8 rfl ?_
  refine az_iadd dX5_answerOf_9 ?_
  refine az_iald (16 * m + p) dX5_answerOf_10 sh_373 (by omega) (by decide) (by simp only [az_lit, nI_add, pk_mul, Nat.add_assoc]) ?_
  refine az_istore dX5_answerOf_11 (by decide) ?_
  dsimp only [List.set]
  refine az_aloadn dX5_answerOf_13 rfl ?_
  refine az_getr dX5_answerOf_14 flX5_15 sh_371 rfl ?_
  refine az_iloadn dX5_answerOf_17 rfl ?_
  refine az_iald (m) dX5_answerOf_18 sh_372 (by omega) (by decide) (by simp only [az_lit, nI_add, pk_mul, Nat.add_assoc]) ?_
  refine az_pc 19 (by decide) ?_
  refine az_iloadn dX5_answerOf_19 rfl ?_
  refine az_ishr dX5_answerOf_20 ?_
  refine az_iconst (v := 1) dX5_answerOf_21 (by decide) ?_
  refine az_iand dX5_answerOf_22 ?_
  refine az_iconst (v := 1) dX5_answerOf_23 (by decide) ?_
  refine az_icmpne (t := 31) dX5_answerOf_24 (by decide) (fun h24 => ?_) (fun h24 => ?_)
  · have hbs : zm_bf (mem 2) m p = false := by
      cases h : zm_bf (mem 2) m p with
      | false => rfl
      | true => exact absurd (hbit.mpr h) h24
    rw [hbs] at hQ
    refine az_iconst (v := 0) dX5_answerOf_31 (by decide) ?_
    refine az_istore dX5_answerOf_32 (by decide) ?_
    dsimp only [List.set]
    refine az_aloadn dX5_answerOf_34 rfl ?_
    refine az_geti dX5_answerOf_35 flX5_59 sh_1 rfl ?_
    by_cases hs38_1 : mem 1 1 = 1
    · refine az_tin (off := 30) (t := 68) dX5_answerOf_38 (by rw [hs38_1]; decide) (by rw [hs38_1]; decide) (by rw [hs38_1]; decide) (by decide) ?_
      rw [if_pos hs38_1] at hQ
      refine az_iloadn dX5_answerOf_68 rfl ?_
      refine az_iloadn dX5_answerOf_69 rfl ?_
      refine az_icmpeq (t := 78) dX5_answerOf_70 (by decide) (fun h70 => ?_) (fun h70 => ?_)
      · have hmp : m = p := ((nI_eq (by omega) (by omega)).mp h70).symm
        rw [if_pos (by simp [hmp])] at hQ
        refine az_iconst (v := 1) dX5_answerOf_78 (by decide) ?_
        refine az_goto (t := 83) dX5_answerOf_79 (by decide) ?_
        refine az_iret dX5_answerOf_83 rfl ?_
        first | exact hQ | exact absurd h75 (by decide) | exact absurd rfl h75 | (rw [if_neg (by simp [hmp])] at hQ; exact hQ) | (rw [if_pos (by simp)] at hQ; exact hQ)
      · have hmp : ¬ m = p := fun h => h70 (by rw [h])
        refine az_iload dX5_answerOf_73 rfl ?_
        refine az_ifeq (t := 82) dX5_answerOf_75 (by decide) (fun h75 => ?_) (fun h75 => ?_)
        · refine az_iconst (v := 0) dX5_answerOf_82 (by decide) ?_
          refine az_iret dX5_answerOf_83 rfl ?_
          first | exact hQ | exact absurd h75 (by decide) | exact absurd rfl h75 | (rw [if_neg (by simp [hmp])] at hQ; exact hQ) | (rw [if_pos (by simp)] at hQ; exact hQ)
        · refine az_iconst (v := 1) dX5_answerOf_78 (by decide) ?_
          refine az_goto (t := 83) dX5_answerOf_79 (by decide) ?_
          refine az_iret dX5_answerOf_83 rfl ?_
          first | exact hQ | exact absurd h75 (by decide) | exact absurd rfl h75 | (rw [if_neg (by simp [hmp])] at hQ; exact hQ) | (rw [if_pos (by simp)] at hQ; exact hQ)
    by_cases hs38_2 : mem 1 1 = 2
    · refine az_tin (off := 46) (t := 84) dX5_answerOf_38 (by rw [hs38_2]; decide) (by rw [hs38_2]; decide) (by rw [hs38_2]; decide) (by decide) ?_
      rw [if_neg hs38_1, if_pos hs38_2] at hQ
      refine az_iload dX5_answerOf_84 rfl ?_
      refine az_ifeq (t := 93) dX5_answerOf_86 (by decide) (fun h86 => ?_) (fun h86 => ?_)
      · refine az_iconst (v := 0) dX5_answerOf_93 (by decide) ?_
        refine az_iret dX5_answerOf_94 rfl ?_
        first | exact absurd h86 (by decide) | exact absurd rfl h86 | (rw [if_neg (by decide)] at hQ; exact hQ) | (rw [if_pos rfl] at hQ; exact hQ)
      · refine az_iconst (v := 1) dX5_answerOf_89 (by decide) ?_
        refine az_goto (t := 94) dX5_answerOf_90 (by decide) ?_
        refine az_iret dX5_answerOf_94 rfl ?_
        first | exact absurd h86 (by decide) | exact absurd rfl h86 | (rw [if_neg (by decide)] at hQ; exact hQ) | (rw [if_pos rfl] at hQ; exact hQ)
    by_cases hs38_3 : mem 1 1 = 3
    · refine az_tin (off := 57) (t := 95) dX5_answerOf_38 (by rw [hs38_3]; decide) (by rw [hs38_3]; decide) (by rw [hs38_3]; decide) (by decide) ?_
      rw [if_neg hs38_1, if_neg hs38_2, if_pos hs38_3] at hQ
      refine az_iload dX5_answerOf_95 rfl ?_
      refine az_aloadn dX5_answerOf_97 rfl ?_
      refine az_geti dX5_answerOf_98 flX5_77 sh_1 rfl ?_
      refine az_icmpgt (t := 108) dX5_answerOf_101 (by decide) (fun h101 => ?_) (fun h101 => ?_)
      · rw [if_neg (fun h => absurd h101 (Int32.not_lt.mpr h))] at hQ
        refine az_iconst (v := 0) dX5_answerOf_108 (by decide) ?_
        refine az_iret dX5_answerOf_109 rfl ?_
        exact hQ
      · rw [if_pos (Int32.not_lt.mp h101)] at hQ
        refine az_iconst (v := 1) dX5_answerOf_104 (by decide) ?_
        refine az_goto (t := 109) dX5_answerOf_105 (by decide) ?_
        refine az_iret dX5_answerOf_109 rfl ?_
        exact hQ
    by_cases hs38_4 : mem 1 1 = 4
    · refine az_tin (off := 72) (t := 110) dX5_answerOf_38 (by rw [hs38_4]; decide) (by rw [hs38_4]; decide) (by rw [hs38_4]; decide) (by decide) ?_
      rw [if_neg hs38_1, if_neg hs38_2, if_neg hs38_3, if_pos hs38_4] at hQ
      refine az_iload dX5_answerOf_110 rfl ?_
      refine az_aloadn dX5_answerOf_112 rfl ?_
      refine az_getr dX5_answerOf_113 flX5_80 sh_1 rfl ?_
      refine az_iloadn dX5_answerOf_116 rfl ?_
      refine az_iald (m) dX5_answerOf_117 sh_3 (by omega) (by decide) (by simp only [az_lit, nI_add, pk_mul, Nat.add_assoc]) ?_
      refine az_icmpgt (t := 125) dX5_answerOf_118 (by decide) (fun h118 => ?_) (fun h118 => ?_)
      · rw [if_neg (fun h => absurd h118 (Int32.not_lt.mpr h))] at hQ
        refine az_iconst (v := 0) dX5_answerOf_125 (by decide) ?_
        refine az_iret dX5_answerOf_126 rfl ?_
        exact hQ
      · rw [if_pos (Int32.not_lt.mp h118)] at hQ
        refine az_iconst (v := 1) dX5_answerOf_121 (by decide) ?_
        refine az_goto (t := 126) dX5_answerOf_122 (by decide) ?_
        refine az_iret dX5_answerOf_126 rfl ?_
        exact hQ
    refine az_tout (t := 127) dX5_answerOf_38 (by have g0 := zi_ne (k := 1) (by decide) hs38_1; have g1 := zi_ne (k := 2) (by decide) hs38_2; have g2 := zi_ne (k := 3) (by decide) hs38_3; have g3 := zi_ne (k := 4) (by decide) hs38_4; omega) (by decide) ?_
    rw [if_neg hs38_1, if_neg hs38_2, if_neg hs38_3, if_neg hs38_4] at hQ
    refine az_iload dX5_answerOf_127 rfl ?_
    refine az_iret dX5_answerOf_129 rfl ?_
    exact hQ
  · have hbs : zm_bf (mem 2) m p = true := hbit.mp h24
    rw [hbs] at hQ
    refine az_iconst (v := 1) dX5_answerOf_27 (by decide) ?_
    refine az_goto (t := 32) dX5_answerOf_28 (by decide) ?_
    refine az_istore dX5_answerOf_32 (by decide) ?_
    dsimp only [List.set]
    refine az_aloadn dX5_answerOf_34 rfl ?_
    refine az_geti dX5_answerOf_35 flX5_59 sh_1 rfl ?_
    by_cases hs38_1 : mem 1 1 = 1
    · refine az_tin (off := 30) (t := 68) dX5_answerOf_38 (by rw [hs38_1]; decide) (by rw [hs38_1]; decide) (by rw [hs38_1]; decide) (by decide) ?_
      rw [if_pos hs38_1] at hQ
      refine az_iloadn dX5_answerOf_68 rfl ?_
      refine az_iloadn dX5_answerOf_69 rfl ?_
      refine az_icmpeq (t := 78) dX5_answerOf_70 (by decide) (fun h70 => ?_) (fun h70 => ?_)
      · have hmp : m = p := ((nI_eq (by omega) (by omega)).mp h70).symm
        rw [if_pos (by simp [hmp])] at hQ
        refine az_iconst (v := 1) dX5_answerOf_78 (by decide) ?_
        refine az_goto (t := 83) dX5_answerOf_79 (by decide) ?_
        refine az_iret dX5_answerOf_83 rfl ?_
        first | exact hQ | exact absurd h75 (by decide) | exact absurd rfl h75 | (rw [if_neg (by simp [hmp])] at hQ; exact hQ) | (rw [if_pos (by simp)] at hQ; exact hQ)
      · have hmp : ¬ m = p := fun h => h70 (by rw [h])
        refine az_iload dX5_answerOf_73 rfl ?_
        refine az_ifeq (t := 82) dX5_answerOf_75 (by decide) (fun h75 => ?_) (fun h75 => ?_)
        · refine az_iconst (v := 0) dX5_answerOf_82 (by decide) ?_
          refine az_iret dX5_answerOf_83 rfl ?_
          first | exact hQ | exact absurd h75 (by decide) | exact absurd rfl h75 | (rw [if_neg (by simp [hmp])] at hQ; exact hQ) | (rw [if_pos (by simp)] at hQ; exact hQ)
        · refine az_iconst (v := 1) dX5_answerOf_78 (by decide) ?_
          refine az_goto (t := 83) dX5_answerOf_79 (by decide) ?_
          refine az_iret dX5_answerOf_83 rfl ?_
          first | exact hQ | exact absurd h75 (by decide) | exact absurd rfl h75 | (rw [if_neg (by simp [hmp])] at hQ; exact hQ) | (rw [if_pos (by simp)] at hQ; exact hQ)
    by_cases hs38_2 : mem 1 1 = 2
    · refine az_tin (off := 46) (t := 84) dX5_answerOf_38 (by rw [hs38_2]; decide) (by rw [hs38_2]; decide) (by rw [hs38_2]; decide) (by decide) ?_
      rw [if_neg hs38_1, if_pos hs38_2] at hQ
      refine az_iload dX5_answerOf_84 rfl ?_
      refine az_ifeq (t := 93) dX5_answerOf_86 (by decide) (fun h86 => ?_) (fun h86 => ?_)
      · refine az_iconst (v := 0) dX5_answerOf_93 (by decide) ?_
        refine az_iret dX5_answerOf_94 rfl ?_
        first | exact absurd h86 (by decide) | exact absurd rfl h86 | (rw [if_neg (by decide)] at hQ; exact hQ) | (rw [if_pos rfl] at hQ; exact hQ)
      · refine az_iconst (v := 1) dX5_answerOf_89 (by decide) ?_
        refine az_goto (t := 94) dX5_answerOf_90 (by decide) ?_
        refine az_iret dX5_answerOf_94 rfl ?_
        first | exact absurd h86 (by decide) | exact absurd rfl h86 | (rw [if_neg (by decide)] at hQ; exact hQ) | (rw [if_pos rfl] at hQ; exact hQ)
    by_cases hs38_3 : mem 1 1 = 3
    · refine az_tin (off := 57) (t := 95) dX5_answerOf_38 (by rw [hs38_3]; decide) (by rw [hs38_3]; decide) (by rw [hs38_3]; decide) (by decide) ?_
      rw [if_neg hs38_1, if_neg hs38_2, if_pos hs38_3] at hQ
      refine az_iload dX5_answerOf_95 rfl ?_
      refine az_aloadn dX5_answerOf_97 rfl ?_
      refine az_geti dX5_answerOf_98 flX5_77 sh_1 rfl ?_
      refine az_icmpgt (t := 108) dX5_answerOf_101 (by decide) (fun h101 => ?_) (fun h101 => ?_)
      · rw [if_neg (fun h => absurd h101 (Int32.not_lt.mpr h))] at hQ
        refine az_iconst (v := 0) dX5_answerOf_108 (by decide) ?_
        refine az_iret dX5_answerOf_109 rfl ?_
        exact hQ
      · rw [if_pos (Int32.not_lt.mp h101)] at hQ
        refine az_iconst (v := 1) dX5_answerOf_104 (by decide) ?_
        refine az_goto (t := 109) dX5_answerOf_105 (by decide) ?_
        refine az_iret dX5_answerOf_109 rfl ?_
        exact hQ
    by_cases hs38_4 : mem 1 1 = 4
    · refine az_tin (off := 72) (t := 110) dX5_answerOf_38 (by rw [hs38_4]; decide) (by rw [hs38_4]; decide) (by rw [hs38_4]; decide) (by decide) ?_
      rw [if_neg hs38_1, if_neg hs38_2, if_neg hs38_3, if_pos hs38_4] at hQ
      refine az_iload dX5_answerOf_110 rfl ?_
      refine az_aloadn dX5_answerOf_112 rfl ?_
      refine az_getr dX5_answerOf_113 flX5_80 sh_1 rfl ?_
      refine az_iloadn dX5_answerOf_116 rfl ?_
      refine az_iald (m) dX5_answerOf_117 sh_3 (by omega) (by decide) (by simp only [az_lit, nI_add, pk_mul, Nat.add_assoc]) ?_
      refine az_icmpgt (t := 125) dX5_answerOf_118 (by decide) (fun h118 => ?_) (fun h118 => ?_)
      · rw [if_neg (fun h => absurd h118 (Int32.not_lt.mpr h))] at hQ
        refine az_iconst (v := 0) dX5_answerOf_125 (by decide) ?_
        refine az_iret dX5_answerOf_126 rfl ?_
        exact hQ
      · rw [if_pos (Int32.not_lt.mp h118)] at hQ
        refine az_iconst (v := 1) dX5_answerOf_121 (by decide) ?_
        refine az_goto (t := 126) dX5_answerOf_122 (by decide) ?_
        refine az_iret dX5_answerOf_126 rfl ?_
        exact hQ
    refine az_tout (t := 127) dX5_answerOf_38 (by have g0 := zi_ne (k := 1) (by decide) hs38_1; have g1 := zi_ne (k := 2) (by decide) hs38_2; have g2 := zi_ne (k := 3) (by decide) hs38_3; have g3 := zi_ne (k := 4) (by decide) hs38_4; omega) (by decide) ?_
    rw [if_neg hs38_1, if_neg hs38_2, if_neg hs38_3, if_neg hs38_4] at hQ
    refine az_iload dX5_answerOf_127 rfl ?_
    refine az_iret dX5_answerOf_129 rfl ?_
    exact hQ
theorem s_X5_sameAnswer {m p : Nat} (hn : mem 371 0 = nI N) (hN : N ≤ 16) (hm : m < 16) (hp : p < 16) (hQ : Q (some (.inl (nI (zn_mask (zx_sa (mem 374) m p) N)))) mem) : az_Sp X d mX5_sameAnswer [.inr 371, .inl (nI m), .inl (nI p)] mem Q := by
  rw [← zm_mask_n _ N (by omega)] at hQ
  refine az_body (by decide +kernel) (Nat.le_of_ble_eq_true rfl) ?_
  show az_Ev X _ mX5_sameAnswer 0 [some (.inr 371), some (.inl (nI m)), some (.inl (nI p)), none, none] [] mem Q
  refine az_iconst (v := 0) dX5_sameAnswer_0 (by decide) ?_
  refine az_istoren dX5_sameAnswer_1 (by decide) ?_
  dsimp only [List.set]
  refine az_iconst (v := 0) dX5_sameAnswer_2 (by decide) ?_
  refine az_istore dX5_sameAnswer_3 (by decide) ?_
  dsimp only [List.set]
  skip
  refine az_up (fun i => az_Ev X d mX5_sameAnswer 5 [some (.inr 371), some (.inl (nI m)), some (.inl (nI p)), some (.inl (zm_mask (zx_sa (mem 374) m p) i)), some (.inl (nI i))] [] mem Q) N 0 (by omega) (fun i _ hi ih => ?_) ?_
  · refine az_iload dX5_sameAnswer_5 rfl ?_
    refine az_aloadn dX5_sameAnswer_7 rfl ?_
    refine az_geti dX5_sameAnswer_8 flX5_9 sh_371 rfl ?_
    rw [hn]
    refine az_icmpge (t := 53) dX5_sameAnswer_11 (by decide) (fun h11 => ?_) (fun h11 => ?_)
    · exact absurd h11 (nI_ge (by omega) (by omega))
    refine az_aloadn dX5_sameAnswer_14 rfl ?_
    refine az_getr dX5_sameAnswer_15 flX5_22 sh_371 rfl ?_
    refine az_bipush (v := 16) dX5_sameAnswer_18 (by decide) ?_
    refine az_iloadn dX5_sameAnswer_20 rfl ?_
    refine az_imul dX5_sameAnswer_21 ?_
    refine az_iload dX5_sameAnswer_22 rfl ?_
    refine az_iadd dX5_sameAnswer_24 ?_
    refine az_iald (16 * m + i) dX5_sameAnswer_25 sh_374 (by omega) (by decide) (by simp only [az_lit, nI_add, pk_mul, Nat.add_assoc]) ?_
    refine az_aloadn dX5_sameAnswer_26 rfl ?_
    refine az_pc 27 (by decide) ?_
    refine az_getr dX5_sameAnswer_27 flX5_22 sh_371 rfl ?_
    refine az_bipush (v := 16) dX5_sameAnswer_30 (by decide) ?_
    refine az_iloadn dX5_sameAnswer_32 rfl ?_
    refine az_imul dX5_sameAnswer_33 ?_
    refine az_iloadn dX5_sameAnswer_34 rfl ?_
    refine az_iadd dX5_sameAnswer_35 ?_
    refine az_iald (16 * m + p) dX5_sameAnswer_36 sh_374 (by omega) (by decide) (by simp only [az_lit, nI_add, pk_mul, Nat.add_assoc]) ?_
    refine az_icmpne (t := 47) dX5_sameAnswer_37 (by decide) (fun h37 => ?_) (fun h37 => ?_)
    · rw [zm_mask_f0 (by simp [zx_sa, h37])] at ih
      refine az_iinc (w := 1) dX5_sameAnswer_47 rfl (by decide) (by decide) ?_
      dsimp only [List.set]
      refine az_goto (t := 5) dX5_sameAnswer_50 (by decide) ?_
      rw [nI_1]; exact ih
    · rw [zm_mask_t (by simp [zx_sa, h37])] at ih
      refine az_iloadn dX5_sameAnswer_40 rfl ?_
      refine az_iconst (v := 1) dX5_sameAnswer_41 (by decide) ?_
      refine az_iload dX5_sameAnswer_42 rfl ?_
      refine az_ishl dX5_sameAnswer_44 ?_
      refine az_ior dX5_sameAnswer_45 ?_
      refine az_istoren dX5_sameAnswer_46 (by decide) ?_
      dsimp only [List.set]
      refine az_iinc (w := 1) dX5_sameAnswer_47 rfl (by decide) (by decide) ?_
      dsimp only [List.set]
      refine az_goto (t := 5) dX5_sameAnswer_50 (by decide) ?_
      rw [nI_1]; exact ih
  · refine az_iload dX5_sameAnswer_5 rfl ?_
    refine az_aloadn dX5_sameAnswer_7 rfl ?_
    refine az_geti dX5_sameAnswer_8 flX5_9 sh_371 rfl ?_
    rw [hn]
    refine az_icmpge (t := 53) dX5_sameAnswer_11 (by decide) (fun h11 => ?_) (fun h11 => ?_)
    rotate_left 1
    · exact absurd (Int32.le_refl _) h11
    refine az_iloadn dX5_sameAnswer_53 rfl ?_
    refine az_iret dX5_sameAnswer_54 rfl ?_
    exact hQ
theorem s_X5_groupPosts {m : Nat} (hn : mem 371 0 = nI N) (hN : N ≤ 16) (hm : m < 16) (hQ : ∀ m', (∀ k, k ≠ 377 → k ≠ 378 → m' k = mem k) → (∀ i, (i < 16 * m ∨ 16 * m + 16 ≤ i) → m' 377 i = mem 377 i) → (∀ i, i < (zx_gl (mem 374) N m).length → m' 377 (16 * m + i) = nI ((zx_gl (mem 374) N m).getD i 0)) → (∀ i, m' 378 i = if i = m then nI (zx_gl (mem 374) N m).length else mem 378 i) → Q none m') : az_Sp X (d + 1) mX5_groupPosts [.inr 371, .inl (nI m)] mem Q := by
  have hp := zi_pow hN
  refine az_body (by decide +kernel) (Nat.le_of_ble_eq_true rfl) ?_
  show az_Ev X _ mX5_groupPosts 0 [some (.inr 371), some (.inl (nI m)), none, none, none, none] [] mem Q
  refine az_iconst (v := 0) dX5_groupPosts_0 (by decide) ?_
  refine az_istoren dX5_groupPosts_1 (by decide) ?_
  dsimp only [List.set]
  refine az_iconst (v := 0) dX5_groupPosts_2 (by decide) ?_
  refine az_istoren dX5_groupPosts_3 (by decide) ?_
  dsimp only [List.set]
  refine az_iconst (v := 0) dX5_groupPosts_4 (by decide) ?_
  refine az_istore dX5_groupPosts_5 (by decide) ?_
  dsimp only [List.set]
  skip
  unfold zx_gl at hQ
  generalize hR : zx_g (mem 374) N m N 0 0 [] = R at hQ
  refine az_up (fun p => ∀ m' (g : Nat) (l : List Nat) L5, (∀ k, k ≠ 377 → m' k = mem k) → (∀ i, (i < 16 * m ∨ 16 * m + 16 ≤ i) → m' 377 i = mem 377 i) → g < 2 ^ N → l.length ≤ p → (∀ i, i < l.length → m' 377 (16 * m + i) = nI (l.getD i 0)) → zx_g (mem 374) N m (N - p) p g l = R → az_Ev X (d + 1) mX5_groupPosts 7 [some (.inr 371), some (.inl (nI m)), some (.inl (nI l.length)), some (.inl (nI g)), some (.inl (nI p)), L5] [] m' Q) N 0 (by omega) (fun p _ hpN ih m' g l L5 hf h0 hg hl h1 hR => ?_) (fun m' g l L5 hf h0 hg hl h1 hR => ?_) mem 0 [] none (fun _ _ => rfl) (fun _ _ => rfl) (Nat.two_pow_pos N) (Nat.le_refl _) (fun i h => absurd h (by simp)) hR
  · have hn' : m' 371 0 = nI N := by rw [hf 371 (by decide)]; exact hn
    have hlt := zn_lt (zx_sa (mem 374) m p) N
    rw [zs_sub hpN, zx_g] at hR
    refine az_iload dX5_groupPosts_7 rfl ?_
    refine az_aloadn dX5_groupPosts_9 rfl ?_
    refine az_geti dX5_groupPosts_10 flX5_9 sh_371 rfl ?_
    rw [hn']
    refine az_icmpge (t := 61) dX5_groupPosts_13 (by decide) (fun h13 => ?_) (fun h13 => ?_)
    · exact absurd h13 (nI_ge (by omega) (by omega))
    refine az_iloadn dX5_groupPosts_16 rfl ?_
    refine az_iload dX5_groupPosts_17 rfl ?_
    refine az_ishr dX5_groupPosts_19 ?_
    refine az_iconst (v := 1) dX5_groupPosts_20 (by decide) ?_
    refine az_iand dX5_groupPosts_21 ?_
    refine az_ifne (t := 55) dX5_groupPosts_22 (by decide) (fun h22 => ?_) (fun h22 => ?_)
    · rw [zb_bit0 (by omega) (by omega)] at h22
      rw [if_pos (by simpa using h22)] at hR
      refine az_iinc (w := 1) dX5_groupPosts_55 rfl (by decide) (by decide) ?_
      dsimp only [List.set]
      refine az_goto (t := 7) dX5_groupPosts_58 (by decide) ?_
      rw [nI_1]; exact ih _ _ _ _ hf h0 hg (by omega) h1 hR
    rw [zb_bit0 (by omega) (by omega)] at h22
    rw [if_neg (by simp [h22])] at hR
    refine az_aloadn dX5_groupPosts_25 rfl ?_
    refine az_iloadn dX5_groupPosts_26 rfl ?_
    refine az_iload dX5_groupPosts_27 rfl ?_
    refine az_pc 29 (by decide) ?_
    refine az_inv2 (N := mX5_sameAnswer) dX5_groupPosts_29 lkX5_83 okX5_sameAnswer sh_371 rfl (Nat.le_of_ble_eq_true rfl) ?_
    refine s_X5_sameAnswer hn' hN (by omega) (by omega) ?_
    rw [hf 374 (by decide)]
    try dsimp only [az_ps]
    refine az_istore dX5_groupPosts_32 (by decide) ?_
    dsimp only [List.set]
    refine az_aloadn dX5_groupPosts_34 rfl ?_
    refine az_getr dX5_groupPosts_35 flX5_31 sh_371 rfl ?_
    refine az_bipush (v := 16) dX5_groupPosts_38 (by decide) ?_
    refine az_iloadn dX5_groupPosts_40 rfl ?_
    refine az_imul dX5_groupPosts_41 ?_
    refine az_iloadn dX5_groupPosts_42 rfl ?_
    refine az_iadd dX5_groupPosts_43 ?_
    refine az_iload dX5_groupPosts_44 rfl ?_
    refine az_iast (16 * m + l.length) dX5_groupPosts_46 sh_377 (by omega) (by decide) (by simp only [az_lit, nI_add, pk_mul, Nat.add_assoc]) ?_
    refine az_iloadn dX5_groupPosts_47 rfl ?_
    refine az_iload dX5_groupPosts_48 rfl ?_
    refine az_ior dX5_groupPosts_50 ?_
    refine az_pc 51 (by decide) ?_
    refine az_istoren dX5_groupPosts_51 (by decide) ?_
    dsimp only [List.set]
    refine az_iinc (w := 1) dX5_groupPosts_52 rfl (by decide) (by decide) ?_
    dsimp only [List.set]
    refine az_iinc (w := 1) dX5_groupPosts_55 rfl (by decide) (by decide) ?_
    dsimp only [List.set]
    refine az_goto (t := 7) dX5_groupPosts_58 (by decide) ?_
    rw [fa_or, show nI l.length + 1 = nI (l ++ [zn_mask (zx_sa (mem 374) m p) N]).length by rw [nI_1, List.length_append, List.length_singleton], nI_1]
    refine ih _ _ _ _ (fun k hk => by rw [az_w_ne _ hk]; exact hf k hk) (fun i hi => by rw [az_w_eq, if_neg (by omega)]; exact h0 i hi) (Nat.or_lt_two_pow hg hlt) (by rw [List.length_append, List.length_singleton]; omega) (fun i hi => ?_) hR
    rw [List.length_append, List.length_singleton] at hi
    rw [az_w_eq]
    by_cases hil : i = l.length
    · rw [if_pos ⟨rfl, by omega⟩, hil]
      simp only [List.getD_eq_getElem?_getD, List.getElem?_concat_length, Option.getD_some]
    · rw [if_neg (by omega), h1 i (by omega)]
      rw [List.getD_eq_getElem?_getD, List.getD_eq_getElem?_getD, List.getElem?_append_left (by omega)]
  · have hn' : m' 371 0 = nI N := by rw [hf 371 (by decide)]; exact hn
    rw [Nat.sub_self, zx_g] at hR
    subst hR
    refine az_iload dX5_groupPosts_7 rfl ?_
    refine az_aloadn dX5_groupPosts_9 rfl ?_
    refine az_geti dX5_groupPosts_10 flX5_9 sh_371 rfl ?_
    rw [hn']
    refine az_icmpge (t := 61) dX5_groupPosts_13 (by decide) (fun h13 => ?_) (fun h13 => ?_)
    rotate_left 1
    · exact absurd (Int32.le_refl _) h13
    refine az_aloadn dX5_groupPosts_61 rfl ?_
    refine az_getr dX5_groupPosts_62 flX5_34 sh_371 rfl ?_
    refine az_iloadn dX5_groupPosts_65 rfl ?_
    refine az_iloadn dX5_groupPosts_66 rfl ?_
    refine az_iast (m) dX5_groupPosts_67 sh_378 (by omega) (by decide) (by simp only [az_lit, nI_add, pk_mul, Nat.add_assoc]) ?_
    refine az_vret dX5_groupPosts_68 rfl ?_
    refine hQ _ (fun k k1 k2 => by rw [az_w_ne _ k2]; exact hf k k1) (fun i hi => by rw [az_w_ne _ (by decide)]; exact h0 i hi) (fun i hi => by rw [az_w_ne _ (by decide)]; exact h1 i hi) (fun i => by rw [az_w_same, zm_upd_eq, hf 378 (by decide)])
theorem s_X5_findParters (hn : mem 371 0 = nI N) (hN : N ≤ 16) (hQ : ∀ m', (∀ k, k ≠ 375 → m' k = mem k) → (∀ a b, a < b → b < N → m' 375 (16 * a + b) = zm_mask (zm_pf (mem 374) a b) N) → Q none m') : az_Sp X d mX5_findParters [.inr 371] mem Q := by
  refine az_body (by decide +kernel) (Nat.le_of_ble_eq_true rfl) ?_
  show az_Ev X _ mX5_findParters 0 [some (.inr 371), none, none, none, none] [] mem Q
  refine az_iconst (v := 0) dX5_findParters_0 (by decide) ?_
  refine az_istoren dX5_findParters_1 (by decide) ?_
  dsimp only [List.set]
  skip
  refine az_up (fun i => ∀ m' L2 L3 L4, (∀ k, k ≠ 375 → m' k = mem k) → (∀ a b, a < i → a < b → b < N → m' 375 (16 * a + b) = zm_mask (zm_pf (mem 374) a b) N) → az_Ev X d mX5_findParters 2 [some (.inr 371), some (.inl (nI i)), L2, L3, L4] [] m' Q) N 0 (by omega) (fun i _ hi ih m' L2 L3 L4 hf h1 => ?_) (fun m' L2 L3 L4 hf h1 => ?_) mem none none none (fun _ _ => rfl) (fun a b h => absurd h (by omega))
  · have hn' : m' 371 0 = nI N := by rw [hf 371 (by decide)]; exact hn
    refine az_iloadn dX5_findParters_2 rfl ?_
    refine az_aloadn dX5_findParters_3 rfl ?_
    refine az_geti dX5_findParters_4 flX5_9 sh_371 rfl ?_
    rw [hn']
    refine az_icmpge (t := 100) dX5_findParters_7 (by decide) (fun h7 => ?_) (fun h7 => ?_)
    · exact absurd h7 (nI_ge (by omega) (by omega))
    refine az_iloadn dX5_findParters_10 rfl ?_
    refine az_iconst (v := 1) dX5_findParters_11 (by decide) ?_
    refine az_iadd dX5_findParters_12 ?_
    refine az_istoren dX5_findParters_13 (by decide) ?_
    dsimp only [List.set]
    rw [nI_1]
    refine az_up (fun j => ∀ m' L3 L4, (∀ k, k ≠ 375 → m' k = mem k) → (∀ a b, a < i → a < b → b < N → m' 375 (16 * a + b) = zm_mask (zm_pf (mem 374) a b) N) → (∀ b, i < b → b < j → m' 375 (16 * i + b) = zm_mask (zm_pf (mem 374) i b) N) → az_Ev X d mX5_findParters 14 [some (.inr 371), some (.inl (nI i)), some (.inl (nI j)), L3, L4] [] m' Q) N (i + 1) (by omega) (fun j hj1 hj ih2 m' L3 L4 hf h1 h3 => ?_) (fun m' L3 L4 hf h1 h3 => ?_) m' L3 L4 hf h1 (fun b hb1 hb2 => absurd hb1 (by omega))
    · have hn' : m' 371 0 = nI N := by rw [hf 371 (by decide)]; exact hn
      have e4 : m' 374 = mem 374 := hf 374 (by decide)
      refine az_iloadn dX5_findParters_14 rfl ?_
      refine az_aloadn dX5_findParters_15 rfl ?_
      refine az_geti dX5_findParters_16 flX5_9 sh_371 rfl ?_
      rw [hn']
      refine az_icmpge (t := 94) dX5_findParters_19 (by decide) (fun h19 => ?_) (fun h19 => ?_)
      · exact absurd h19 (nI_ge (by omega) (by omega))
      refine az_iconst (v := 0) dX5_findParters_22 (by decide) ?_
      refine az_istoren dX5_findParters_23 (by decide) ?_
      dsimp only [List.set]
      refine az_iconst (v := 0) dX5_findParters_24 (by decide) ?_
      refine az_istore dX5_findParters_25 (by decide) ?_
      dsimp only [List.set]
      skip
      refine az_up (fun q => az_Ev X d mX5_findParters 27 [some (.inr 371), some (.inl (nI i)), some (.inl (nI j)), some (.inl (zm_mask (zm_pf (mem 374) i j) q)), some (.inl (nI q))] [] m' Q) N 0 (by omega) (fun q _ hq ih3 => ?_) ?_
      · refine az_iload dX5_findParters_27 rfl ?_
        refine az_aloadn dX5_findParters_29 rfl ?_
        refine az_geti dX5_findParters_30 flX5_9 sh_371 rfl ?_
        rw [hn']
        refine az_icmpge (t := 76) dX5_findParters_33 (by decide) (fun h33 => ?_) (fun h33 => ?_)
        · exact absurd h33 (nI_ge (by omega) (by omega))
        refine az_aloadn dX5_findParters_36 rfl ?_
        refine az_getr dX5_findParters_37 flX5_22 sh_371 rfl ?_
        refine az_bipush (v := 16) dX5_findParters_40 (by decide) ?_
        refine az_iload dX5_findParters_42 rfl ?_
        refine az_imul dX5_findParters_44 ?_
        refine az_iloadn dX5_findParters_45 rfl ?_
        refine az_iadd dX5_findParters_46 ?_
        refine az_iald (16 * q + i) dX5_findParters_47 sh_374 (by omega) (by decide) (by simp only [az_lit, nI_add, pk_mul, Nat.add_assoc]) ?_
        refine az_aloadn dX5_findParters_48 rfl ?_
        refine az_pc 49 (by decide) ?_
        refine az_getr dX5_findParters_49 flX5_22 sh_371 rfl ?_
        refine az_bipush (v := 16) dX5_findParters_52 (by decide) ?_
        refine az_iload dX5_findParters_54 rfl ?_
        refine az_imul dX5_findParters_56 ?_
        refine az_iloadn dX5_findParters_57 rfl ?_
        refine az_iadd dX5_findParters_58 ?_
        refine az_iald (16 * q + j) dX5_findParters_59 sh_374 (by omega) (by decide) (by simp only [az_lit, nI_add, pk_mul, Nat.add_assoc]) ?_
        refine az_icmpeq (t := 70) dX5_findParters_60 (by decide) (fun h60 => ?_) (fun h60 => ?_)
        · rw [e4] at h60; rw [zm_mask_f0 (by simp [zm_pf, h60])] at ih3
          refine az_iinc (w := 1) dX5_findParters_70 rfl (by decide) (by decide) ?_
          dsimp only [List.set]
          refine az_goto (t := 27) dX5_findParters_73 (by decide) ?_
          rw [nI_1]; exact ih3
        · rw [e4] at h60; rw [zm_mask_t (by simp [zm_pf, h60])] at ih3
          refine az_iloadn dX5_findParters_63 rfl ?_
          refine az_iconst (v := 1) dX5_findParters_64 (by decide) ?_
          refine az_iload dX5_findParters_65 rfl ?_
          refine az_ishl dX5_findParters_67 ?_
          refine az_ior dX5_findParters_68 ?_
          refine az_istoren dX5_findParters_69 (by decide) ?_
          dsimp only [List.set]
          refine az_iinc (w := 1) dX5_findParters_70 rfl (by decide) (by decide) ?_
          dsimp only [List.set]
          refine az_goto (t := 27) dX5_findParters_73 (by decide) ?_
          rw [nI_1]; exact ih3
      refine az_iload dX5_findParters_27 rfl ?_
      refine az_aloadn dX5_findParters_29 rfl ?_
      refine az_geti dX5_findParters_30 flX5_9 sh_371 rfl ?_
      rw [hn']
      refine az_icmpge (t := 76) dX5_findParters_33 (by decide) (fun h33 => ?_) (fun h33 => ?_)
      rotate_left 1
      · exact absurd (Int32.le_refl _) h33
      refine az_aloadn dX5_findParters_76 rfl ?_
      refine az_getr dX5_findParters_77 flX5_25 sh_371 rfl ?_
      refine az_bipush (v := 16) dX5_findParters_80 (by decide) ?_
      refine az_iloadn dX5_findParters_82 rfl ?_
      refine az_imul dX5_findParters_83 ?_
      refine az_iloadn dX5_findParters_84 rfl ?_
      refine az_iadd dX5_findParters_85 ?_
      refine az_iloadn dX5_findParters_86 rfl ?_
      refine az_iast (16 * i + j) dX5_findParters_87 sh_375 (by omega) (by decide) (by simp only [az_lit, nI_add, pk_mul, Nat.add_assoc]) ?_
      refine az_pc 88 (by decide) ?_
      refine az_iinc (w := 1) dX5_findParters_88 rfl (by decide) (by decide) ?_
      dsimp only [List.set]
      refine az_goto (t := 14) dX5_findParters_91 (by decide) ?_
      rw [nI_1]
      refine ih2 _ _ _ (fun k hk => by rw [az_w_ne _ hk]; exact hf k hk) (fun a b ha hb hb2 => ?_) (fun b hb1 hb2 => ?_)
      · rw [az_w_eq, if_neg (by omega)]; exact h1 a b ha hb hb2
      · rw [az_w_eq]
        by_cases hbj : b = j
        · rw [if_pos ⟨rfl, by omega⟩, hbj]
        · rw [if_neg (by omega)]; exact h3 b hb1 (by omega)
    · have hn' : m' 371 0 = nI N := by rw [hf 371 (by decide)]; exact hn
      refine az_iloadn dX5_findParters_14 rfl ?_
      refine az_aloadn dX5_findParters_15 rfl ?_
      refine az_geti dX5_findParters_16 flX5_9 sh_371 rfl ?_
      rw [hn']
      refine az_icmpge (t := 94) dX5_findParters_19 (by decide) (fun h19 => ?_) (fun h19 => ?_)
      rotate_left 1
      · exact absurd (Int32.le_refl _) h19
      refine az_iinc (w := 1) dX5_findParters_94 rfl (by decide) (by decide) ?_
      dsimp only [List.set]
      refine az_goto (t := 2) dX5_findParters_97 (by decide) ?_
      rw [nI_1]
      refine ih _ _ _ _ hf (fun a b ha hb hb2 => ?_)
      rcases Nat.lt_or_ge a i with q | q
      · exact h1 a b q hb hb2
      · have : a = i := by omega
        subst this; exact h3 b hb hb2
  · have hn' : m' 371 0 = nI N := by rw [hf 371 (by decide)]; exact hn
    refine az_iloadn dX5_findParters_2 rfl ?_
    refine az_aloadn dX5_findParters_3 rfl ?_
    refine az_geti dX5_findParters_4 flX5_9 sh_371 rfl ?_
    rw [hn']
    refine az_icmpge (t := 100) dX5_findParters_7 (by decide) (fun h7 => ?_) (fun h7 => ?_)
    rotate_left 1
    · exact absurd (Int32.le_refl _) h7
    refine az_vret dX5_findParters_100 rfl ?_
    exact hQ m' hf (fun a b h1' h2' => h1 a b (by omega) h1' h2')
def zx_no (k : Int32) : Int32 := if k = 0 then 1000000 else 0
theorem s_X5_findYes {no : Int32} (hn : mem 371 0 = nI N) (hN : N ≤ 16) (hQ : ∀ m', (∀ k, k ≠ 376 → m' k = mem k) → (∀ p, p < N → m' 376 p = zm_mask (fun m => !decide (mem 374 (16 * m + p) = no)) N) → Q none m') : az_Sp X d mX5_findYes [.inr 371, .inl no] mem Q := by
  refine az_body (by decide +kernel) (Nat.le_of_ble_eq_true rfl) ?_
  show az_Ev X _ mX5_findYes 0 [some (.inr 371), some (.inl no), none, none, none] [] mem Q
  refine az_iconst (v := 0) dX5_findYes_0 (by decide) ?_
  refine az_istoren dX5_findYes_1 (by decide) ?_
  dsimp only [List.set]
  skip
  refine az_up (fun i => ∀ m' L3 L4, (∀ k, k ≠ 376 → m' k = mem k) → (∀ p, p < i → m' 376 p = zm_mask (fun m => !decide (mem 374 (16 * m + p) = no)) N) → az_Ev X d mX5_findYes 2 [some (.inr 371), some (.inl no), some (.inl (nI i)), L3, L4] [] m' Q) N 0 (by omega) (fun i _ hi ih m' L3 L4 hf h1 => ?_) (fun m' L3 L4 hf h1 => ?_) mem none none (fun _ _ => rfl) (fun p h => absurd h (by omega))
  · have hn' : m' 371 0 = nI N := by rw [hf 371 (by decide)]; exact hn
    have e4 : m' 374 = mem 374 := hf 374 (by decide)
    refine az_iloadn dX5_findYes_2 rfl ?_
    refine az_aloadn dX5_findYes_3 rfl ?_
    refine az_geti dX5_findYes_4 flX5_9 sh_371 rfl ?_
    rw [hn']
    refine az_icmpge (t := 66) dX5_findYes_7 (by decide) (fun h7 => ?_) (fun h7 => ?_)
    · exact absurd h7 (nI_ge (by omega) (by omega))
    refine az_iconst (v := 0) dX5_findYes_10 (by decide) ?_
    refine az_istoren dX5_findYes_11 (by decide) ?_
    dsimp only [List.set]
    refine az_iconst (v := 0) dX5_findYes_12 (by decide) ?_
    refine az_istore dX5_findYes_13 (by decide) ?_
    dsimp only [List.set]
    skip
    refine az_up (fun q => az_Ev X d mX5_findYes 15 [some (.inr 371), some (.inl no), some (.inl (nI i)), some (.inl (zm_mask (fun m => !decide (mem 374 (16 * m + i) = no)) q)), some (.inl (nI q))] [] m' Q) N 0 (by omega) (fun q _ hq ih3 => ?_) ?_
    · refine az_iload dX5_findYes_15 rfl ?_
      refine az_aloadn dX5_findYes_17 rfl ?_
      refine az_geti dX5_findYes_18 flX5_9 sh_371 rfl ?_
      rw [hn']
      refine az_icmpge (t := 53) dX5_findYes_21 (by decide) (fun h21 => ?_) (fun h21 => ?_)
      · exact absurd h21 (nI_ge (by omega) (by omega))
      refine az_aloadn dX5_findYes_24 rfl ?_
      refine az_getr dX5_findYes_25 flX5_22 sh_371 rfl ?_
      refine az_bipush (v := 16) dX5_findYes_28 (by decide) ?_
      refine az_iload dX5_findYes_30 rfl ?_
      refine az_imul dX5_findYes_32 ?_
      refine az_iloadn dX5_findYes_33 rfl ?_
      refine az_iadd dX5_findYes_34 ?_
      refine az_iald (16 * q + i) dX5_findYes_35 sh_374 (by omega) (by decide) (by simp only [az_lit, nI_add, pk_mul, Nat.add_assoc]) ?_
      refine az_iloadn dX5_findYes_36 rfl ?_
      refine az_pc 37 (by decide) ?_
      refine az_icmpeq (t := 47) dX5_findYes_37 (by decide) (fun h37 => ?_) (fun h37 => ?_)
      · rw [e4] at h37; rw [zm_mask_f0 (by simp [h37])] at ih3
        refine az_iinc (w := 1) dX5_findYes_47 rfl (by decide) (by decide) ?_
        dsimp only [List.set]
        refine az_goto (t := 15) dX5_findYes_50 (by decide) ?_
        rw [nI_1]; exact ih3
      · rw [e4] at h37; rw [zm_mask_t (by simp [h37])] at ih3
        refine az_iloadn dX5_findYes_40 rfl ?_
        refine az_iconst (v := 1) dX5_findYes_41 (by decide) ?_
        refine az_iload dX5_findYes_42 rfl ?_
        refine az_ishl dX5_findYes_44 ?_
        refine az_ior dX5_findYes_45 ?_
        refine az_istoren dX5_findYes_46 (by decide) ?_
        dsimp only [List.set]
        refine az_iinc (w := 1) dX5_findYes_47 rfl (by decide) (by decide) ?_
        dsimp only [List.set]
        refine az_goto (t := 15) dX5_findYes_50 (by decide) ?_
        rw [nI_1]; exact ih3
    refine az_iload dX5_findYes_15 rfl ?_
    refine az_aloadn dX5_findYes_17 rfl ?_
    refine az_geti dX5_findYes_18 flX5_9 sh_371 rfl ?_
    rw [hn']
    refine az_icmpge (t := 53) dX5_findYes_21 (by decide) (fun h21 => ?_) (fun h21 => ?_)
    rotate_left 1
    · exact absurd (Int32.le_refl _) h21
    refine az_aloadn dX5_findYes_53 rfl ?_
    refine az_getr dX5_findYes_54 flX5_28 sh_371 rfl ?_
    refine az_iloadn dX5_findYes_57 rfl ?_
    refine az_iloadn dX5_findYes_58 rfl ?_
    refine az_iast (i) dX5_findYes_59 sh_376 (by omega) (by decide) (by simp only [az_lit, nI_add, pk_mul, Nat.add_assoc]) ?_
    refine az_iinc (w := 1) dX5_findYes_60 rfl (by decide) (by decide) ?_
    dsimp only [List.set]
    refine az_goto (t := 2) dX5_findYes_63 (by decide) ?_
    rw [nI_1]
    refine ih _ _ _ (fun k hk => by rw [az_w_ne _ hk]; exact hf k hk) (fun p hp => ?_)
    rw [az_w_eq]
    by_cases hpi : p = i
    · rw [if_pos ⟨rfl, hpi⟩, hpi]
    · rw [if_neg (by omega)]; exact h1 p (by omega)
  · have hn' : m' 371 0 = nI N := by rw [hf 371 (by decide)]; exact hn
    refine az_iloadn dX5_findYes_2 rfl ?_
    refine az_aloadn dX5_findYes_3 rfl ?_
    refine az_geti dX5_findYes_4 flX5_9 sh_371 rfl ?_
    rw [hn']
    refine az_icmpge (t := 66) dX5_findYes_7 (by decide) (fun h7 => ?_) (fun h7 => ?_)
    rotate_left 1
    · exact absurd (Int32.le_refl _) h7
    refine az_vret dX5_findYes_66 rfl ?_
    exact hQ m' hf h1
end CD

/-! the model's best sets, shown pairs, simple questions -/
def zm_P (an : Nat → Int32) (N i : Nat) : Int32 := zm_mask (zm_pf an (i / 16) (i % 16)) N
def zm_Y (kd : Int32) (an : Nat → Int32) (N p : Nat) : Int32 := zm_mask (zm_yf kd an p) N
theorem zm_P_at {an : Nat → Int32} {N a b : Nat} (hb : b < 16) : zm_P an N (16 * a + b) = zm_mask (zm_pf an a b) N := by
  unfold zm_P
  rw [show (16 * a + b) / 16 = a by omega, show (16 * a + b) % 16 = b by omega]
theorem zl_clash_congr {P P' Y Y' : Nat → Int32} {yw x nd : Int32} {N : Nat} (hP : ∀ a b, a < b → b < N → P (16 * a + b) = P' (16 * a + b)) (hY : ∀ p, p < N → Y p = Y' p) : zl_clash P Y yw N x nd = zl_clash P' Y' yw N x nd := by
  unfold zl_clash
  rw [zf_pr_congr (f := zl_lk P x nd) (g := zl_lk P' x nd) N 0 (by omega) (fun i j h1 h2 => by unfold zl_lk; rw [hP i j h1 h2]), zf_in_congr (f := zl_ly Y x nd) (g := zl_ly Y' x nd) N 0 (fun i h1 h2 => by unfold zl_ly; rw [hY i (by omega)])]
theorem zi_shl : ∀ n, n < 17 → (1 : Int32) <<< (nI n &&& 31) = nI (2 ^ n) := by decide +kernel
theorem zi_pow {N : Nat} (h : N ≤ 16) : 2 ^ N ≤ 65536 := Nat.pow_le_pow_right (by decide) h
def zm_price (S : Nat → Int32) (N : Nat) (x : Int32) : Int32 := zm_sum (fun p => if (x >>> (nI p &&& 31)) &&& 1 = 1 then S (279 + p) else 0) N
def zb_go (cl cost : Nat → Int32) : Nat → Nat → Int32 → Int32 → Int32
  | 0, _, b, _ => b
  | n + 1, s, b, l => if (0 ≤ b ∧ l ≤ cost s) ∨ 0 ≤ cl s then zb_go cl cost n (s + 1) b l else zb_go cl cost n (s + 1) (nI s) (cost s)
/-- the clash of set number s, out of answers and state -/
def zc_cl (S an : Nat → Int32) (N s : Nat) : Int32 := zl_clash (zm_P an N) (zm_Y (S 1) an N) (S 5) N (nI s) (zm_need (S 3) (S 4))
def zb_cost (S : Nat → Int32) (N : Nat) (pr : Int32) (s : Nat) : Int32 := if pr = 0 then zm_many (nI s) else zm_price S N (nI s)
def zb_best (S an : Nat → Int32) (N : Nat) (pr : Int32) : Int32 := zb_go (zc_cl S an N) (zb_cost S N pr) (2 ^ N) 0 (-1) 0
def zp_in (P : Nat → Int32) (a : Nat) : Nat → Nat → Int32 × List Nat → Int32 × List Nat
  | 0, _, s => s
  | n + 1, b, s => zp_in P a n (b + 1) (if P (16 * a + b) = 0 ∨ ¬ (P (16 * a + b) &&& s.1) = 0 then s else (s.1 ||| P (16 * a + b), s.2 ++ [16 * a + b]))
def zp_pr (P : Nat → Int32) (N : Nat) : Nat → Nat → Int32 × List Nat → Int32 × List Nat
  | 0, _, s => s
  | n + 1, a, s => zp_pr P N n (a + 1) (zp_in P a (N - (a + 1)) (a + 1) s)
def zp_tri : Nat → Nat
  | 0 => 0
  | n + 1 => zp_tri n + n
theorem zp_tri_le : ∀ n, n < 17 → zp_tri n ≤ 120 := by decide
def zp_list (an : Nat → Int32) (N : Nat) : List Nat := (zp_pr (zm_P an N) N N 0 (0, [])).2
section MD
variable {X : az_X} {d : Nat} {mem : az_M} {Q : Option az_V → az_M → Prop} {N : Nat}
theorem s_X8_price_ {x : Int32} (hn : mem 392 0 = nI N) (hN : N ≤ 16) (hQ : Q (some (.inl (zm_price (mem 392) N x))) mem) : az_Sp X (d + 1) mX8_price_ [.inr 391, .inl x] mem Q := by
  refine az_body (by decide +kernel) (Nat.le_of_ble_eq_true rfl) ?_
  show az_Ev X _ mX8_price_ 0 [some (.inr 391), some (.inl x), none, none] [] mem Q
  refine az_iconst (v := 0) dX8_price__0 (by decide) ?_
  refine az_istoren dX8_price__1 (by decide) ?_
  dsimp only [List.set]
  refine az_iconst (v := 0) dX8_price__2 (by decide) ?_
  refine az_istoren dX8_price__3 (by decide) ?_
  dsimp only [List.set]
  skip
  refine az_up (fun i => az_Ev X (d + 1) mX8_price_ 4 [some (.inr 391), some (.inl x), some (.inl (zm_price (mem 392) i x)), some (.inl (nI i))] [] mem Q) N 0 (by omega) (fun i _ hi ih => ?_) ?_
  · unfold zm_price at ih ⊢
    rw [zm_sum] at ih
    refine az_iloadn dX8_price__4 rfl ?_
    refine az_aloadn dX8_price__5 rfl ?_
    refine az_inv0 (N := mX8_n) dX8_price__6 lkX8_62 okX8_n sh_391 rfl (Nat.le_of_ble_eq_true rfl) ?_
    refine t_X8_n hn ?_
    try dsimp only [az_ps]
    refine az_icmpge (t := 44) dX8_price__9 (by decide) (fun h9 => ?_) (fun h9 => ?_)
    · exact absurd h9 (nI_ge (by omega) (by omega))
    refine az_iloadn dX8_price__12 rfl ?_
    refine az_iloadn dX8_price__13 rfl ?_
    refine az_iloadn dX8_price__14 rfl ?_
    refine az_ishr dX8_price__15 ?_
    refine az_iconst (v := 1) dX8_price__16 (by decide) ?_
    refine az_iand dX8_price__17 ?_
    refine az_iconst (v := 1) dX8_price__18 (by decide) ?_
    refine az_icmpne (t := 35) dX8_price__19 (by decide) (fun h19 => ?_) (fun h19 => ?_)
    · rw [if_neg h19] at ih
      refine az_iconst (v := 0) dX8_price__35 (by decide) ?_
      refine az_iadd dX8_price__36 ?_
      refine az_istoren dX8_price__37 (by decide) ?_
      dsimp only [List.set]
      refine az_iinc (w := 1) dX8_price__38 rfl (by decide) (by decide) ?_
      dsimp only [List.set]
      refine az_goto (t := 4) dX8_price__41 (by decide) ?_
      rw [nI_1]; exact ih
    · rw [if_pos h19] at ih
      refine az_aloadn dX8_price__22 rfl ?_
      refine az_getr dX8_price__23 flX8_7 sh_391 rfl ?_
      refine az_sipush (v := 279) dX8_price__26 (by decide) ?_
      refine az_iloadn dX8_price__29 rfl ?_
      refine az_iadd dX8_price__30 ?_
      refine az_iald (279 + i) dX8_price__31 sh_392 (by omega) (by decide) (by simp only [az_lit, nI_add, pk_mul, Nat.add_assoc]) ?_
      refine az_goto (t := 36) dX8_price__32 (by decide) ?_
      refine az_iadd dX8_price__36 ?_
      refine az_istoren dX8_price__37 (by decide) ?_
      dsimp only [List.set]
      refine az_iinc (w := 1) dX8_price__38 rfl (by decide) (by decide) ?_
      dsimp only [List.set]
      refine az_goto (t := 4) dX8_price__41 (by decide) ?_
      rw [nI_1]; exact ih
  · refine az_iloadn dX8_price__4 rfl ?_
    refine az_aloadn dX8_price__5 rfl ?_
    refine az_inv0 (N := mX8_n) dX8_price__6 lkX8_62 okX8_n sh_391 rfl (Nat.le_of_ble_eq_true rfl) ?_
    refine t_X8_n hn ?_
    try dsimp only [az_ps]
    refine az_icmpge (t := 44) dX8_price__9 (by decide) (fun h9 => ?_) (fun h9 => ?_)
    rotate_left 1
    · exact absurd (Int32.le_refl _) h9
    refine az_iloadn dX8_price__44 rfl ?_
    refine az_iret dX8_price__45 rfl ?_
    exact hQ
theorem t_X8_clashOf {mem0 : az_M} {s : Nat} (hN : N ≤ 16) (hn : mem0 392 0 = nI N) (hf : ∀ k, k ≠ 397 → k ≠ 398 → mem k = mem0 k) (h1 : ∀ a b, a < b → b < N → mem 397 (16 * a + b) = zm_mask (zm_pf (mem0 396) a b) N) (h2 : ∀ p, p < N → mem 398 p = zm_mask (zm_yf (mem0 392 1) (mem0 396) p) N) (hQ : Q (some (.inl (zc_cl (mem0 392) (mem0 396) N s))) mem) : az_Sp X (d + 1) mX8_clashOf [.inr 391, .inl (nI s)] mem Q := by
  have e : mem 392 = mem0 392 := hf 392 (by decide) (by decide)
  refine s_X8_clashOf (N := N) (by rw [e]; exact hn) hN ?_
  rw [e, zl_clash_congr (P' := zm_P (mem0 396) N) (Y' := zm_Y (mem0 392 1) (mem0 396) N) (fun a b ha hb => by rw [h1 a b ha hb, zm_P_at (by omega)]) (fun p hp => by rw [h2 p hp]; rfl)]
  exact hQ
theorem s_X8_best {pr : Int32} (hn : mem 392 0 = nI N) (hN : N ≤ 16) (hQ : ∀ m', (∀ k, k ≠ 397 → k ≠ 398 → m' k = mem k) → (∀ a b, a < b → b < N → m' 397 (16 * a + b) = zm_mask (zm_pf (mem 396) a b) N) → (∀ p, p < N → m' 398 p = zm_mask (zm_yf (mem 392 1) (mem 396) p) N) → Q (some (.inl (zb_best (mem 392) (mem 396) N pr))) m') : az_Sp X (d + 4) mX8_best [.inr 391, .inl pr] mem Q := by
  have hp := zi_pow hN
  refine az_body (by decide +kernel) (Nat.le_of_ble_eq_true rfl) ?_
  show az_Ev X _ mX8_best 0 [some (.inr 391), some (.inl pr), none, none, none, none] [] mem Q
  refine az_aloadn dX8_best_0 rfl ?_
  refine az_inv0 (N := mX8_gather) dX8_best_1 lkX8_124 okX8_gather sh_391 rfl (Nat.le_of_ble_eq_true rfl) ?_
  refine s_X8_gather hn hN (fun m' hf h1 h2 => ?_)
  try dsimp only [az_ps]
  refine az_iconst (v := -1) dX8_best_4 (by decide) ?_
  refine az_istoren dX8_best_5 (by decide) ?_
  dsimp only [List.set]
  refine az_iconst (v := 0) dX8_best_6 (by decide) ?_
  refine az_istoren dX8_best_7 (by decide) ?_
  dsimp only [List.set]
  refine az_iconst (v := 0) dX8_best_8 (by decide) ?_
  refine az_istore dX8_best_9 (by decide) ?_
  dsimp only [List.set]
  skip
  have hQ := hQ m' hf h1 h2
  have e2 : m' 392 = mem 392 := hf 392 (by decide) (by decide)
  have hn' : m' 392 0 = nI N := by rw [e2]; exact hn
  unfold zb_best at hQ
  generalize hR : zb_go (zc_cl (mem 392) (mem 396) N) (zb_cost (mem 392) N pr) (2 ^ N) 0 (-1) 0 = R at hQ
  refine az_up (fun s => ∀ b l L5, zb_go (zc_cl (mem 392) (mem 396) N) (zb_cost (mem 392) N pr) (2 ^ N - s) s b l = R → az_Ev X (d + 4) mX8_best 11 [some (.inr 391), some (.inl pr), some (.inl b), some (.inl l), some (.inl (nI s)), L5] [] m' Q) (2 ^ N) 0 (Nat.zero_le _) (fun s _ hs ih b l L5 he => ?_) (fun b l L5 he => ?_) (-1) 0 none hR
  · rw [zs_sub hs, zb_go] at he
    have hc : ∀ v, v = zb_cost (mem 392) N pr s → az_Ev X (d + 4) mX8_best 40 [some (.inr 391), some (.inl pr), some (.inl b), some (.inl l), some (.inl (nI s)), L5] [.inl v] m' Q := by
      intro v hv
      rw [← hv] at he
      refine az_istore dX8_best_40 (by decide) ?_
      dsimp only [List.set]
      refine az_iloadn dX8_best_42 rfl ?_
      refine az_iflt (t := 52) dX8_best_43 (by decide) (fun h43 => ?_) (fun h43 => ?_)
      · refine az_aloadn dX8_best_52 rfl ?_
        refine az_iload dX8_best_53 rfl ?_
        refine az_inv1 (N := mX8_clashOf) dX8_best_55 lkX8_127 okX8_clashOf sh_391 rfl (Nat.le_of_ble_eq_true rfl) ?_
        refine t_X8_clashOf hN hn hf h1 h2 ?_
        try dsimp only [az_ps]
        refine az_iflt (t := 64) dX8_best_58 (by decide) (fun h58 => ?_) (fun h58 => ?_)
        · rw [if_neg (by first | exact (fun h => h.elim (fun q => absurd q.1 (Int32.not_le.mpr h43)) (fun q => absurd h58 (Int32.not_lt.mpr q))) | exact (fun h => h.elim (fun q => h49 q.2) (fun q => absurd h58 (Int32.not_lt.mpr q))))] at he
          refine az_iload dX8_best_64 rfl ?_
          refine az_istoren dX8_best_66 (by decide) ?_
          dsimp only [List.set]
          refine az_iload dX8_best_67 rfl ?_
          refine az_istoren dX8_best_69 (by decide) ?_
          dsimp only [List.set]
          refine az_iinc (w := 1) dX8_best_70 rfl (by decide) (by decide) ?_
          dsimp only [List.set]
          refine az_goto (t := 11) dX8_best_73 (by decide) ?_
          rw [nI_1]; exact ih _ _ _ (by first | exact he | (rw [hv] at he; exact he))
        · rw [if_pos (Or.inr (Int32.not_lt.mp h58))] at he
          refine az_goto (t := 70) dX8_best_61 (by decide) ?_
          refine az_iinc (w := 1) dX8_best_70 rfl (by decide) (by decide) ?_
          dsimp only [List.set]
          refine az_goto (t := 11) dX8_best_73 (by decide) ?_
          rw [nI_1]; exact ih _ _ _ (by first | exact he | (rw [hv] at he; exact he))
      · refine az_iload dX8_best_46 rfl ?_
        refine az_iloadn dX8_best_48 rfl ?_
        refine az_icmpge (t := 70) dX8_best_49 (by decide) (fun h49 => ?_) (fun h49 => ?_)
        · rw [if_pos (Or.inl ⟨Int32.not_lt.mp h43, h49⟩)] at he
          refine az_iinc (w := 1) dX8_best_70 rfl (by decide) (by decide) ?_
          dsimp only [List.set]
          refine az_goto (t := 11) dX8_best_73 (by decide) ?_
          rw [nI_1]; exact ih _ _ _ (by first | exact he | (rw [hv] at he; exact he))
        · refine az_aloadn dX8_best_52 rfl ?_
          refine az_iload dX8_best_53 rfl ?_
          refine az_inv1 (N := mX8_clashOf) dX8_best_55 lkX8_127 okX8_clashOf sh_391 rfl (Nat.le_of_ble_eq_true rfl) ?_
          refine t_X8_clashOf hN hn hf h1 h2 ?_
          try dsimp only [az_ps]
          refine az_iflt (t := 64) dX8_best_58 (by decide) (fun h58 => ?_) (fun h58 => ?_)
          · rw [if_neg (by first | exact (fun h => h.elim (fun q => absurd q.1 (Int32.not_le.mpr h43)) (fun q => absurd h58 (Int32.not_lt.mpr q))) | exact (fun h => h.elim (fun q => h49 q.2) (fun q => absurd h58 (Int32.not_lt.mpr q))))] at he
            refine az_iload dX8_best_64 rfl ?_
            refine az_istoren dX8_best_66 (by decide) ?_
            dsimp only [List.set]
            refine az_iload dX8_best_67 rfl ?_
            refine az_istoren dX8_best_69 (by decide) ?_
            dsimp only [List.set]
            refine az_iinc (w := 1) dX8_best_70 rfl (by decide) (by decide) ?_
            dsimp only [List.set]
            refine az_goto (t := 11) dX8_best_73 (by decide) ?_
            rw [nI_1]; exact ih _ _ _ (by first | exact he | (rw [hv] at he; exact he))
          · rw [if_pos (Or.inr (Int32.not_lt.mp h58))] at he
            refine az_goto (t := 70) dX8_best_61 (by decide) ?_
            refine az_iinc (w := 1) dX8_best_70 rfl (by decide) (by decide) ?_
            dsimp only [List.set]
            refine az_goto (t := 11) dX8_best_73 (by decide) ?_
            rw [nI_1]; exact ih _ _ _ (by first | exact he | (rw [hv] at he; exact he))
    unfold zb_cost at hc
    refine az_iload dX8_best_11 rfl ?_
    refine az_iconst (v := 1) dX8_best_13 (by decide) ?_
    refine az_aloadn dX8_best_14 rfl ?_
    refine az_inv0 (N := mX8_n) dX8_best_15 lkX8_62 okX8_n sh_391 rfl (Nat.le_of_ble_eq_true rfl) ?_
    refine t_X8_n hn' ?_
    try dsimp only [az_ps]
    refine az_ishl dX8_best_18 ?_
    rw [zi_shl N (by omega)]
    refine az_icmpge (t := 76) dX8_best_19 (by decide) (fun h19 => ?_) (fun h19 => ?_)
    · exact absurd h19 (nI_ge hs (by omega))
    refine az_iloadn dX8_best_22 rfl ?_
    refine az_ifeq (t := 35) dX8_best_23 (by decide) (fun h23 => ?_) (fun h23 => ?_)
    · rw [if_pos h23] at hc
      refine az_iload dX8_best_35 rfl ?_
      refine az_ins1 (N := mX8_many) dX8_best_37 lsX8_102 okX8_many (Nat.le_of_ble_eq_true rfl) ?_
      refine s_X8_many ?_
      try dsimp only [az_ps]
      exact hc _ rfl
    · rw [if_neg h23] at hc
      refine az_aloadn dX8_best_26 rfl ?_
      refine az_iload dX8_best_27 rfl ?_
      refine az_inv1 (N := mX8_price_) dX8_best_29 lkX8_133 okX8_price_ sh_391 rfl (Nat.le_of_ble_eq_true rfl) ?_
      refine s_X8_price_ hn' hN ?_
      rw [e2]
      try dsimp only [az_ps]
      refine az_goto (t := 40) dX8_best_32 (by decide) ?_
      exact hc _ rfl
  · rw [Nat.sub_self, zb_go] at he
    refine az_iload dX8_best_11 rfl ?_
    refine az_iconst (v := 1) dX8_best_13 (by decide) ?_
    refine az_aloadn dX8_best_14 rfl ?_
    refine az_inv0 (N := mX8_n) dX8_best_15 lkX8_62 okX8_n sh_391 rfl (Nat.le_of_ble_eq_true rfl) ?_
    refine t_X8_n hn' ?_
    try dsimp only [az_ps]
    refine az_ishl dX8_best_18 ?_
    rw [zi_shl N (by omega)]
    refine az_icmpge (t := 76) dX8_best_19 (by decide) (fun h19 => ?_) (fun h19 => ?_)
    rotate_left 1
    · exact absurd (Int32.le_refl _) h19
    refine az_iloadn dX8_best_76 rfl ?_
    refine az_iret dX8_best_77 rfl ?_
    rw [he]; exact hQ
theorem s_X8_least (hn : mem 392 0 = nI N) (hN : N ≤ 16) (hQ : ∀ m', (∀ k, k ≠ 391 → k ≠ 397 → k ≠ 398 → m' k = mem k) → (∀ j, m' 391 j = if j = 6 ∧ 0 ≤ zb_best (mem 392) (mem 396) N 0 then zb_best (mem 392) (mem 396) N 0 else mem 391 j) → Q (some (.inl (if 0 ≤ zb_best (mem 392) (mem 396) N 0 then zm_many (zb_best (mem 392) (mem 396) N 0) else -2))) m') : az_Sp X (d + 5) mX8_least [.inr 391] mem Q := by
  refine az_body (by decide +kernel) (Nat.le_of_ble_eq_true rfl) ?_
  show az_Ev X _ mX8_least 0 [some (.inr 391), none] [] mem Q
  refine az_aloadn dX8_least_0 rfl ?_
  refine az_iconst (v := 0) dX8_least_1 (by decide) ?_
  refine az_inv1 (N := mX8_best) dX8_least_2 lkX8_136 okX8_best sh_391 rfl (Nat.le_of_ble_eq_true rfl) ?_
  refine s_X8_best hn hN (fun m' hf h1 h2 => ?_)
  try dsimp only [az_ps]
  refine az_istoren dX8_least_5 (by decide) ?_
  dsimp only [List.set]
  refine az_iloadn dX8_least_6 rfl ?_
  refine az_ifge (t := 13) dX8_least_7 (by decide) (fun h7 => ?_) (fun h7 => ?_)
  · have hq := hQ (az_w m' 391 6 (zb_best (mem 392) (mem 396) N 0)) (fun k k1 k2 k3 => by rw [az_w_ne _ k1]; exact hf k k2 k3) (fun j => by rw [az_w_eq, hf 391 (by decide) (by decide)]; simp [h7])
    rw [if_pos h7] at hq
    refine az_aloadn dX8_least_13 rfl ?_
    refine az_iloadn dX8_least_14 rfl ?_
    refine az_puti dX8_least_15 plX8_140 sh_391 rfl ?_
    refine az_iloadn dX8_least_18 rfl ?_
    refine az_ins1 (N := mX8_many) dX8_least_19 lsX8_102 okX8_many (Nat.le_of_ble_eq_true rfl) ?_
    refine s_X8_many ?_
    try dsimp only [az_ps]
    refine az_iret dX8_least_22 rfl ?_
    exact hq
  · have hq := hQ m' (fun k k1 k2 k3 => hf k k2 k3) (fun j => by rw [hf 391 (by decide) (by decide), if_neg (fun h => h7 h.2)])
    rw [if_neg h7] at hq
    refine az_bipush (v := -2) dX8_least_10 (by decide) ?_
    refine az_iret dX8_least_12 rfl ?_
    exact hq
theorem s_X8_cheapest (hn : mem 392 0 = nI N) (hN : N ≤ 16) (hQ : ∀ m', (∀ k, k ≠ 391 → k ≠ 397 → k ≠ 398 → m' k = mem k) → (∀ j, m' 391 j = if j = 6 ∧ 0 ≤ zb_best (mem 392) (mem 396) N 1 then zb_best (mem 392) (mem 396) N 1 else mem 391 j) → Q (some (.inl (if 0 ≤ zb_best (mem 392) (mem 396) N 1 then zm_price (mem 392) N (zb_best (mem 392) (mem 396) N 1) else -2))) m') : az_Sp X (d + 5) mX8_cheapest [.inr 391] mem Q := by
  refine az_body (by decide +kernel) (Nat.le_of_ble_eq_true rfl) ?_
  show az_Ev X _ mX8_cheapest 0 [some (.inr 391), none] [] mem Q
  refine az_aloadn dX8_cheapest_0 rfl ?_
  refine az_iconst (v := 1) dX8_cheapest_1 (by decide) ?_
  refine az_inv1 (N := mX8_best) dX8_cheapest_2 lkX8_136 okX8_best sh_391 rfl (Nat.le_of_ble_eq_true rfl) ?_
  refine s_X8_best hn hN (fun m' hf h1 h2 => ?_)
  try dsimp only [az_ps]
  refine az_istoren dX8_cheapest_5 (by decide) ?_
  dsimp only [List.set]
  refine az_iloadn dX8_cheapest_6 rfl ?_
  refine az_ifge (t := 13) dX8_cheapest_7 (by decide) (fun h7 => ?_) (fun h7 => ?_)
  · have hq := hQ (az_w m' 391 6 (zb_best (mem 392) (mem 396) N 1)) (fun k k1 k2 k3 => by rw [az_w_ne _ k1]; exact hf k k2 k3) (fun j => by rw [az_w_eq, hf 391 (by decide) (by decide)]; simp [h7])
    rw [if_pos h7] at hq
    refine az_aloadn dX8_cheapest_13 rfl ?_
    refine az_iloadn dX8_cheapest_14 rfl ?_
    refine az_puti dX8_cheapest_15 plX8_140 sh_391 rfl ?_
    refine az_aloadn dX8_cheapest_18 rfl ?_
    refine az_iloadn dX8_cheapest_19 rfl ?_
    refine az_inv1 (N := mX8_price_) dX8_cheapest_20 lkX8_133 okX8_price_ sh_391 rfl (Nat.le_of_ble_eq_true rfl) ?_
    refine s_X8_price_ (N := N) (by rw [az_w_ne _ (by decide), hf 392 (by decide) (by decide)]; exact hn) hN ?_
    rw [az_w_ne _ (by decide), hf 392 (by decide) (by decide)]
    try dsimp only [az_ps]
    refine az_iret dX8_cheapest_23 rfl ?_
    exact hq
  · have hq := hQ m' (fun k k1 k2 k3 => hf k k2 k3) (fun j => by rw [hf 391 (by decide) (by decide), if_neg (fun h => h7 h.2)])
    rw [if_neg h7] at hq
    refine az_bipush (v := -2) dX8_cheapest_10 (by decide) ?_
    refine az_iret dX8_cheapest_12 rfl ?_
    exact hq
theorem s_X8_every (hn : mem 392 0 = nI N) (hN : N ≤ 16) (hQ : ∀ m', (∀ k, k ≠ 397 → k ≠ 398 → m' k = mem k) → Q (some (.inl (if 0 ≤ zb_best (mem 392) (mem 396) N 0 then zc_in (fun k => if zm_many (nI k) = zm_many (zb_best (mem 392) (mem 396) N 0) ∧ zc_cl (mem 392) (mem 396) N k < 0 then 1 else 0) (2 ^ N) 0 0 else 0))) m') : az_Sp X (d + 5) mX8_every [.inr 391] mem Q := by
  have hp := zi_pow hN
  refine az_body (by decide +kernel) (Nat.le_of_ble_eq_true rfl) ?_
  show az_Ev X _ mX8_every 0 [some (.inr 391), none, none, none] [] mem Q
  refine az_aloadn dX8_every_0 rfl ?_
  refine az_iconst (v := 0) dX8_every_1 (by decide) ?_
  refine az_inv1 (N := mX8_best) dX8_every_2 lkX8_136 okX8_best sh_391 rfl (Nat.le_of_ble_eq_true rfl) ?_
  refine s_X8_best hn hN (fun m' hf h1 h2 => ?_)
  try dsimp only [az_ps]
  refine az_istoren dX8_every_5 (by decide) ?_
  dsimp only [List.set]
  refine az_iconst (v := 0) dX8_every_6 (by decide) ?_
  refine az_istoren dX8_every_7 (by decide) ?_
  dsimp only [List.set]
  refine az_iconst (v := 0) dX8_every_8 (by decide) ?_
  refine az_istoren dX8_every_9 (by decide) ?_
  dsimp only [List.set]
  skip
  have hQ := hQ m' hf
  have e2 : m' 392 = mem 392 := hf 392 (by decide) (by decide)
  have hn' : m' 392 0 = nI N := by rw [e2]; exact hn
  generalize zb_best (mem 392) (mem 396) N 0 = bs at hQ ⊢
  by_cases hb : 0 ≤ bs
  · rw [if_pos hb] at hQ
    generalize hR : zc_in (fun k => if zm_many (nI k) = zm_many bs ∧ zc_cl (mem 392) (mem 396) N k < 0 then 1 else 0) (2 ^ N) 0 0 = R at hQ
    refine az_up (fun s => ∀ c, zc_in (fun k => if zm_many (nI k) = zm_many bs ∧ zc_cl (mem 392) (mem 396) N k < 0 then 1 else 0) (2 ^ N - s) s c = R → az_Ev X (d + 5) mX8_every 10 [some (.inr 391), some (.inl bs), some (.inl c), some (.inl (nI s))] [] m' Q) (2 ^ N) 0 (Nat.zero_le _) (fun s _ hs ih c he => ?_) (fun c he => ?_) 0 hR
    · rw [zs_sub hs, zc_in] at he
      refine az_iloadn dX8_every_10 rfl ?_
      refine az_iconst (v := 1) dX8_every_11 (by decide) ?_
      refine az_aloadn dX8_every_12 rfl ?_
      refine az_inv0 (N := mX8_n) dX8_every_13 lkX8_62 okX8_n sh_391 rfl (Nat.le_of_ble_eq_true rfl) ?_
      refine t_X8_n hn' ?_
      try dsimp only [az_ps]
      refine az_ishl dX8_every_16 ?_
      rw [zi_shl N (by omega)]
      refine az_icmpge (t := 57) dX8_every_17 (by decide) (fun h17 => ?_) (fun h17 => ?_)
      · exact absurd h17 (nI_ge hs (by omega))
      refine az_iloadn dX8_every_20 rfl ?_
      refine az_iflt (t := 57) dX8_every_21 (by decide) (fun h21 => ?_) (fun h21 => ?_)
      · exact absurd h21 (Int32.not_lt.mpr hb)
      refine az_iloadn dX8_every_24 rfl ?_
      refine az_iloadn dX8_every_25 rfl ?_
      refine az_ins1 (N := mX8_many) dX8_every_26 lsX8_102 okX8_many (Nat.le_of_ble_eq_true rfl) ?_
      refine s_X8_many ?_
      try dsimp only [az_ps]
      refine az_iloadn dX8_every_29 rfl ?_
      refine az_ins1 (N := mX8_many) dX8_every_30 lsX8_102 okX8_many (Nat.le_of_ble_eq_true rfl) ?_
      refine s_X8_many ?_
      try dsimp only [az_ps]
      refine az_icmpne (t := 48) dX8_every_33 (by decide) (fun h33 => ?_) (fun h33 => ?_)
      · rw [if_neg (fun h => h33 h.1)] at he
        refine az_iconst (v := 0) dX8_every_48 (by decide) ?_
        refine az_iadd dX8_every_49 ?_
        refine az_istoren dX8_every_50 (by decide) ?_
        dsimp only [List.set]
        refine az_iinc (w := 1) dX8_every_51 rfl (by decide) (by decide) ?_
        dsimp only [List.set]
        refine az_goto (t := 10) dX8_every_54 (by decide) ?_
        rw [nI_1]; exact ih _ he
      · refine az_aloadn dX8_every_36 rfl ?_
        refine az_iloadn dX8_every_37 rfl ?_
        refine az_inv1 (N := mX8_clashOf) dX8_every_38 lkX8_127 okX8_clashOf sh_391 rfl (Nat.le_of_ble_eq_true rfl) ?_
        refine t_X8_clashOf hN hn hf h1 h2 ?_
        try dsimp only [az_ps]
        refine az_ifge (t := 48) dX8_every_41 (by decide) (fun h41 => ?_) (fun h41 => ?_)
        · rw [if_neg (fun h => absurd h.2 (Int32.not_lt.mpr h41))] at he
          refine az_iconst (v := 0) dX8_every_48 (by decide) ?_
          refine az_iadd dX8_every_49 ?_
          refine az_istoren dX8_every_50 (by decide) ?_
          dsimp only [List.set]
          refine az_iinc (w := 1) dX8_every_51 rfl (by decide) (by decide) ?_
          dsimp only [List.set]
          refine az_goto (t := 10) dX8_every_54 (by decide) ?_
          rw [nI_1]; exact ih _ he
        · rw [if_pos ⟨h33, Int32.not_le.mp h41⟩] at he
          refine az_iconst (v := 1) dX8_every_44 (by decide) ?_
          refine az_goto (t := 49) dX8_every_45 (by decide) ?_
          refine az_iadd dX8_every_49 ?_
          refine az_istoren dX8_every_50 (by decide) ?_
          dsimp only [List.set]
          refine az_iinc (w := 1) dX8_every_51 rfl (by decide) (by decide) ?_
          dsimp only [List.set]
          refine az_goto (t := 10) dX8_every_54 (by decide) ?_
          rw [nI_1]; exact ih _ he
    · rw [Nat.sub_self, zc_in] at he
      refine az_iloadn dX8_every_10 rfl ?_
      refine az_iconst (v := 1) dX8_every_11 (by decide) ?_
      refine az_aloadn dX8_every_12 rfl ?_
      refine az_inv0 (N := mX8_n) dX8_every_13 lkX8_62 okX8_n sh_391 rfl (Nat.le_of_ble_eq_true rfl) ?_
      refine t_X8_n hn' ?_
      try dsimp only [az_ps]
      refine az_ishl dX8_every_16 ?_
      rw [zi_shl N (by omega)]
      refine az_icmpge (t := 57) dX8_every_17 (by decide) (fun h17 => ?_) (fun h17 => ?_)
      rotate_left 1
      · exact absurd (Int32.le_refl _) h17
      refine az_iloadn dX8_every_57 rfl ?_
      refine az_iret dX8_every_58 rfl ?_
      rw [he]; exact hQ
  · rw [if_neg hb] at hQ
    refine az_iloadn dX8_every_10 rfl ?_
    refine az_iconst (v := 1) dX8_every_11 (by decide) ?_
    refine az_aloadn dX8_every_12 rfl ?_
    refine az_inv0 (N := mX8_n) dX8_every_13 lkX8_62 okX8_n sh_391 rfl (Nat.le_of_ble_eq_true rfl) ?_
    refine t_X8_n hn' ?_
    try dsimp only [az_ps]
    refine az_ishl dX8_every_16 ?_
    rw [zi_shl N (by omega)]
    refine az_icmpge (t := 57) dX8_every_17 (by decide) (fun h17 => ?_) (fun h17 => ?_)
    · refine az_iloadn dX8_every_57 rfl ?_
      refine az_iret dX8_every_58 rfl ?_
      exact hQ
    · refine az_iloadn dX8_every_20 rfl ?_
      refine az_iflt (t := 57) dX8_every_21 (by decide) (fun h21 => ?_) (fun h21 => ?_)
      rotate_left 1
      · exact absurd (Int32.not_lt.mp h21) hb
      refine az_iloadn dX8_every_57 rfl ?_
      refine az_iret dX8_every_58 rfl ?_
      exact hQ
theorem s_X8_clash {x : Int32} (hn : mem 392 0 = nI N) (hN : N ≤ 16) (hQ : ∀ m', (∀ k, k ≠ 397 → k ≠ 398 → m' k = mem k) → Q (some (.inl (if 0 ≤ x ∧ x < nI (2 ^ N) then zl_clash (zm_P (mem 396) N) (zm_Y (mem 392 1) (mem 396) N) (mem 392 5) N x (zm_need (mem 392 3) (mem 392 4)) else -2))) m') : az_Sp X (d + 4) mX8_clash [.inr 391, .inl x] mem Q := by
  refine az_body (by decide +kernel) (Nat.le_of_ble_eq_true rfl) ?_
  show az_Ev X _ mX8_clash 0 [some (.inr 391), some (.inl x)] [] mem Q
  refine az_aloadn dX8_clash_0 rfl ?_
  refine az_iloadn dX8_clash_1 rfl ?_
  refine az_inv1 (N := mX8_isSet) dX8_clash_2 lkX8_118 okX8_isSet sh_391 rfl (Nat.le_of_ble_eq_true rfl) ?_
  refine s_X8_isSet ?_
  rw [hn, zi_shl N (by omega)]
  try dsimp only [az_ps]
  refine az_ifne (t := 11) dX8_clash_5 (by decide) (fun h5 => ?_) (fun h5 => ?_)
  · replace h5 := zb_n h5
    rw [if_pos h5] at hQ
    refine az_aloadn dX8_clash_11 rfl ?_
    refine az_inv0 (N := mX8_gather) dX8_clash_12 lkX8_124 okX8_gather sh_391 rfl (Nat.le_of_ble_eq_true rfl) ?_
    refine s_X8_gather hn hN (fun m' hf h1 h2 => ?_)
    try dsimp only [az_ps]
    refine az_aloadn dX8_clash_15 rfl ?_
    refine az_iloadn dX8_clash_16 rfl ?_
    refine az_inv1 (N := mX8_clashOf) dX8_clash_17 lkX8_127 okX8_clashOf sh_391 rfl (Nat.le_of_ble_eq_true rfl) ?_
    refine s_X8_clashOf (N := N) (by rw [hf 392 (by decide) (by decide)]; exact hn) hN ?_
    rw [hf 392 (by decide) (by decide), zl_clash_congr (P' := zm_P (mem 396) N) (Y' := zm_Y (mem 392 1) (mem 396) N) (fun a b ha hb => by rw [h1 a b ha hb, zm_P_at (by omega)]) (fun p hp => by rw [h2 p hp]; rfl)]
    try dsimp only [az_ps]
    refine az_iret dX8_clash_20 rfl ?_
    exact hQ m' hf
  · replace h5 := zb_z h5
    rw [if_neg h5] at hQ
    refine az_bipush (v := -2) dX8_clash_8 (by decide) ?_
    refine az_iret dX8_clash_10 rfl ?_
    exact hQ mem (fun _ _ _ => rfl)
end MD

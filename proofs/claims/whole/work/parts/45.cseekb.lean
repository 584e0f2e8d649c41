/-! the class's seeking, second half -/
def zq_badc (gl : List Nat) (R : Nat → Int32) (nx : Nat → Nat) (r : Int32) (s g : Nat) : Bool := !decide (zn_pc (s &&& gl.getD g 0) < 2) && (decide (R (nx (s &&& gl.getD g 0)) = -2) || !decide (R (nx (s &&& gl.getD g 0)) < r))
def zq_gdc (gl : Nat → List Nat) (nx : Nat → Nat) (r : Int32) (R : Nat → Int32) (s m : Nat) : Bool := (zf_in (zq_badc (gl m) R nx r s) (gl m).length 0).isNone
def zq_fdc (gl : Nat → List Nat) (nx : Nat → Nat) (N : Nat) (r : Int32) (R : Nat → Int32) (s : Nat) : Bool := (zf_in (zq_gdc gl nx r R s) N 0).isSome
def zq_rdc (fd : (Nat → Int32) → Nat → Bool) (r : Int32) : Nat → Nat → (Nat → Int32) × Bool → (Nat → Int32) × Bool
  | 0, _, c => c
  | n + 1, s, c => zq_rdc fd r n (s + 1) (if c.1 s = -2 ∧ fd c.1 s = true then (upd c.1 s r, true) else c)
def zq_goc (gl : Nat → List Nat) (nx : Nat → Nat) (N x : Nat) : Nat → Nat → (Nat → Int32) → Int32
  | 0, _, R => R x
  | f + 1, r, R => if R x = -2 then (if (zq_rdc (zq_fdc gl nx N (nI r)) (nI r) (2 ^ N) 0 (R, false)).2 = true then zq_goc gl nx N x f (r + 1) (zq_rdc (zq_fdc gl nx N (nI r)) (nI r) (2 ^ N) 0 (R, false)).1 else -2) else R x
/-- sight's groups, as lists -/
def zG (mem : az_M) (N : Nat) (gl : Nat → List Nat) : Prop := ∀ m, m < N → mem 378 m = nI (gl m).length ∧ (gl m).length ≤ 16 ∧ ∀ i, i < (gl m).length → mem 377 (16 * m + i) = nI ((gl m).getD i 0) ∧ (gl m).getD i 0 < 65536
section CM
variable {X : az_X} {d : Nat} {mem : az_M} {Q : Option az_V → az_M → Prop} {N : Nat}
theorem s_X4_markFinds {gl : Nat → List Nat} {nx : Nat → Nat} {m s : Nat} {r : Int32} (hN : N ≤ 10) (hG : zG mem N gl) (hx : ∀ t, t < 2 ^ N → mem 390 t = nI (nx t) ∧ nx t < 2 ^ N) (hm : m < N) (hs : s < 2 ^ N) (hQ : Q (some (.inl (if zq_gdc gl nx r (mem 389) s m = true then 1 else 0))) mem) : az_Sp X d mX4_markFinds [.inr 388, .inl (nI m), .inl (nI s), .inl r, .inr 371] mem Q := by
  have hp : 2 ^ N ≤ 1024 := Nat.pow_le_pow_right (by decide) hN
  obtain ⟨g1, g2, g3⟩ := hG m hm
  refine az_body (by decide +kernel) (Nat.le_of_ble_eq_true rfl) ?_
  show az_Ev X _ mX4_markFinds 0 [some (.inr 388), some (.inl (nI m)), some (.inl (nI s)), some (.inl r), some (.inr 371), none, none, none] [] mem Q
  refine az_iconst (v := 0) dX4_markFinds_0 (by decide) ?_
  refine az_istore dX4_markFinds_1 (by decide) ?_
  dsimp only [List.set]
  skip
  unfold zq_gdc at hQ
  refine az_up (fun g => zf_in (zq_badc (gl m) (mem 389) nx r s) ((gl m).length - g) g = zf_in (zq_badc (gl m) (mem 389) nx r s) (gl m).length 0 → ∀ L6 L7, az_Ev X d mX4_markFinds 3 [some (.inr 388), some (.inl (nI m)), some (.inl (nI s)), some (.inl r), some (.inr 371), some (.inl (nI g)), L6, L7] [] mem Q) (gl m).length 0 (by omega) (fun g _ hg ih he L6 L7 => ?_) (fun he L6 L7 => ?_) rfl none none
  · rw [zs_sub hg] at he
    obtain ⟨k1, k2⟩ := g3 g hg
    have hst : s &&& (gl m).getD g 0 < 2 ^ N := Nat.lt_of_le_of_lt Nat.and_le_left hs
    obtain ⟨x1, x2⟩ := hx _ hst
    have htz := zn_tl_z (k := s &&& (gl m).getD g 0) (by omega)
    refine az_iload dX4_markFinds_3 rfl ?_
    refine az_aload dX4_markFinds_5 rfl ?_
    refine az_getr dX4_markFinds_7 flX4_54 sh_371 rfl ?_
    refine az_iloadn dX4_markFinds_10 rfl ?_
    refine az_iald (m) dX4_markFinds_11 sh_378 (by omega) (by decide) (by simp only [az_lit, nI_add, pk_mul, Nat.add_assoc]) ?_
    rw [g1]
    refine az_icmpge (t := 77) dX4_markFinds_12 (by decide) (fun h12 => ?_) (fun h12 => ?_)
    · exact absurd h12 (nI_ge (by omega) (by omega))
    refine az_iloadn dX4_markFinds_15 rfl ?_
    refine az_aload dX4_markFinds_16 rfl ?_
    refine az_getr dX4_markFinds_18 flX4_57 sh_371 rfl ?_
    refine az_bipush (v := 16) dX4_markFinds_21 (by decide) ?_
    refine az_iloadn dX4_markFinds_23 rfl ?_
    refine az_imul dX4_markFinds_24 ?_
    refine az_iload dX4_markFinds_25 rfl ?_
    refine az_pc 27 (by decide) ?_
    refine az_iadd dX4_markFinds_27 ?_
    refine az_iald (16 * m + g) dX4_markFinds_28 sh_377 (by omega) (by decide) (by simp only [az_lit, nI_add, pk_mul, Nat.add_assoc]) ?_
    rw [k1]
    refine az_iand dX4_markFinds_29 ?_
    rw [fa_and]
    refine az_istore dX4_markFinds_30 (by decide) ?_
    dsimp only [List.set]
    refine az_iload dX4_markFinds_32 rfl ?_
    refine az_iload dX4_markFinds_34 rfl ?_
    refine az_iconst (v := 1) dX4_markFinds_36 (by decide) ?_
    refine az_isub dX4_markFinds_37 ?_
    refine az_iand dX4_markFinds_38 ?_
    rw [zb_tl (by omega)]
    refine az_ifeq (t := 71) dX4_markFinds_39 (by decide) (fun h39 => ?_) (fun h39 => ?_)
    · have hpc : zn_pc (s &&& (gl m).getD g 0) < 2 := htz.mp ((nI_eq (b := 0) (by have := zn_tl_lt (n := 16) (by decide) (show s &&& (gl m).getD g 0 < 2 ^ 16 by omega); omega) (by decide)).mp h39)
      rw [zf_in_f (by simp [-List.getD_eq_getElem?_getD, zq_badc, hpc])] at he
      refine az_iinc (w := 1) dX4_markFinds_71 rfl (by decide) (by decide) ?_
      dsimp only [List.set]
      refine az_goto (t := 3) dX4_markFinds_74 (by decide) ?_
      rw [nI_1]; exact ih he _ _
    · have hpc : ¬ zn_pc (s &&& (gl m).getD g 0) < 2 := fun h => h39 (by rw [htz.mpr h]; rfl)
      refine az_aloadn dX4_markFinds_42 rfl ?_
      refine az_getr dX4_markFinds_43 flX4_11 sh_388 rfl ?_
      refine az_aloadn dX4_markFinds_46 rfl ?_
      refine az_getr dX4_markFinds_47 flX4_15 sh_388 rfl ?_
      refine az_iload dX4_markFinds_50 rfl ?_
      refine az_iald (s &&& (gl m).getD g 0) dX4_markFinds_52 sh_390 (by omega) (by decide) (by simp only [az_lit, nI_add, pk_mul, Nat.add_assoc]) ?_
      refine az_iald (nx (s &&& (gl m).getD g 0)) dX4_markFinds_53 sh_389 (by omega) (by decide) x1 ?_
      refine az_istore dX4_markFinds_54 (by decide) ?_
      dsimp only [List.set]
      refine az_iload dX4_markFinds_56 rfl ?_
      refine az_bipush (v := -2) dX4_markFinds_58 (by decide) ?_
      refine az_icmpeq (t := 69) dX4_markFinds_60 (by decide) (fun h60 => ?_) (fun h60 => ?_)
      · rw [zf_in_t (by simp [-List.getD_eq_getElem?_getD, zq_badc, hpc, h60])] at he
        rw [← he] at hQ
        refine az_iconst (v := 0) dX4_markFinds_69 (by decide) ?_
        exact az_zret dX4_markFinds_70 rfl (Or.inl rfl) hQ
      refine az_iload dX4_markFinds_63 rfl ?_
      refine az_iloadn dX4_markFinds_65 rfl ?_
      refine az_pc 66 (by decide) ?_
      refine az_icmplt (t := 71) dX4_markFinds_66 (by decide) (fun h66 => ?_) (fun h66 => ?_)
      · rw [zf_in_f (by simp [-List.getD_eq_getElem?_getD, zq_badc, h60, h66])] at he
        refine az_iinc (w := 1) dX4_markFinds_71 rfl (by decide) (by decide) ?_
        dsimp only [List.set]
        refine az_goto (t := 3) dX4_markFinds_74 (by decide) ?_
        rw [nI_1]; exact ih he _ _
      · rw [zf_in_t (by simp [-List.getD_eq_getElem?_getD, zq_badc, hpc, h66])] at he
        rw [← he] at hQ
        refine az_iconst (v := 0) dX4_markFinds_69 (by decide) ?_
        refine az_zret dX4_markFinds_70 rfl (by first | exact Or.inl rfl | exact Or.inr rfl | assumption) ?_
        exact hQ
  · rw [Nat.sub_self] at he
    rw [← he] at hQ
    refine az_iload dX4_markFinds_3 rfl ?_
    refine az_aload dX4_markFinds_5 rfl ?_
    refine az_getr dX4_markFinds_7 flX4_54 sh_371 rfl ?_
    refine az_iloadn dX4_markFinds_10 rfl ?_
    refine az_iald (m) dX4_markFinds_11 sh_378 (by omega) (by decide) (by simp only [az_lit, nI_add, pk_mul, Nat.add_assoc]) ?_
    rw [g1]
    refine az_icmpge (t := 77) dX4_markFinds_12 (by decide) (fun h12 => ?_) (fun h12 => ?_)
    rotate_left 1
    · exact absurd (Int32.le_refl _) h12
    refine az_iconst (v := 1) dX4_markFinds_77 (by decide) ?_
    refine az_zret dX4_markFinds_78 rfl (by first | exact Or.inl rfl | exact Or.inr rfl | assumption) ?_
    exact hQ
theorem s_X4_someMarkFinds {gl : Nat → List Nat} {nx : Nat → Nat} {s : Nat} {r : Int32} (hn : mem 371 0 = nI N) (hN : N ≤ 10) (hG : zG mem N gl) (hx : ∀ t, t < 2 ^ N → mem 390 t = nI (nx t) ∧ nx t < 2 ^ N) (hs : s < 2 ^ N) (hQ : Q (some (.inl (if zq_fdc gl nx N r (mem 389) s = true then 1 else 0))) mem) : az_Sp X (d + 1) mX4_someMarkFinds [.inr 388, .inl (nI s), .inl r, .inr 371] mem Q := by
  refine az_body (by decide +kernel) (Nat.le_of_ble_eq_true rfl) ?_
  show az_Ev X _ mX4_someMarkFinds 0 [some (.inr 388), some (.inl (nI s)), some (.inl r), some (.inr 371), none] [] mem Q
  refine az_iconst (v := 0) dX4_someMarkFinds_0 (by decide) ?_
  refine az_istore dX4_someMarkFinds_1 (by decide) ?_
  dsimp only [List.set]
  skip
  unfold zq_fdc at hQ
  refine az_up (fun m => zf_in (zq_gdc gl nx r (mem 389) s) (N - m) m = zf_in (zq_gdc gl nx r (mem 389) s) N 0 → az_Ev X (d + 1) mX4_someMarkFinds 3 [some (.inr 388), some (.inl (nI s)), some (.inl r), some (.inr 371), some (.inl (nI m))] [] mem Q) N 0 (by omega) (fun m _ hm ih he => ?_) (fun he => ?_) rfl
  · rw [zs_sub hm] at he
    refine az_iload dX4_someMarkFinds_3 rfl ?_
    refine az_aloadn dX4_someMarkFinds_5 rfl ?_
    refine az_geti dX4_someMarkFinds_6 flX4_18 sh_371 rfl ?_
    rw [hn]
    refine az_icmpge (t := 32) dX4_someMarkFinds_9 (by decide) (fun h9 => ?_) (fun h9 => ?_)
    · exact absurd h9 (nI_ge (by omega) (by omega))
    refine az_aloadn dX4_someMarkFinds_12 rfl ?_
    refine az_iload dX4_someMarkFinds_13 rfl ?_
    refine az_iloadn dX4_someMarkFinds_15 rfl ?_
    refine az_iloadn dX4_someMarkFinds_16 rfl ?_
    refine az_aloadn dX4_someMarkFinds_17 rfl ?_
    refine az_inv4 (N := mX4_markFinds) dX4_someMarkFinds_18 lkX4_50 okX4_markFinds sh_388 rfl (Nat.le_of_ble_eq_true rfl) ?_
    refine s_X4_markFinds hN hG hx hm hs ?_
    try dsimp only [az_ps]
    refine az_ifeq (t := 26) dX4_someMarkFinds_21 (by decide) (fun h21 => ?_) (fun h21 => ?_)
    · replace h21 := zb_z h21
      rw [zf_in_f (by simpa using h21)] at he
      refine az_iinc (w := 1) dX4_someMarkFinds_26 rfl (by decide) (by decide) ?_
      dsimp only [List.set]
      refine az_goto (t := 3) dX4_someMarkFinds_29 (by decide) ?_
      rw [nI_1]; exact ih he
    · replace h21 := zb_n h21
      rw [zf_in_t h21] at he
      rw [← he] at hQ
      refine az_iconst (v := 1) dX4_someMarkFinds_24 (by decide) ?_
      refine az_zret dX4_someMarkFinds_25 rfl (by first | exact Or.inl rfl | exact Or.inr rfl | assumption) ?_
      exact hQ
  · rw [Nat.sub_self] at he
    rw [← he] at hQ
    refine az_iload dX4_someMarkFinds_3 rfl ?_
    refine az_aloadn dX4_someMarkFinds_5 rfl ?_
    refine az_geti dX4_someMarkFinds_6 flX4_18 sh_371 rfl ?_
    rw [hn]
    refine az_icmpge (t := 32) dX4_someMarkFinds_9 (by decide) (fun h9 => ?_) (fun h9 => ?_)
    rotate_left 1
    · exact absurd (Int32.le_refl _) h9
    refine az_iconst (v := 0) dX4_someMarkFinds_32 (by decide) ?_
    refine az_zret dX4_someMarkFinds_33 rfl (by first | exact Or.inl rfl | exact Or.inr rfl | assumption) ?_
    exact hQ
theorem s_X4_findInRound {gl : Nat → List Nat} {nx : Nat → Nat} {r : Nat} (hn : mem 371 0 = nI N) (hN : N ≤ 10) (hG : zG mem N gl) (hx : ∀ t, t < 2 ^ N → mem 390 t = nI (nx t) ∧ nx t < 2 ^ N) (hQ : ∀ m', (∀ k, k ≠ 389 → m' k = mem k) → m' 389 = (zq_rdc (zq_fdc gl nx N (nI r)) (nI r) (2 ^ N) 0 (mem 389, false)).1 → Q (some (.inl (if (zq_rdc (zq_fdc gl nx N (nI r)) (nI r) (2 ^ N) 0 (mem 389, false)).2 = true then 1 else 0))) m') : az_Sp X (d + 2) mX4_findInRound [.inr 388, .inl (nI r), .inl (nI (2 ^ N)), .inr 371] mem Q := by
  have hp : 2 ^ N ≤ 1024 := Nat.pow_le_pow_right (by decide) hN
  refine az_body (by decide +kernel) (Nat.le_of_ble_eq_true rfl) ?_
  show az_Ev X _ mX4_findInRound 0 [some (.inr 388), some (.inl (nI r)), some (.inl (nI (2 ^ N))), some (.inr 371), none, none] [] mem Q
  refine az_iconst (v := 0) dX4_findInRound_0 (by decide) ?_
  refine az_istore dX4_findInRound_1 (by decide) ?_
  dsimp only [List.set]
  refine az_iconst (v := 0) dX4_findInRound_3 (by decide) ?_
  refine az_istore dX4_findInRound_4 (by decide) ?_
  dsimp only [List.set]
  skip
  generalize hR : zq_rdc (zq_fdc gl nx N (nI r)) (nI r) (2 ^ N) 0 (mem 389, false) = R at hQ
  refine az_up (fun s => ∀ (m' : az_M) (mo : Bool), (∀ k, k ≠ 389 → m' k = mem k) → zq_rdc (zq_fdc gl nx N (nI r)) (nI r) (2 ^ N - s) s (m' 389, mo) = R → az_Ev X (d + 2) mX4_findInRound 6 [some (.inr 388), some (.inl (nI r)), some (.inl (nI (2 ^ N))), some (.inr 371), some (.inl (if mo = true then 1 else 0)), some (.inl (nI s))] [] m' Q) (2 ^ N) 0 (Nat.zero_le _) (fun s _ hs ih m' mo hf h => ?_) (fun m' mo hf h => ?_) mem false (fun _ _ => rfl) hR
  · rw [zs_sub hs, zq_rdc] at h
    dsimp only at h
    refine az_iload dX4_findInRound_6 rfl ?_
    refine az_iloadn dX4_findInRound_8 rfl ?_
    refine az_icmpge (t := 52) dX4_findInRound_9 (by decide) (fun h9 => ?_) (fun h9 => ?_)
    · exact absurd h9 (nI_ge (by omega) (by omega))
    refine az_aloadn dX4_findInRound_12 rfl ?_
    refine az_getr dX4_findInRound_13 flX4_11 sh_388 rfl ?_
    refine az_iload dX4_findInRound_16 rfl ?_
    refine az_iald (s) dX4_findInRound_18 sh_389 (by omega) (by decide) (by simp only [az_lit, nI_add, pk_mul, Nat.add_assoc]) ?_
    refine az_bipush (v := -2) dX4_findInRound_19 (by decide) ?_
    refine az_icmpne (t := 46) dX4_findInRound_21 (by decide) (fun h21 => ?_) (fun h21 => ?_)
    · rw [if_neg (fun q => h21 q.1)] at h
      refine az_iinc (w := 1) dX4_findInRound_46 rfl (by decide) (by decide) ?_
      dsimp only [List.set]
      refine az_goto (t := 6) dX4_findInRound_49 (by decide) ?_
      rw [nI_1]
      first
      | exact ih _ true (fun k hk => by rw [az_w_ne _ hk]; exact hf k hk) (by rw [az_w_same]; exact h)
      | exact ih m' mo hf h
    · refine az_aloadn dX4_findInRound_24 rfl ?_
      refine az_iload dX4_findInRound_25 rfl ?_
      refine az_iloadn dX4_findInRound_27 rfl ?_
      refine az_aloadn dX4_findInRound_28 rfl ?_
      refine az_inv3 (N := mX4_someMarkFinds) dX4_findInRound_29 lkX4_47 okX4_someMarkFinds sh_388 rfl (Nat.le_of_ble_eq_true rfl) ?_
      refine s_X4_someMarkFinds (by rw [hf 371 (by decide)]; exact hn) hN (fun m hm => by rw [hf 378 (by decide), hf 377 (by decide)]; exact hG m hm) (fun t ht => by rw [hf 390 (by decide)]; exact hx t ht) hs ?_
      try dsimp only [az_ps]
      refine az_ifeq (t := 46) dX4_findInRound_32 (by decide) (fun h32 => ?_) (fun h32 => ?_)
      · replace h32 := zb_z h32
        rw [if_neg (fun q => h32 q.2)] at h
        refine az_iinc (w := 1) dX4_findInRound_46 rfl (by decide) (by decide) ?_
        dsimp only [List.set]
        refine az_goto (t := 6) dX4_findInRound_49 (by decide) ?_
        rw [nI_1]
        first
        | exact ih _ true (fun k hk => by rw [az_w_ne _ hk]; exact hf k hk) (by rw [az_w_same]; exact h)
        | exact ih m' mo hf h
      · replace h32 := zb_n h32
        rw [if_pos ⟨h21, h32⟩] at h
        refine az_aloadn dX4_findInRound_35 rfl ?_
        refine az_getr dX4_findInRound_36 flX4_11 sh_388 rfl ?_
        refine az_iload dX4_findInRound_39 rfl ?_
        refine az_iloadn dX4_findInRound_41 rfl ?_
        refine az_iast (s) dX4_findInRound_42 sh_389 (by omega) (by decide) (by simp only [az_lit, nI_add, pk_mul, Nat.add_assoc]) ?_
        refine az_iconst (v := 1) dX4_findInRound_43 (by decide) ?_
        refine az_istore dX4_findInRound_44 (by decide) ?_
        dsimp only [List.set]
        refine az_iinc (w := 1) dX4_findInRound_46 rfl (by decide) (by decide) ?_
        dsimp only [List.set]
        refine az_goto (t := 6) dX4_findInRound_49 (by decide) ?_
        rw [nI_1]
        first
        | exact ih _ true (fun k hk => by rw [az_w_ne _ hk]; exact hf k hk) (by rw [az_w_same]; exact h)
        | exact ih m' mo hf h
  · rw [Nat.sub_self, zq_rdc] at h
    subst h
    refine az_iload dX4_findInRound_6 rfl ?_
    refine az_iloadn dX4_findInRound_8 rfl ?_
    refine az_icmpge (t := 52) dX4_findInRound_9 (by decide) (fun h9 => ?_) (fun h9 => ?_)
    rotate_left 1
    · exact absurd (Int32.le_refl _) h9
    refine az_iload dX4_findInRound_52 rfl ?_
    refine az_zret dX4_findInRound_54 rfl zb_01 ?_
    exact hQ m' hf rfl
theorem s_X4_fewestRounds {gl : Nat → List Nat} {len : Nat → Int32} {x : Nat} (hn : mem 371 0 = nI N) (hN : N ≤ 10) (hG : zG mem N gl) (hb : ∀ p, p < N → mem 372 p = nI (zn_bs len N p)) (hx : x < 2 ^ N) (hQ : ∀ m' R, (∀ k, k ≠ 389 → k ≠ 390 → m' k = mem k) → (∀ s, s < 2 ^ N → R s = zq_0c s) → Q (some (.inl (zq_goc gl (zq_nx len N) N x (2 ^ N) 1 R))) m') : az_Sp X (d + 3) mX4_fewestRounds [.inr 388, .inl (nI x), .inr 371] mem Q := by
  have hp : 2 ^ N ≤ 1024 := Nat.pow_le_pow_right (by decide) hN
  refine az_body (by decide +kernel) (Nat.le_of_ble_eq_true rfl) ?_
  show az_Ev X _ mX4_fewestRounds 0 [some (.inr 388), some (.inl (nI x)), some (.inr 371), none, none] [] mem Q
  refine az_iconst (v := 1) dX4_fewestRounds_0 (by decide) ?_
  refine az_aloadn dX4_fewestRounds_1 rfl ?_
  refine az_geti dX4_fewestRounds_2 flX4_18 sh_371 rfl ?_
  rw [hn]
  refine az_ishl dX4_fewestRounds_5 ?_
  rw [zi_shl N (by omega)]
  refine az_sipush (v := 1024) dX4_fewestRounds_6 (by decide) ?_
  refine az_min dX4_fewestRounds_9 lsX4_24 (Nat.le_of_ble_eq_true rfl) (by omega) ?_
  rw [if_neg (show ¬ (1024 : Int32) < nI (2 ^ N) from nI_nlt (a := 1024) (b := 2 ^ N) hp (by decide))]
  refine az_istoren dX4_fewestRounds_12 (by decide) ?_
  dsimp only [List.set]
  refine az_iloadn dX4_fewestRounds_13 rfl ?_
  refine az_iflt (t := 22) dX4_fewestRounds_14 (by decide) (fun h14 => ?_) (fun h14 => ?_)
  · exact absurd h14 (nI_pos (by omega))
  refine az_iloadn dX4_fewestRounds_17 rfl ?_
  refine az_iloadn dX4_fewestRounds_18 rfl ?_
  refine az_icmplt (t := 24) dX4_fewestRounds_19 (by decide) (fun h19 => ?_) (fun h19 => ?_)
  rotate_left 1
  · exact absurd (nI_lt hx (by omega)) h19
  refine az_aloadn dX4_fewestRounds_24 rfl ?_
  refine az_pc 25 (by decide) ?_
  refine az_iloadn dX4_fewestRounds_25 rfl ?_
  refine az_aloadn dX4_fewestRounds_26 rfl ?_
  refine az_inv2 (N := mX4_prepare) dX4_fewestRounds_27 lkX4_30 okX4_prepare sh_388 rfl (Nat.le_of_ble_eq_true rfl) ?_
  refine s_X4_prepare hN hb (fun m1 f1 g1 => ?_)
  try dsimp only [az_ps]
  refine az_iconst (v := 1) dX4_fewestRounds_30 (by decide) ?_
  refine az_istore dX4_fewestRounds_31 (by decide) ?_
  dsimp only [List.set]
  skip
  have hQ := fun m2 (q : ∀ k, k ≠ 389 → k ≠ 390 → m2 k = mem k) => hQ m2 (m1 389) q (fun s hs => (g1 s hs).1)
  generalize hR : zq_goc gl (zq_nx len N) N x (2 ^ N) 1 (m1 389) = R at hQ
  have main : ∀ (f r : Nat) (m2 : az_M), r + f = 2 ^ N + 1 → (∀ k, k ≠ 389 → m2 k = m1 k) → zq_goc gl (zq_nx len N) N x f r (m2 389) = R → az_Ev X (d + 3) mX4_fewestRounds 33 [some (.inr 388), some (.inl (nI x)), some (.inr 371), some (.inl (nI (2 ^ N))), some (.inl (nI r))] [] m2 Q := by
    intro f
    induction f with
    | zero =>
      intro r m2 hr f2 h
      rw [zq_goc] at h
      refine az_iload dX4_fewestRounds_33 rfl ?_
      refine az_iloadn dX4_fewestRounds_35 rfl ?_
      refine az_icmpgt (t := 70) dX4_fewestRounds_36 (by decide) (fun h36 => ?_) (fun h36 => ?_)
      rotate_left 1
      · exact absurd (nI_lt (by omega) (by omega)) h36
      refine az_aloadn dX4_fewestRounds_70 rfl ?_
      refine az_getr dX4_fewestRounds_71 flX4_11 sh_388 rfl ?_
      refine az_iloadn dX4_fewestRounds_74 rfl ?_
      refine az_iald (x) dX4_fewestRounds_75 sh_389 (by omega) (by decide) (by simp only [az_lit, nI_add, pk_mul, Nat.add_assoc]) ?_
      refine az_iret dX4_fewestRounds_76 rfl ?_
      rw [h]; exact hQ m2 (fun k k1 k2 => by rw [f2 k k1]; exact f1 k k1 k2)
    | succ f ihf =>
      intro r m2 hr f2 h
      rw [zq_goc] at h
      refine az_iload dX4_fewestRounds_33 rfl ?_
      refine az_iloadn dX4_fewestRounds_35 rfl ?_
      refine az_icmpgt (t := 70) dX4_fewestRounds_36 (by decide) (fun h36 => ?_) (fun h36 => ?_)
      · exact absurd h36 (nI_nlt (by omega) (by omega))
      refine az_aloadn dX4_fewestRounds_39 rfl ?_
      refine az_getr dX4_fewestRounds_40 flX4_11 sh_388 rfl ?_
      refine az_iloadn dX4_fewestRounds_43 rfl ?_
      refine az_iald (x) dX4_fewestRounds_44 sh_389 (by omega) (by decide) (by simp only [az_lit, nI_add, pk_mul, Nat.add_assoc]) ?_
      refine az_bipush (v := -2) dX4_fewestRounds_45 (by decide) ?_
      refine az_icmpne (t := 70) dX4_fewestRounds_47 (by decide) (fun h47 => ?_) (fun h47 => ?_)
      · rw [if_neg h47] at h
        subst h
        refine az_aloadn dX4_fewestRounds_70 rfl ?_
        refine az_getr dX4_fewestRounds_71 flX4_11 sh_388 rfl ?_
        refine az_iloadn dX4_fewestRounds_74 rfl ?_
        refine az_iald (x) dX4_fewestRounds_75 sh_389 (by omega) (by decide) (by simp only [az_lit, nI_add, pk_mul, Nat.add_assoc]) ?_
        refine az_iret dX4_fewestRounds_76 rfl ?_
        exact hQ m2 (fun k k1 k2 => by rw [f2 k k1]; exact f1 k k1 k2)
      · rw [if_pos h47] at h
        refine az_aloadn dX4_fewestRounds_50 rfl ?_
        refine az_iload dX4_fewestRounds_51 rfl ?_
        refine az_iloadn dX4_fewestRounds_53 rfl ?_
        refine az_aloadn dX4_fewestRounds_54 rfl ?_
        refine az_inv3 (N := mX4_findInRound) dX4_fewestRounds_55 lkX4_34 okX4_findInRound sh_388 rfl (Nat.le_of_ble_eq_true rfl) ?_
        refine s_X4_findInRound (gl := gl) (nx := zq_nx len N) (by rw [f2 371 (by decide), f1 371 (by decide) (by decide)]; exact hn) hN (fun m hm => by rw [f2 378 (by decide), f2 377 (by decide), f1 378 (by decide) (by decide), f1 377 (by decide) (by decide)]; exact hG m hm) (fun t ht => by rw [f2 390 (by decide)]; exact ⟨(g1 t ht).2, zq_nx_lt ht⟩) (fun m3 f3 g3 => ?_)
        try dsimp only [az_ps]
        refine az_ifne (t := 64) dX4_fewestRounds_58 (by decide) (fun h58 => ?_) (fun h58 => ?_)
        · replace h58 := zb_n h58
          rw [if_pos h58] at h
          refine az_iinc (w := 1) dX4_fewestRounds_64 rfl (by decide) (by decide) ?_
          dsimp only [List.set]
          refine az_goto (t := 33) dX4_fewestRounds_67 (by decide) ?_
          rw [nI_1]; exact ihf (r + 1) m3 (by omega) (fun k hk => by rw [f3 k hk]; exact f2 k hk) (by rw [g3]; exact h)
        · replace h58 := zb_z h58
          rw [if_neg h58] at h
          subst h
          refine az_bipush (v := -2) dX4_fewestRounds_61 (by decide) ?_
          refine az_iret dX4_fewestRounds_63 rfl ?_
          exact hQ m3 (fun k k1 k2 => by rw [f3 k k1, f2 k k1]; exact f1 k k1 k2)
  exact main (2 ^ N) 1 m1 (by omega) (fun _ _ => rfl) hR
end CM

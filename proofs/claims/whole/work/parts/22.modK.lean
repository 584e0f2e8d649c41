/-! the model's seeking -/
def zn_mv (B : Nat → Nat) (s : Nat) : Nat → Nat
  | 0 => s
  | i + 1 => zn_mv B s i ||| (if s.testBit i then B i else 0)
theorem zv_mv_n {B : Nat → Int32} {C : Nat → Nat} {s : Nat} : ∀ n, (∀ i, i < n → B i = nI (C i)) → zv_mv B s n = nI (zn_mv C s n)
  | 0, _ => rfl
  | n + 1, h => by
    rw [zv_mv, zn_mv, zv_mv_n n (fun i hi => h i (by omega)), h n (by omega)]
    by_cases hb : s.testBit n = true
    · rw [if_pos hb, if_pos hb, fa_or]
    · rw [if_neg hb, if_neg hb, show (0 : Int32) = nI 0 from rfl, fa_or]
theorem zn_mv_lt {C : Nat → Nat} {s N : Nat} (hs : s < 2 ^ N) : ∀ n, (∀ i, i < n → C i < 2 ^ N) → zn_mv C s n < 2 ^ N
  | 0, _ => hs
  | n + 1, h => by
    rw [zn_mv]
    refine Nat.or_lt_two_pow (zn_mv_lt hs n (fun i hi => h i (by omega))) ?_
    split
    · exact h n (by omega)
    · exact Nat.two_pow_pos N
/-- those beside p, as a number -/
def zn_bs (len : Nat → Int32) (N p : Nat) : Nat := zn_mask (zm_bf len p) N
theorem zn_bs_lt {len : Nat → Int32} {N p : Nat} : zn_bs len N p < 2 ^ N := zn_lt _ N
/-- where it may be then -/
def zq_nx (len : Nat → Int32) (N pt : Nat) : Nat := zn_mv (zn_bs len N) pt N
theorem zq_nx_lt {len : Nat → Int32} {N pt : Nat} (h : pt < 2 ^ N) : zq_nx len N pt < 2 ^ N := zn_mv_lt h N (fun _ _ => zn_bs_lt)
def zq_bad (len an R : Nat → Int32) (N : Nat) (r : Int32) (s m p : Nat) : Bool := s.testBit p && !(decide (zn_pc (zo_pt an N s m p) < 2) || decide (R (zq_nx len N (zo_pt an N s m p)) < r))
def zq_good (len an R : Nat → Int32) (N : Nat) (r : Int32) (s m : Nat) : Bool := (zf_in (zq_bad len an R N r s m) N 0).isNone
def zq_found (len an : Nat → Int32) (N : Nat) (r : Int32) (R : Nat → Int32) (s : Nat) : Bool := (zf_in (zq_good len an R N r s) N 0).isSome
def zq_rd (fd : (Nat → Int32) → Nat → Bool) (r : Int32) : Nat → Nat → (Nat → Int32) × Bool → (Nat → Int32) × Bool
  | 0, _, c => c
  | n + 1, s, c => zq_rd fd r n (s + 1) (if c.1 s < 1000000 ∨ fd c.1 s = false then c else (upd c.1 s r, true))
def zq_go (len an : Nat → Int32) (N : Nat) : Nat → Nat → (Nat → Int32) → Nat → Int32
  | 0, _, R => R
  | f + 1, r, R => if (zq_rd (zq_found len an N (nI r)) (nI r) (2 ^ N) 0 (R, false)).2 = true then zq_go len an N f (r + 1) (zq_rd (zq_found len an N (nI r)) (nI r) (2 ^ N) 0 (R, false)).1 else (zq_rd (zq_found len an N (nI r)) (nI r) (2 ^ N) 0 (R, false)).1
def zq_0 (N : Nat) (old : Nat → Int32) (s : Nat) : Int32 := if s < 2 ^ N then (if zn_pc s < 2 then 0 else 1000000) else old s
/-- how many are not found yet -/
def zq_v (N : Nat) (R : Nat → Int32) : Nat := fb_ct (fun s => !decide (R s < 1000000)) (2 ^ N)
theorem zq_rd_v {fd : (Nat → Int32) → Nat → Bool} {r : Int32} {N : Nat} (hr : r < 1000000) : ∀ (n s : Nat) (c : (Nat → Int32) × Bool), s + n ≤ 2 ^ N → zq_v N (zq_rd fd r n s c).1 ≤ zq_v N c.1 ∧ ((zq_rd fd r n s c).2 = true → c.2 = true ∨ zq_v N (zq_rd fd r n s c).1 < zq_v N c.1)
  | 0, _, c, _ => ⟨Nat.le_refl _, fun h => Or.inl h⟩
  | n + 1, s, c, hs => by
    rw [zq_rd]
    split
    · exact zq_rd_v hr n (s + 1) c (by omega)
    · next hc =>
      have ih := zq_rd_v (fd := fd) (N := N) hr n (s + 1) (upd c.1 s r, true) (by omega)
      have hlt : zq_v N (upd c.1 s r) < zq_v N c.1 := by
        unfold zq_v
        have h1 := fb_ct_upd (fun s => !decide (c.1 s < 1000000)) false (i := s) (n := 2 ^ N) (by omega)
        have e : (fun k => if k = s then false else !decide (c.1 k < 1000000)) = fun k => !decide (upd c.1 s r k < 1000000) := by
          funext k
          rw [zm_upd_eq]
          by_cases hk : k = s
          · rw [if_pos hk, if_pos hk]; simp [hr]
          · rw [if_neg hk, if_neg hk]
        rw [e] at h1
        have h2 : (!decide (c.1 s < 1000000)) = true := by
          simp only [Bool.not_eq_true', decide_eq_false_iff_not]
          exact fun h => hc (Or.inl h)
        simp only [h2, if_true] at h1
        simp at h1
        omega
      exact ⟨by have := ih.1; dsimp only at this; omega, fun _ => Or.inr (by have := ih.1; dsimp only at this; omega)⟩
section MK
variable {X : az_X} {d : Nat} {mem : az_M} {Q : Option az_V → az_M → Prop} {N : Nat}
theorem t_X8_moved {s : Nat} (hn : mem 392 0 = nI N) (hN : N ≤ 16) (hs : s < 65536) (hQ : Q (some (.inl (nI (zq_nx (zm_len (mem 392)) N s)))) mem) : az_Sp X (d + 2) mX8_moved [.inr 391, .inl (nI s)] mem Q := by
  refine s_X8_moved hn hN hs ?_
  rw [zv_mv_n (C := zn_bs (zm_len (mem 392)) N) N (fun i hi => zm_mask_n _ N (by omega))]
  exact hQ
theorem s_X8_isFoundIn {s : Nat} {r : Int32} (hn : mem 392 0 = nI N) (hN : N ≤ 10) (hs : s < 2 ^ N) (hQ : Q (some (.inl (if zq_found (zm_len (mem 392)) (mem 396) N r (mem 403) s = true then 1 else 0))) mem) : az_Sp X (d + 3) mX8_isFoundIn [.inr 391, .inl (nI s), .inl r] mem Q := by
  have hp : 2 ^ N ≤ 1024 := Nat.pow_le_pow_right (by decide) hN
  refine az_body (by decide +kernel) (Nat.le_of_ble_eq_true rfl) ?_
  show az_Ev X _ mX8_isFoundIn 0 [some (.inr 391), some (.inl (nI s)), some (.inl r), none, none, none, none, none] [] mem Q
  refine az_iconst (v := 0) dX8_isFoundIn_0 (by decide) ?_
  refine az_istoren dX8_isFoundIn_1 (by decide) ?_
  dsimp only [List.set]
  refine az_iconst (v := 0) dX8_isFoundIn_2 (by decide) ?_
  refine az_istore dX8_isFoundIn_3 (by decide) ?_
  dsimp only [List.set]
  skip
  unfold zq_found at hQ
  have fin1 : ∀ L4 L5 L6 L7, (zf_in (zq_good (zm_len (mem 392)) (mem 396) (mem 403) N r s) N 0).isSome = true → az_Ev X (d + 3) mX8_isFoundIn 5 [some (.inr 391), some (.inl (nI s)), some (.inl r), some (.inl 1), some (.inl L4), L5, L6, L7] [] mem Q := by
    intro L4 L5 L6 L7 h
    rw [if_pos h] at hQ
    refine az_iload dX8_isFoundIn_5 rfl ?_
    refine az_aloadn dX8_isFoundIn_7 rfl ?_
    refine az_inv0 (N := mX8_n) dX8_isFoundIn_8 lkX8_62 okX8_n sh_391 rfl (Nat.le_of_ble_eq_true rfl) ?_
    refine t_X8_n hn ?_
    try dsimp only [az_ps]
    refine az_icmpge (t := 107) dX8_isFoundIn_11 (by decide) (fun h11 => ?_) (fun h11 => ?_)
    · refine az_iloadn dX8_isFoundIn_107 rfl ?_
      refine az_zret dX8_isFoundIn_108 rfl (by first | exact Or.inl rfl | exact Or.inr rfl | assumption) ?_
      exact hQ
    · refine az_iloadn dX8_isFoundIn_14 rfl ?_
      refine az_ifne (t := 107) dX8_isFoundIn_15 (by decide) (fun h15 => ?_) (fun h15 => ?_)
      rotate_left 1
      · exact absurd h15 (by decide)
      refine az_iloadn dX8_isFoundIn_107 rfl ?_
      refine az_zret dX8_isFoundIn_108 rfl (by first | exact Or.inl rfl | exact Or.inr rfl | assumption) ?_
      exact hQ
  refine az_up (fun m => zf_in (zq_good (zm_len (mem 392)) (mem 396) (mem 403) N r s) (N - m) m = zf_in (zq_good (zm_len (mem 392)) (mem 396) (mem 403) N r s) N 0 → ∀ L5 L6 L7, az_Ev X (d + 3) mX8_isFoundIn 5 [some (.inr 391), some (.inl (nI s)), some (.inl r), some (.inl 0), some (.inl (nI m)), L5, L6, L7] [] mem Q) N 0 (by omega) (fun m _ hm ih he L5 L6 L7 => ?_) (fun he L5 L6 L7 => ?_) rfl none none none
  · rw [zs_sub hm] at he
    have good1 : zf_in (zq_bad (zm_len (mem 392)) (mem 396) (mem 403) N r s m) N 0 = none → ∀ L6 L7, az_Ev X (d + 3) mX8_isFoundIn 98 [some (.inr 391), some (.inl (nI s)), some (.inl r), some (.inl 0), some (.inl (nI m)), some (.inl 1), L6, L7] [] mem Q := by
      intro hg L6 L7
      rw [zf_in_t (by unfold zq_good; rw [hg]; rfl)] at he
      refine az_iload dX8_isFoundIn_98 rfl ?_
      refine az_istoren dX8_isFoundIn_100 (by decide) ?_
      dsimp only [List.set]
      refine az_iinc (w := 1) dX8_isFoundIn_101 rfl (by decide) (by decide) ?_
      dsimp only [List.set]
      refine az_goto (t := 5) dX8_isFoundIn_104 (by decide) ?_
      exact fin1 _ _ _ _ (by rw [← he]; rfl)
    have good0 : ∀ p, zf_in (zq_bad (zm_len (mem 392)) (mem 396) (mem 403) N r s m) N 0 = some p → ∀ L6 L7, az_Ev X (d + 3) mX8_isFoundIn 98 [some (.inr 391), some (.inl (nI s)), some (.inl r), some (.inl 0), some (.inl (nI m)), some (.inl 0), L6, L7] [] mem Q := by
      intro p hg L6 L7
      rw [zf_in_f (by unfold zq_good; rw [hg]; rfl)] at he
      refine az_iload dX8_isFoundIn_98 rfl ?_
      refine az_istoren dX8_isFoundIn_100 (by decide) ?_
      dsimp only [List.set]
      refine az_iinc (w := 1) dX8_isFoundIn_101 rfl (by decide) (by decide) ?_
      dsimp only [List.set]
      refine az_goto (t := 5) dX8_isFoundIn_104 (by decide) ?_
      rw [nI_1]; exact ih he _ _ _
    refine az_iload dX8_isFoundIn_5 rfl ?_
    refine az_aloadn dX8_isFoundIn_7 rfl ?_
    refine az_inv0 (N := mX8_n) dX8_isFoundIn_8 lkX8_62 okX8_n sh_391 rfl (Nat.le_of_ble_eq_true rfl) ?_
    refine t_X8_n hn ?_
    try dsimp only [az_ps]
    refine az_icmpge (t := 107) dX8_isFoundIn_11 (by decide) (fun h11 => ?_) (fun h11 => ?_)
    · exact absurd h11 (nI_ge (by omega) (by omega))
    refine az_iloadn dX8_isFoundIn_14 rfl ?_
    refine az_ifne (t := 107) dX8_isFoundIn_15 (by decide) (fun h15 => ?_) (fun h15 => ?_)
    · exact absurd rfl h15
    refine az_iconst (v := 1) dX8_isFoundIn_18 (by decide) ?_
    refine az_istore dX8_isFoundIn_19 (by decide) ?_
    dsimp only [List.set]
    refine az_iconst (v := 0) dX8_isFoundIn_21 (by decide) ?_
    refine az_istore dX8_isFoundIn_22 (by decide) ?_
    dsimp only [List.set]
    skip
    refine az_up (fun p => zf_in (zq_bad (zm_len (mem 392)) (mem 396) (mem 403) N r s m) (N - p) p = zf_in (zq_bad (zm_len (mem 392)) (mem 396) (mem 403) N r s m) N 0 → ∀ L7, az_Ev X (d + 3) mX8_isFoundIn 24 [some (.inr 391), some (.inl (nI s)), some (.inl r), some (.inl 0), some (.inl (nI m)), some (.inl 1), some (.inl (nI p)), L7] [] mem Q) N 0 (by omega) (fun p _ hpN ih2 he2 L7 => ?_) (fun he2 L7 => ?_) rfl _
    · rw [zs_sub hpN] at he2
      have hpt : zo_pt (mem 396) N s m p < 2 ^ N := zn_lt _ N
      have hnx := zq_nx_lt (len := zm_len (mem 392)) hpt
      refine az_iload dX8_isFoundIn_24 rfl ?_
      refine az_aloadn dX8_isFoundIn_26 rfl ?_
      refine az_inv0 (N := mX8_n) dX8_isFoundIn_27 lkX8_62 okX8_n sh_391 rfl (Nat.le_of_ble_eq_true rfl) ?_
      refine t_X8_n hn ?_
      try dsimp only [az_ps]
      refine az_icmpge (t := 98) dX8_isFoundIn_30 (by decide) (fun h30 => ?_) (fun h30 => ?_)
      · exact absurd h30 (nI_ge (by omega) (by omega))
      refine az_iload dX8_isFoundIn_33 rfl ?_
      refine az_ifeq (t := 98) dX8_isFoundIn_35 (by decide) (fun h35 => ?_) (fun h35 => ?_)
      · exact absurd h35 (by decide)
      refine az_iloadn dX8_isFoundIn_38 rfl ?_
      refine az_iload dX8_isFoundIn_39 rfl ?_
      refine az_ishr dX8_isFoundIn_41 ?_
      refine az_iconst (v := 1) dX8_isFoundIn_42 (by decide) ?_
      refine az_iand dX8_isFoundIn_43 ?_
      refine az_ifne (t := 50) dX8_isFoundIn_44 (by decide) (fun h44 => ?_) (fun h44 => ?_)
      · rw [zb_bit0 (by omega) (by omega)] at h44
        refine az_aloadn dX8_isFoundIn_50 rfl ?_
        refine az_iloadn dX8_isFoundIn_51 rfl ?_
        refine az_iload dX8_isFoundIn_52 rfl ?_
        refine az_iload dX8_isFoundIn_54 rfl ?_
        refine az_inv3 (N := mX8_staying) dX8_isFoundIn_56 lkX8_162 okX8_staying sh_391 rfl (Nat.le_of_ble_eq_true rfl) ?_
        refine s_X8_staying hn (by omega) (by omega) (by omega) (by omega) ?_
        rw [zm_mask_n _ N (by omega)]
        have ept : zn_mask (zs_f (mem 396) s m p) N = zo_pt (mem 396) N s m p := rfl
        rw [ept]
        try dsimp only [az_ps]
        refine az_istore dX8_isFoundIn_59 (by decide) ?_
        dsimp only [List.set]
        refine az_iload dX8_isFoundIn_61 rfl ?_
        refine az_ins1 (N := mX8_many) dX8_isFoundIn_63 lsX8_102 okX8_many (Nat.le_of_ble_eq_true rfl) ?_
        refine s_X8_many ?_
        try dsimp only [az_ps]
        rw [zm_many_n (by omega)]
        refine az_iconst (v := 2) dX8_isFoundIn_66 (by decide) ?_
        refine az_icmplt (t := 85) dX8_isFoundIn_67 (by decide) (fun h67 => ?_) (fun h67 => ?_)
        · have hpc : zn_pc (zo_pt (mem 396) N s m p) < 2 := (nI_ltI (b := 2) (by have := zn_pc_le (zo_pt (mem 396) N s m p); omega) (by decide)).mp h67
          rw [zf_in_f (by simp [zq_bad, hpc])] at he2
          refine az_iconst (v := 1) dX8_isFoundIn_85 (by decide) ?_
          refine az_goto (t := 90) dX8_isFoundIn_86 (by decide) ?_
          refine az_istore dX8_isFoundIn_90 (by decide) ?_
          dsimp only [List.set]
          refine az_iinc (w := 1) dX8_isFoundIn_92 rfl (by decide) (by decide) ?_
          dsimp only [List.set]
          refine az_goto (t := 24) dX8_isFoundIn_95 (by decide) ?_
          rw [nI_1]; exact ih2 he2 _
        · have hpc : ¬ zn_pc (zo_pt (mem 396) N s m p) < 2 := fun q => h67 (nI_lt (b := 2) q (by decide))
          refine az_aloadn dX8_isFoundIn_70 rfl ?_
          refine az_getr dX8_isFoundIn_71 flX8_45 sh_391 rfl ?_
          refine az_aloadn dX8_isFoundIn_74 rfl ?_
          refine az_iload dX8_isFoundIn_75 rfl ?_
          refine az_inv1 (N := mX8_moved) dX8_isFoundIn_77 lkX8_175 okX8_moved sh_391 rfl (Nat.le_of_ble_eq_true rfl) ?_
          refine t_X8_moved hn (by omega) (by omega) ?_
          try dsimp only [az_ps]
          refine az_iald (zq_nx (zm_len (mem 392)) N (zo_pt (mem 396) N s m p)) dX8_isFoundIn_80 sh_403 (by omega) (by decide) (by simp only [az_lit, nI_add, pk_mul, Nat.add_assoc]) ?_
          refine az_iloadn dX8_isFoundIn_81 rfl ?_
          refine az_icmpge (t := 89) dX8_isFoundIn_82 (by decide) (fun h82 => ?_) (fun h82 => ?_)
          · rw [zf_in_t (by simp [zq_bad, hpc, h44, h82])] at he2
            refine az_iconst (v := 0) dX8_isFoundIn_89 (by decide) ?_
            refine az_istore dX8_isFoundIn_90 (by decide) ?_
            dsimp only [List.set]
            refine az_iinc (w := 1) dX8_isFoundIn_92 rfl (by decide) (by decide) ?_
            dsimp only [List.set]
            refine az_goto (t := 24) dX8_isFoundIn_95 (by decide) ?_
            refine az_iload dX8_isFoundIn_24 rfl ?_
            refine az_aloadn dX8_isFoundIn_26 rfl ?_
            refine az_inv0 (N := mX8_n) dX8_isFoundIn_27 lkX8_62 okX8_n sh_391 rfl (Nat.le_of_ble_eq_true rfl) ?_
            refine t_X8_n hn ?_
            try dsimp only [az_ps]
            refine az_icmpge (t := 98) dX8_isFoundIn_30 (by decide) (fun _ => good0 p he2.symm _ _) (fun _ => ?_)
            refine az_iload dX8_isFoundIn_33 rfl ?_
            exact az_ifeq (t := 98) dX8_isFoundIn_35 (by decide) (fun _ => good0 p he2.symm _ _) (fun h => absurd rfl h)
          rw [zf_in_f (by simp [zq_bad, Int32.not_le.mp h82])] at he2
          refine az_iconst (v := 1) dX8_isFoundIn_85 (by decide) ?_
          refine az_goto (t := 90) dX8_isFoundIn_86 (by decide) ?_
          refine az_istore dX8_isFoundIn_90 (by decide) ?_
          dsimp only [List.set]
          refine az_iinc (w := 1) dX8_isFoundIn_92 rfl (by decide) (by decide) ?_
          dsimp only [List.set]
          refine az_goto (t := 24) dX8_isFoundIn_95 (by decide) ?_
          rw [nI_1]; exact ih2 he2 _
      · rw [zb_bit0 (by omega) (by omega)] at h44
        rw [zf_in_f (by simp [zq_bad, h44])] at he2
        refine az_goto (t := 92) dX8_isFoundIn_47 (by decide) ?_
        refine az_iinc (w := 1) dX8_isFoundIn_92 rfl (by decide) (by decide) ?_
        dsimp only [List.set]
        refine az_goto (t := 24) dX8_isFoundIn_95 (by decide) ?_
        rw [nI_1]; exact ih2 he2 _
    · rw [Nat.sub_self] at he2
      refine az_iload dX8_isFoundIn_24 rfl ?_
      refine az_aloadn dX8_isFoundIn_26 rfl ?_
      refine az_inv0 (N := mX8_n) dX8_isFoundIn_27 lkX8_62 okX8_n sh_391 rfl (Nat.le_of_ble_eq_true rfl) ?_
      refine t_X8_n hn ?_
      try dsimp only [az_ps]
      refine az_icmpge (t := 98) dX8_isFoundIn_30 (by decide) (fun h30 => ?_) (fun h30 => ?_)
      rotate_left 1
      · exact absurd (Int32.le_refl _) h30
      exact good1 he2.symm _ _
  · rw [Nat.sub_self] at he
    rw [← he] at hQ
    refine az_iload dX8_isFoundIn_5 rfl ?_
    refine az_aloadn dX8_isFoundIn_7 rfl ?_
    refine az_inv0 (N := mX8_n) dX8_isFoundIn_8 lkX8_62 okX8_n sh_391 rfl (Nat.le_of_ble_eq_true rfl) ?_
    refine t_X8_n hn ?_
    try dsimp only [az_ps]
    refine az_icmpge (t := 107) dX8_isFoundIn_11 (by decide) (fun h11 => ?_) (fun h11 => ?_)
    rotate_left 1
    · exact absurd (Int32.le_refl _) h11
    refine az_iloadn dX8_isFoundIn_107 rfl ?_
    refine az_zret dX8_isFoundIn_108 rfl (by first | exact Or.inl rfl | exact Or.inr rfl | assumption) ?_
    exact hQ
theorem s_X8_seek {x : Int32} (hn : mem 392 0 = nI N) (hN : N ≤ 16) (hQ : ∀ m' old, (∀ k, k ≠ 403 → m' k = mem k) → Q (some (.inl (if N ≤ 10 ∧ (0 ≤ x ∧ x < nI (2 ^ N)) then (if zq_go (zm_len (mem 392)) (mem 396) N (2 ^ N + 1) 1 (zq_0 N old) x.toNatClampNeg = 1000000 then -2 else zq_go (zm_len (mem 392)) (mem 396) N (2 ^ N + 1) 1 (zq_0 N old) x.toNatClampNeg) else -1))) m') : az_Sp X (d + 4) mX8_seek [.inr 391, .inl x] mem Q := by
  refine az_body (by decide +kernel) (Nat.le_of_ble_eq_true rfl) ?_
  show az_Ev X _ mX8_seek 0 [some (.inr 391), some (.inl x), none, none, none, none] [] mem Q
  refine az_aloadn dX8_seek_0 rfl ?_
  refine az_inv0 (N := mX8_n) dX8_seek_1 lkX8_62 okX8_n sh_391 rfl (Nat.le_of_ble_eq_true rfl) ?_
  refine t_X8_n hn ?_
  try dsimp only [az_ps]
  refine az_bipush (v := 10) dX8_seek_4 (by decide) ?_
  refine az_icmpgt (t := 17) dX8_seek_6 (by decide) (fun h6 => ?_) (fun h6 => ?_)
  · have h10 : ¬ N ≤ 10 := fun q => absurd h6 (nI_nlt (b := N) (a := 10) q (by decide))
    have hq := hQ mem (mem 403) (fun _ _ => rfl)
    rw [if_neg (fun q => h10 q.1)] at hq
    refine az_iconst (v := -1) dX8_seek_17 (by decide) ?_
    exact az_iret dX8_seek_18 rfl hq
  refine az_aloadn dX8_seek_9 rfl ?_
  refine az_iloadn dX8_seek_10 rfl ?_
  refine az_inv1 (N := mX8_isSet) dX8_seek_11 lkX8_118 okX8_isSet sh_391 rfl (Nat.le_of_ble_eq_true rfl) ?_
  refine s_X8_isSet ?_
  rw [hn, zi_shl N (by omega)]
  try dsimp only [az_ps]
  refine az_ifne (t := 19) dX8_seek_14 (by decide) (fun h14 => ?_) (fun h14 => ?_)
  rotate_left 1
  · replace h14 := zb_z h14
    have hq := hQ mem (mem 403) (fun _ _ => rfl)
    rw [if_neg (fun q => h14 q.2)] at hq
    refine az_iconst (v := -1) dX8_seek_17 (by decide) ?_
    exact az_iret dX8_seek_18 rfl hq
  replace h14 := zb_n h14
  refine az_iconst (v := 1) dX8_seek_19 (by decide) ?_
  refine az_aloadn dX8_seek_20 rfl ?_
  refine az_inv0 (N := mX8_n) dX8_seek_21 lkX8_62 okX8_n sh_391 rfl (Nat.le_of_ble_eq_true rfl) ?_
  refine t_X8_n hn ?_
  try dsimp only [az_ps]
  refine az_ishl dX8_seek_24 ?_
  rw [zi_shl N (by omega)]
  refine az_istoren dX8_seek_25 (by decide) ?_
  dsimp only [List.set]
  refine az_iconst (v := 0) dX8_seek_26 (by decide) ?_
  refine az_istoren dX8_seek_27 (by decide) ?_
  dsimp only [List.set]
  skip
  have h10 : N ≤ 10 := by
    rcases Nat.lt_or_ge 10 N with q | q
    · exact absurd (nI_lt (a := 10) q (by omega)) h6
    · exact q
  have hp : 2 ^ N ≤ 1024 := Nat.pow_le_pow_right (by decide) h10
  obtain ⟨x', hx', rfl⟩ := zi_ex (x := x) (N := 2 ^ N) (by omega) h14
  have hQ := fun m' g1 => hQ m' (mem 403) g1
  rw [if_pos ⟨h10, h14⟩, nI_clamp (by omega)] at hQ
  refine az_up (fun s => ∀ m', (∀ k, k ≠ 403 → m' k = mem k) → (∀ i, m' 403 i = if i < s then (if zn_pc i < 2 then 0 else 1000000) else mem 403 i) → az_Ev X (d + 4) mX8_seek 28 [some (.inr 391), some (.inl (nI x')), some (.inl (nI (2 ^ N))), some (.inl (nI s)), none, none] [] m' Q) (2 ^ N) 0 (Nat.zero_le _) (fun s _ hs ih m' hf h1 => ?_) (fun m' hf h1 => ?_) mem (fun _ _ => rfl) (fun i => by rw [if_neg (by omega)])
  · have fin : ∀ v, v = (if zn_pc s < 2 then 0 else 1000000) → az_Ev X (d + 4) mX8_seek 28 [some (.inr 391), some (.inl (nI x')), some (.inl (nI (2 ^ N))), some (.inl (nI (s + 1))), none, none] [] (az_w m' 403 s v) Q := by
      intro v hv
      refine ih _ (fun k hk => by rw [az_w_ne _ hk]; exact hf k hk) (fun i => ?_)
      rw [az_w_same, zm_upd_eq, h1]
      by_cases hi : i = s
      · rw [if_pos hi, if_pos (by omega), hi]; exact hv
      · rw [if_neg hi]
        by_cases hi2 : i < s
        · rw [if_pos hi2, if_pos (show i < s + 1 by omega)]
        · rw [if_neg hi2, if_neg (show ¬ i < s + 1 by omega)]
    refine az_iloadn dX8_seek_28 rfl ?_
    refine az_iloadn dX8_seek_29 rfl ?_
    refine az_icmpge (t := 59) dX8_seek_30 (by decide) (fun h30 => ?_) (fun h30 => ?_)
    · exact absurd h30 (nI_ge (by omega) (by omega))
    refine az_aloadn dX8_seek_33 rfl ?_
    refine az_getr dX8_seek_34 flX8_45 sh_391 rfl ?_
    refine az_iloadn dX8_seek_37 rfl ?_
    refine az_iloadn dX8_seek_38 rfl ?_
    refine az_ins1 (N := mX8_many) dX8_seek_39 lsX8_102 okX8_many (Nat.le_of_ble_eq_true rfl) ?_
    refine s_X8_many ?_
    try dsimp only [az_ps]
    rw [zm_many_n (by omega)]
    refine az_iconst (v := 2) dX8_seek_42 (by decide) ?_
    refine az_icmpge (t := 50) dX8_seek_43 (by decide) (fun h43 => ?_) (fun h43 => ?_)
    · have hpc : ¬ zn_pc s < 2 := fun q => absurd h43 (nI_ge (b := 2) q (by decide))
      rw [if_neg hpc] at fin
      refine az_ldc dX8_seek_50 kcX8_74 ?_
      refine az_iast (s) dX8_seek_52 sh_403 (by omega) (by decide) (by simp only [az_lit, nI_add, pk_mul, Nat.add_assoc]) ?_
      refine az_iinc (w := 1) dX8_seek_53 rfl (by decide) (by decide) ?_
      dsimp only [List.set]
      refine az_goto (t := 28) dX8_seek_56 (by decide) ?_
      rw [nI_1]; exact fin _ rfl
    · have hpc : zn_pc s < 2 := (nI_ltI (b := 2) (by have := zn_pc_le s; omega) (by decide)).mp (Int32.not_le.mp h43)
      rw [if_pos hpc] at fin
      refine az_iconst (v := 0) dX8_seek_46 (by decide) ?_
      refine az_goto (t := 52) dX8_seek_47 (by decide) ?_
      refine az_iast (s) dX8_seek_52 sh_403 (by omega) (by decide) (by simp only [az_lit, nI_add, pk_mul, Nat.add_assoc]) ?_
      refine az_iinc (w := 1) dX8_seek_53 rfl (by decide) (by decide) ?_
      dsimp only [List.set]
      refine az_goto (t := 28) dX8_seek_56 (by decide) ?_
      rw [nI_1]; exact fin _ rfl
  · have e0 : m' 403 = zq_0 N (mem 403) := by funext i; exact h1 i
    refine az_iloadn dX8_seek_28 rfl ?_
    refine az_iloadn dX8_seek_29 rfl ?_
    refine az_icmpge (t := 59) dX8_seek_30 (by decide) (fun h30 => ?_) (fun h30 => ?_)
    rotate_left 1
    · exact absurd (Int32.le_refl _) h30
    refine az_iconst (v := 1) dX8_seek_59 (by decide) ?_
    refine az_istoren dX8_seek_60 (by decide) ?_
    dsimp only [List.set]
    refine az_iconst (v := 1) dX8_seek_61 (by decide) ?_
    refine az_istore dX8_seek_62 (by decide) ?_
    dsimp only [List.set]
    skip
    rw [← e0] at hQ
    clear h1
    have fin : ∀ (R : Nat → Int32), zq_go (zm_len (mem 392)) (mem 396) N (2 ^ N + 1) 1 (m' 403) = R → ∀ m2 L4 L5, (∀ k, k ≠ 403 → m2 k = mem k) → m2 403 = R → az_Ev X (d + 4) mX8_seek 64 [some (.inr 391), some (.inl (nI x')), some (.inl (nI (2 ^ N))), some (.inl 0), L4, L5] [] m2 Q := by
      intro R hR m2 L4 L5 f2 e2
      have hQ := hQ m2 f2
      rw [hR, ← e2] at hQ
      refine az_iloadn dX8_seek_64 rfl ?_
      refine az_ifeq (t := 128) dX8_seek_65 (by decide) (fun h65 => ?_) (fun h65 => ?_)
      rotate_left 1
      · exact absurd rfl h65
      refine az_aloadn dX8_seek_128 rfl ?_
      refine az_getr dX8_seek_129 flX8_45 sh_391 rfl ?_
      refine az_iloadn dX8_seek_132 rfl ?_
      refine az_iald (x') dX8_seek_133 sh_403 (by omega) (by decide) (by simp only [az_lit, nI_add, pk_mul, Nat.add_assoc]) ?_
      refine az_ldc dX8_seek_134 kcX8_74 ?_
      refine az_icmpne (t := 144) dX8_seek_136 (by decide) (fun h136 => ?_) (fun h136 => ?_)
      · rw [if_neg h136] at hQ
        refine az_aloadn dX8_seek_144 rfl ?_
        refine az_getr dX8_seek_145 flX8_45 sh_391 rfl ?_
        refine az_iloadn dX8_seek_148 rfl ?_
        refine az_iald (x') dX8_seek_149 sh_403 (by omega) (by decide) (by simp only [az_lit, nI_add, pk_mul, Nat.add_assoc]) ?_
        refine az_iret dX8_seek_150 rfl ?_
        exact hQ
      · rw [if_pos h136] at hQ
        refine az_bipush (v := -2) dX8_seek_139 (by decide) ?_
        refine az_goto (t := 150) dX8_seek_141 (by decide) ?_
        refine az_iret dX8_seek_150 rfl ?_
        exact hQ
    generalize hR : zq_go (zm_len (mem 392)) (mem 396) N (2 ^ N + 1) 1 (m' 403) = R at fin
    have fin := fin R rfl
    have main : ∀ (f r : Nat) (m2 : az_M) (L5 : Option az_V), r + f ≤ 2 ^ N + 2 → zq_v N (m2 403) < f → (∀ k, k ≠ 403 → m2 k = mem k) → zq_go (zm_len (mem 392)) (mem 396) N f r (m2 403) = R → az_Ev X (d + 4) mX8_seek 64 [some (.inr 391), some (.inl (nI x')), some (.inl (nI (2 ^ N))), some (.inl 1), some (.inl (nI r)), L5] [] m2 Q := by
      intro f
      induction f with
      | zero => intro r m2 L5 _ hv; omega
      | succ f ihf =>
        intro r m2 L5 hrf hv f2 hg
        have hr : nI r < 1000000 := nI_lt (b := 1000000) (by omega) (by decide)
        rw [zq_go] at hg
        have hvv := zq_rd_v (fd := zq_found (zm_len (mem 392)) (mem 396) N (nI r)) (r := nI r) (N := N) hr (2 ^ N) 0 (m2 403, false) (by omega)
        refine az_iloadn dX8_seek_64 rfl ?_
        refine az_ifeq (t := 128) dX8_seek_65 (by decide) (fun h65 => ?_) (fun h65 => ?_)
        · exact absurd h65 (by decide)
        refine az_iconst (v := 0) dX8_seek_68 (by decide) ?_
        refine az_istoren dX8_seek_69 (by decide) ?_
        dsimp only [List.set]
        refine az_iconst (v := 0) dX8_seek_70 (by decide) ?_
        refine az_istore dX8_seek_71 (by decide) ?_
        dsimp only [List.set]
        skip
        generalize hR2 : zq_rd (zq_found (zm_len (mem 392)) (mem 396) N (nI r)) (nI r) (2 ^ N) 0 (m2 403, false) = R2 at hg hvv
        refine az_up (fun s => ∀ (m3 : az_M) (mo : Bool), (∀ k, k ≠ 403 → m3 k = mem k) → zq_rd (zq_found (zm_len (mem 392)) (mem 396) N (nI r)) (nI r) (2 ^ N - s) s (m3 403, mo) = R2 → az_Ev X (d + 4) mX8_seek 73 [some (.inr 391), some (.inl (nI x')), some (.inl (nI (2 ^ N))), some (.inl (if mo then 1 else 0)), some (.inl (nI r)), some (.inl (nI s))] [] m3 Q) (2 ^ N) 0 (Nat.zero_le _) (fun s _ hs ih m3 mo f3 h3 => ?_) (fun m3 mo f3 h3 => ?_) m2 false f2 hR2
        · have e392 : m3 392 = mem 392 := f3 392 (by decide)
          have e396 : m3 396 = mem 396 := f3 396 (by decide)
          rw [zs_sub hs, zq_rd] at h3
          dsimp only at h3
          refine az_iload dX8_seek_73 rfl ?_
          refine az_iloadn dX8_seek_75 rfl ?_
          refine az_icmpge (t := 122) dX8_seek_76 (by decide) (fun h76 => ?_) (fun h76 => ?_)
          · exact absurd h76 (nI_ge (by omega) (by omega))
          refine az_aloadn dX8_seek_79 rfl ?_
          refine az_getr dX8_seek_80 flX8_45 sh_391 rfl ?_
          refine az_iload dX8_seek_83 rfl ?_
          refine az_iald (s) dX8_seek_85 sh_403 (by omega) (by decide) (by simp only [az_lit, nI_add, pk_mul, Nat.add_assoc]) ?_
          refine az_ldc dX8_seek_86 kcX8_74 ?_
          refine az_icmplt (t := 116) dX8_seek_88 (by decide) (fun h88 => ?_) (fun h88 => ?_)
          · rw [if_pos (Or.inl h88)] at h3
            refine az_iinc (w := 1) dX8_seek_116 rfl (by decide) (by decide) ?_
            dsimp only [List.set]
            refine az_goto (t := 73) dX8_seek_119 (by decide) ?_
            rw [nI_1]
            first
            | exact ih _ true (fun k hk => by rw [az_w_ne _ hk]; exact f3 k hk) (by rw [az_w_same]; exact h3)
            | exact ih m3 mo f3 h3
          · refine az_aloadn dX8_seek_91 rfl ?_
            refine az_iload dX8_seek_92 rfl ?_
            refine az_iload dX8_seek_94 rfl ?_
            refine az_inv2 (N := mX8_isFoundIn) dX8_seek_96 lkX8_172 okX8_isFoundIn sh_391 rfl (Nat.le_of_ble_eq_true rfl) ?_
            refine s_X8_isFoundIn (N := N) (s := s) (by rw [e392]; exact hn) h10 hs ?_
            rw [e392, e396]
            try dsimp only [az_ps]
            refine az_ifne (t := 105) dX8_seek_99 (by decide) (fun h99 => ?_) (fun h99 => ?_)
            · replace h99 := zb_n h99
              rw [if_neg (fun q => q.elim h88 (fun q => by rw [h99] at q; cases q))] at h3
              refine az_aloadn dX8_seek_105 rfl ?_
              refine az_getr dX8_seek_106 flX8_45 sh_391 rfl ?_
              refine az_iload dX8_seek_109 rfl ?_
              refine az_iload dX8_seek_111 rfl ?_
              refine az_iast (s) dX8_seek_113 sh_403 (by omega) (by decide) (by simp only [az_lit, nI_add, pk_mul, Nat.add_assoc]) ?_
              refine az_iconst (v := 1) dX8_seek_114 (by decide) ?_
              refine az_istoren dX8_seek_115 (by decide) ?_
              dsimp only [List.set]
              refine az_iinc (w := 1) dX8_seek_116 rfl (by decide) (by decide) ?_
              dsimp only [List.set]
              refine az_goto (t := 73) dX8_seek_119 (by decide) ?_
              rw [nI_1]
              first
              | exact ih _ true (fun k hk => by rw [az_w_ne _ hk]; exact f3 k hk) (by rw [az_w_same]; exact h3)
              | exact ih m3 mo f3 h3
            · replace h99 := zb_z h99
              rw [if_pos (Or.inr (by simpa using h99))] at h3
              refine az_goto (t := 116) dX8_seek_102 (by decide) ?_
              refine az_iinc (w := 1) dX8_seek_116 rfl (by decide) (by decide) ?_
              dsimp only [List.set]
              refine az_goto (t := 73) dX8_seek_119 (by decide) ?_
              rw [nI_1]
              first
              | exact ih _ true (fun k hk => by rw [az_w_ne _ hk]; exact f3 k hk) (by rw [az_w_same]; exact h3)
              | exact ih m3 mo f3 h3
        · rw [Nat.sub_self, zq_rd] at h3
          subst h3
          dsimp only at hg hvv
          refine az_iload dX8_seek_73 rfl ?_
          refine az_iloadn dX8_seek_75 rfl ?_
          refine az_icmpge (t := 122) dX8_seek_76 (by decide) (fun h76 => ?_) (fun h76 => ?_)
          rotate_left 1
          · exact absurd (Int32.le_refl _) h76
          refine az_iinc (w := 1) dX8_seek_122 rfl (by decide) (by decide) ?_
          dsimp only [List.set]
          refine az_goto (t := 64) dX8_seek_125 (by decide) ?_
          rw [nI_1]
          cases mo with
          | true =>
            rw [if_pos rfl] at hg
            have := hvv.2 rfl
            exact ihf (r + 1) m3 _ (by omega) (by rcases this with q | q; cases q; omega) f3 hg
          | false =>
            rw [if_neg (by decide)] at hg
            exact fin m3 _ _ f3 hg
    refine main (2 ^ N + 1) 1 m' none (by omega) ?_ hf hR
    have := fb_ct_le (fun s => !decide (m' 403 s < 1000000)) (2 ^ N)
    unfold zq_v
    omega
end MK

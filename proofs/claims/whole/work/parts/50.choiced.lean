/-! the class's search: gathering the demands, the search, the three questions -/
def zh_T (PP : Nat → Nat → Nat) (YY : Nat → Nat) (N : Nat) (yw : Int32) (a b nd s : Nat) : Prop := (∀ i j, i < j → j < N → (i < a ∨ (i = a ∧ j < b)) → PP i j ≠ 0 → nd ≤ zn_pc (s &&& PP i j)) ∧ (yw ≠ 0 → ∀ p, p < a → p < N → nd ≤ zn_pc (s &&& YY p))
theorem zh_T_0 {PP : Nat → Nat → Nat} {YY : Nat → Nat} {N : Nat} {yw : Int32} {nd s : Nat} : zh_T PP YY N yw 0 0 nd s := ⟨fun i j _ _ h => by omega, fun _ p hp => by omega⟩
theorem zh_T_in {PP : Nat → Nat → Nat} {YY : Nat → Nat} {N : Nat} {yw : Int32} {a nd s : Nat} : zh_T PP YY N yw a (a + 1) nd s ↔ zh_T PP YY N yw a 0 nd s :=
  ⟨fun h => ⟨fun i j h1 h2 h3 => h.1 i j h1 h2 (by omega), h.2⟩, fun h => ⟨fun i j h1 h2 h3 => h.1 i j h1 h2 (by omega), h.2⟩⟩
theorem zh_T_z {PP : Nat → Nat → Nat} {YY : Nat → Nat} {N : Nat} {yw : Int32} {a b nd s : Nat} (h0 : PP a b = 0) : zh_T PP YY N yw a (b + 1) nd s ↔ zh_T PP YY N yw a b nd s := by
  refine ⟨fun h => ⟨fun i j h1 h2 h3 => h.1 i j h1 h2 (by omega), h.2⟩, fun h => ⟨fun i j h1 h2 h3 h4 => ?_, h.2⟩⟩
  by_cases e : i = a ∧ j = b
  · exact absurd (by rw [e.1, e.2]; exact h0) h4
  · exact h.1 i j h1 h2 (by omega) h4
theorem zh_T_s {PP : Nat → Nat → Nat} {YY : Nat → Nat} {N : Nat} {yw : Int32} {a b nd s : Nat} (hab : a < b) (hb : b < N) (h0 : PP a b ≠ 0) : zh_T PP YY N yw a (b + 1) nd s ↔ (zh_T PP YY N yw a b nd s ∧ nd ≤ zn_pc (s &&& PP a b)) := by
  refine ⟨fun h => ⟨⟨fun i j h1 h2 h3 => h.1 i j h1 h2 (by omega), h.2⟩, h.1 a b hab hb (by omega) h0⟩, fun h => ⟨fun i j h1 h2 h3 h4 => ?_, h.1.2⟩⟩
  by_cases e : i = a ∧ j = b
  · rw [e.1, e.2]; exact h.2
  · exact h.1.1 i j h1 h2 (by omega) h4
theorem zh_T_y0 {PP : Nat → Nat → Nat} {YY : Nat → Nat} {N : Nat} {a nd s : Nat} : zh_T PP YY N 0 (a + 1) 0 nd s ↔ zh_T PP YY N 0 a N nd s :=
  ⟨fun h => ⟨fun i j h1 h2 h3 => h.1 i j h1 h2 (by omega), fun h => absurd rfl h⟩, fun h => ⟨fun i j h1 h2 h3 => h.1 i j h1 h2 (by omega), fun h => absurd rfl h⟩⟩
theorem zh_T_y1 {PP : Nat → Nat → Nat} {YY : Nat → Nat} {N : Nat} {yw : Int32} {a nd s : Nat} (ha : a < N) (hy : yw ≠ 0) : zh_T PP YY N yw (a + 1) 0 nd s ↔ (zh_T PP YY N yw a N nd s ∧ nd ≤ zn_pc (s &&& YY a)) := by
  refine ⟨fun h => ⟨⟨fun i j h1 h2 h3 => h.1 i j h1 h2 (by omega), fun q p hp => h.2 q p (by omega)⟩, h.2 hy a (by omega) ha⟩, fun h => ⟨fun i j h1 h2 h3 => h.1.1 i j h1 h2 (by omega), fun q p hp hp2 => ?_⟩⟩
  by_cases e : p = a
  · rw [e]; exact h.2
  · exact h.1.2 q p (by omega) hp2
theorem zx_g_mem {an : Nat → Int32} {N m : Nat} : ∀ (n p g : Nat) (l : List Nat), (∀ x ∈ l, x < 2 ^ N) → ∀ x ∈ zx_g an N m n p g l, x < 2 ^ N
  | 0, _, _, _, h => h
  | n + 1, p, g, l, h => by
    rw [zx_g]
    split
    · exact zx_g_mem n (p + 1) g l h
    · refine zx_g_mem n (p + 1) _ _ (fun x hx => ?_)
      rcases List.mem_append.mp hx with q | q
      · exact h x q
      · rw [List.mem_singleton] at q; rw [q]; exact zn_lt _ N
theorem zx_gl_lt {an : Nat → Int32} {N m i : Nat} : (zx_gl an N m).getD i 0 < 2 ^ N := by
  rw [List.getD_eq_getElem?_getD]
  cases h : (zx_gl an N m)[i]? with
  | none => exact Nat.two_pow_pos N
  | some x => exact zx_g_mem N 0 0 [] (fun x hx => by cases hx) x (List.mem_of_getElem? h)
section CQ
variable {X : az_X} {d : Nat} {mem : az_M} {Q : Option az_V → az_M → Prop} {N : Nat}
theorem s_X1_gather {PP : Nat → Nat → Nat} {YY : Nat → Nat} (hn : mem 1 0 = nI N) (hN : N ≤ 16) (hP : ∀ a b, a < b → b < N → mem 375 (16 * a + b) = nI (PP a b) ∧ PP a b < 65536) (hY : ∀ p, p < N → mem 376 p = nI (YY p) ∧ YY p < 65536) (hQ : ∀ m' D n, (∀ q, q ≠ 379 → q ≠ 380 → m' q = mem q) → (∀ j, j ≠ 1 → m' 379 j = mem 379 j) → zh_D m' D n → (∀ nd s, zh_meet D n nd s ↔ zh_T PP YY N (mem 1 5) N 0 nd s) → Q none m') : az_Sp X (d + 2) mX1_gatherDemands [.inr 379, .inr 1, .inr 371] mem Q := by
  refine az_body (by decide +kernel) (Nat.le_of_ble_eq_true rfl) ?_
  show az_Ev X _ mX1_gatherDemands 0 [some (.inr 379), some (.inr 1), some (.inr 371), none, none] [] mem Q
  refine az_aloadn dX1_gatherDemands_0 rfl ?_
  refine az_iconst (v := 0) dX1_gatherDemands_1 (by decide) ?_
  refine az_puti dX1_gatherDemands_2 plX1_15 sh_379 rfl ?_
  refine az_iconst (v := 0) dX1_gatherDemands_5 (by decide) ?_
  refine az_istoren dX1_gatherDemands_6 (by decide) ?_
  dsimp only [List.set]
  skip
  refine az_up (fun a => ∀ (m' : az_M) (D : Nat → Nat) (n : Nat) (L4 : Option az_V), (∀ q, q ≠ 379 → q ≠ 380 → m' q = mem q) → (∀ j, j ≠ 1 → m' 379 j = mem 379 j) → zh_D m' D n → n ≤ 16 * a → (∀ nd s, zh_meet D n nd s ↔ zh_T PP YY N (mem 1 5) a 0 nd s) → az_Ev X (d + 2) mX1_gatherDemands 7 [some (.inr 379), some (.inr 1), some (.inr 371), some (.inl (nI a)), L4] [] m' Q) N 0 (by omega) (fun a _ ha ih m' D n L4 g1 g2 g3 g4 g5 => ?_) (fun m' D n L4 g1 g2 g3 g4 g5 => ?_) _ (fun _ => 0) 0 none (fun q h1 _ => by rw [az_w_ne _ h1]) (fun j hj => by rw [az_w_same]; unfold upd; rw [if_neg hj]) ⟨by rw [az_w_same]; simp [upd]; rfl, by omega, fun i hi => absurd hi (by omega)⟩ (by omega) (fun nd s => ⟨fun _ => zh_T_0, fun _ i hi => absurd hi (by omega)⟩)
  · have e1 : m' 1 0 = nI N := by rw [g1 1 (by decide) (by decide)]; exact hn
    refine az_iloadn dX1_gatherDemands_7 rfl ?_
    refine az_aloadn dX1_gatherDemands_8 rfl ?_
    refine az_geti dX1_gatherDemands_9 flX1_48 sh_1 rfl ?_
    rw [e1]
    refine az_icmpge (t := 84) dX1_gatherDemands_12 (by decide) (fun h12 => ?_) (fun h12 => ?_)
    · exact absurd h12 (nI_ge (by omega) (by omega))
    refine az_iloadn dX1_gatherDemands_15 rfl ?_
    refine az_iconst (v := 1) dX1_gatherDemands_16 (by decide) ?_
    refine az_iadd dX1_gatherDemands_17 ?_
    refine az_istore dX1_gatherDemands_18 (by decide) ?_
    dsimp only [List.set]
    rw [nI_1]
    refine az_up (fun b => ∀ (m' : az_M) (D : Nat → Nat) (n : Nat), (∀ q, q ≠ 379 → q ≠ 380 → m' q = mem q) → (∀ j, j ≠ 1 → m' 379 j = mem 379 j) → zh_D m' D n → n + (a + 1) ≤ 16 * a + b → (∀ nd s, zh_meet D n nd s ↔ zh_T PP YY N (mem 1 5) a b nd s) → az_Ev X (d + 2) mX1_gatherDemands 20 [some (.inr 379), some (.inr 1), some (.inr 371), some (.inl (nI a)), some (.inl (nI b))] [] m' Q) N (a + 1) (by omega) (fun b hb1 hb ih2 m' D n g1 g2 g3 g4 g5 => ?_) (fun m' D n g1 g2 g3 g4 g5 => ?_) m' D n g1 g2 g3 (by omega) (fun nd s => by rw [g5, zh_T_in])
    · have e1 : m' 1 0 = nI N := by rw [g1 1 (by decide) (by decide)]; exact hn
      have e2 : m' 375 (16 * a + b) = nI (PP a b) := by rw [g1 375 (by decide) (by decide)]; exact (hP a b (by omega) hb).1
      have e3 := (hP a b (by omega) hb).2
      refine az_iload dX1_gatherDemands_20 rfl ?_
      refine az_aloadn dX1_gatherDemands_22 rfl ?_
      refine az_geti dX1_gatherDemands_23 flX1_48 sh_1 rfl ?_
      rw [e1]
      refine az_icmpge (t := 61) dX1_gatherDemands_26 (by decide) (fun h26 => ?_) (fun h26 => ?_)
      · exact absurd h26 (nI_ge (by omega) (by omega))
      refine az_aloadn dX1_gatherDemands_29 rfl ?_
      refine az_iloadn dX1_gatherDemands_30 rfl ?_
      refine az_iload dX1_gatherDemands_31 rfl ?_
      refine az_inv2 (N := mX5_areTwins) dX1_gatherDemands_33 lkX1_69 okX5_areTwins sh_371 rfl (Nat.le_of_ble_eq_true rfl) ?_
      refine t_X5_areTwins (by omega) (by omega) ?_
      try dsimp only [az_ps]
      refine az_ifne (t := 55) dX1_gatherDemands_36 (by decide) (fun h36 => ?_) (fun h36 => ?_)
      · replace h36 := zb_n h36
        rw [e2] at h36
        have h0 : PP a b = 0 := (nI_eq (b := 0) (by omega) (by decide)).mp h36
        refine az_iinc (w := 1) dX1_gatherDemands_55 rfl (by decide) (by decide) ?_
        dsimp only [List.set]
        refine az_goto (t := 20) dX1_gatherDemands_58 (by decide) ?_
        rw [nI_1]
        exact ih2 m' D n g1 g2 g3 (by omega) (fun nd s => by rw [g5, zh_T_z h0])
      replace h36 := zb_z h36
      have h0 : PP a b ≠ 0 := fun e => h36 (by rw [e2, e]; rfl)
      refine az_aloadn dX1_gatherDemands_39 rfl ?_
      refine az_aloadn dX1_gatherDemands_40 rfl ?_
      refine az_getr dX1_gatherDemands_41 flX1_75 sh_371 rfl ?_
      refine az_bipush (v := 16) dX1_gatherDemands_44 (by decide) ?_
      refine az_pc 46 (by decide) ?_
      refine az_iloadn dX1_gatherDemands_46 rfl ?_
      refine az_imul dX1_gatherDemands_47 ?_
      refine az_iload dX1_gatherDemands_48 rfl ?_
      refine az_iadd dX1_gatherDemands_50 ?_
      refine az_iald (16 * a + b) dX1_gatherDemands_51 sh_375 (by omega) (by decide) (by simp only [az_lit, nI_add, pk_mul, Nat.add_assoc]) ?_
      rw [e2]
      refine az_inv1 (N := mX1_demand) dX1_gatherDemands_52 lkX1_78 okX1_demand sh_379 rfl (Nat.le_of_ble_eq_true rfl) ?_
      refine s_X1_demand g3 (by omega) e3 (fun m2 D2 n2 k1 k2 k3 k4 k5 => ?_)
      try dsimp only [az_ps]
      refine az_iinc (w := 1) dX1_gatherDemands_55 rfl (by decide) (by decide) ?_
      dsimp only [List.set]
      refine az_goto (t := 20) dX1_gatherDemands_58 (by decide) ?_
      rw [nI_1]
      exact ih2 m2 D2 n2 (fun q q1 q2 => by rw [k1 q q1 q2]; exact g1 q q1 q2) (fun j hj => by rw [k2 j hj]; exact g2 j hj) k3 (by omega) (fun nd s => by rw [k5, g5, zh_T_s (by omega) hb h0])
    · have e1 : m' 1 0 = nI N := by rw [g1 1 (by decide) (by decide)]; exact hn
      have e5 : m' 1 5 = mem 1 5 := by rw [g1 1 (by decide) (by decide)]
      have e2 : m' 376 a = nI (YY a) := by rw [g1 376 (by decide) (by decide)]; exact (hY a ha).1
      have e3 := (hY a ha).2
      refine az_iload dX1_gatherDemands_20 rfl ?_
      refine az_aloadn dX1_gatherDemands_22 rfl ?_
      refine az_geti dX1_gatherDemands_23 flX1_48 sh_1 rfl ?_
      rw [e1]
      refine az_icmpge (t := 61) dX1_gatherDemands_26 (by decide) (fun h26 => ?_) (fun h26 => ?_)
      rotate_left 1
      · exact absurd (Int32.le_refl _) h26
      refine az_aloadn dX1_gatherDemands_61 rfl ?_
      refine az_geti dX1_gatherDemands_62 flX1_82 sh_1 rfl ?_
      rw [e5]
      refine az_ifeq (t := 78) dX1_gatherDemands_65 (by decide) (fun h65 => ?_) (fun h65 => ?_)
      · refine az_iinc (w := 1) dX1_gatherDemands_78 rfl (by decide) (by decide) ?_
        dsimp only [List.set]
        refine az_goto (t := 7) dX1_gatherDemands_81 (by decide) ?_
        rw [nI_1]
        exact ih m' D n _ g1 g2 g3 (by omega) (fun nd s => by rw [g5, h65, zh_T_y0])
      refine az_aloadn dX1_gatherDemands_68 rfl ?_
      refine az_aloadn dX1_gatherDemands_69 rfl ?_
      refine az_getr dX1_gatherDemands_70 flX1_86 sh_371 rfl ?_
      refine az_iloadn dX1_gatherDemands_73 rfl ?_
      refine az_iald (a) dX1_gatherDemands_74 sh_376 (by omega) (by decide) (by simp only [az_lit, nI_add, pk_mul, Nat.add_assoc]) ?_
      rw [e2]
      refine az_inv1 (N := mX1_demand) dX1_gatherDemands_75 lkX1_78 okX1_demand sh_379 rfl (Nat.le_of_ble_eq_true rfl) ?_
      refine s_X1_demand g3 (by omega) e3 (fun m2 D2 n2 k1 k2 k3 k4 k5 => ?_)
      try dsimp only [az_ps]
      refine az_pc 78 (by decide) ?_
      refine az_iinc (w := 1) dX1_gatherDemands_78 rfl (by decide) (by decide) ?_
      dsimp only [List.set]
      refine az_goto (t := 7) dX1_gatherDemands_81 (by decide) ?_
      rw [nI_1]
      exact ih m2 D2 n2 _ (fun q q1 q2 => by rw [k1 q q1 q2]; exact g1 q q1 q2) (fun j hj => by rw [k2 j hj]; exact g2 j hj) k3 (by omega) (fun nd s => by rw [k5, g5, zh_T_y1 ha h65])
  · have e1 : m' 1 0 = nI N := by rw [g1 1 (by decide) (by decide)]; exact hn
    refine az_iloadn dX1_gatherDemands_7 rfl ?_
    refine az_aloadn dX1_gatherDemands_8 rfl ?_
    refine az_geti dX1_gatherDemands_9 flX1_48 sh_1 rfl ?_
    rw [e1]
    refine az_icmpge (t := 84) dX1_gatherDemands_12 (by decide) (fun h12 => ?_) (fun h12 => ?_)
    rotate_left 1
    · exact absurd (Int32.le_refl _) h12
    refine az_vret dX1_gatherDemands_84 rfl ?_
    exact hQ m' D n g1 g2 g3 g5
theorem zh_full {N : Nat} {s : Nat} (hs : s < 2 ^ N) : zh_cb 0 (2 ^ N - 1) s = true := by
  rw [zh_cb_iff]
  refine ⟨fun i hi => absurd hi (by rw [Nat.zero_testBit]; decide), fun i hi => Or.inr ?_⟩
  rw [Nat.testBit_two_pow_sub_one, decide_eq_true_eq]
  rcases Nat.lt_or_ge i N with q | q
  · exact q
  · rw [zn_high hs q] at hi; cases hi
theorem zh_cs_0 {c : Nat → Nat} {N : Nat} : zh_cs c N 0 = 0 := by
  have h := fb_sm_const 0 N
  rw [Nat.mul_zero] at h
  exact (fb_sm_cong (fun k _ => by rw [Nat.zero_testBit]; rfl)).trans h
theorem s_X1_search {PP : Nat → Nat → Nat} {YY c : Nat → Nat} {nd : Nat} {pr : Int32} {mt : Nat → Bool} (hpr : pr = 0 ∨ pr = 1) (hn : mem 1 0 = nI N) (hN : N ≤ 16) (hZ : zc_Z mem 1) (hnd : zm_need (mem 1 3) (mem 1 4) = nI nd) (hnd7 : nd ≤ 7) (hc : ∀ p, p < N → (if pr = 0 then 1 else mem 4 p) = nI (c p) ∧ 1 ≤ c p ∧ c p ≤ 1000) (hP : ∀ a b, a < b → b < N → mem 375 (16 * a + b) = nI (PP a b) ∧ PP a b < 65536) (hY : ∀ p, p < N → mem 376 p = nI (YY p) ∧ YY p < 65536) (hmt : ∀ s, mt s = true ↔ zh_T PP YY N (mem 1 5) N 0 nd s)
    (hQ : ∀ m' B S C, (∀ q, (q < 379 ∨ 381 < q) → m' q = mem q) → m' 379 7 = nI B → m' 379 8 = nI S → m' 379 9 = nI C → zh_I mt (zh_cs c N) N (fun _ => true) B S C → Q none m') : az_Sp X (d + 19) mX1_search [.inr 379, .inr 1, .inr 371, .inl pr] mem Q := by
  have hpw := zi_pow hN
  have hp0 : 0 < 2 ^ N := Nat.two_pow_pos N
  refine az_body (by decide +kernel) (Nat.le_of_ble_eq_true rfl) ?_
  show az_Ev X _ mX1_search 0 [some (.inr 379), some (.inr 1), some (.inr 371), some (.inl pr), none] [] mem Q
  refine az_aloadn dX1_search_0 rfl ?_
  refine az_aloadn dX1_search_1 rfl ?_
  refine az_inv0 (N := mX2_need) dX1_search_2 lkX1_43 okX2_need sh_1 rfl (Nat.le_of_ble_eq_true rfl) ?_
  refine s_X2_need hZ.1 ?_
  rw [hnd]
  try dsimp only [az_ps]
  refine az_puti dX1_search_5 plX1_19 sh_379 rfl ?_
  refine az_aloadn dX1_search_8 rfl ?_
  refine az_sipush (v := 1000) dX1_search_9 (by decide) ?_
  refine az_puti dX1_search_12 plX1_25 sh_379 rfl ?_
  refine az_iconst (v := 0) dX1_search_15 (by decide) ?_
  refine az_istore dX1_search_16 (by decide) ?_
  dsimp only [List.set]
  skip
  refine az_up (fun i => ∀ (m' : az_M) (lc : Nat), (∀ q, (q < 379 ∨ 381 < q) → m' q = mem q) → m' 379 2 = nI nd → m' 379 4 = nI lc → lc ≤ 1000 → (∀ p, p < i → m' 381 p = nI (c p) ∧ lc ≤ c p) → az_Ev X (d + 19) mX1_search 18 [some (.inr 379), some (.inr 1), some (.inr 371), some (.inl pr), some (.inl (nI i))] [] m' Q) N 0 (by omega) (fun i _ hi ih m' lc g1 g2 g3 g4 g5 => ?_) (fun m' lc g1 g2 g3 g4 g5 => ?_) _ 1000 (fun q hq => by rw [az_w_ne _ (by omega), az_w_ne _ (by omega)]) (by simp [az_w_same, upd]) (by simp [az_w_same, upd]; rfl) (by omega) (fun p hp => absurd hp (by omega))
  · have e1 : m' 1 0 = nI N := by rw [g1 1 (by omega)]; exact hn
    have e4 : m' 4 = mem 4 := g1 4 (by omega)
    obtain ⟨hc1, hc2, hc3⟩ := hc i hi
    have fin : ∀ v, v = nI (c i) → az_Ev X (d + 19) mX1_search 48 [some (.inr 379), some (.inr 1), some (.inr 371), some (.inl pr), some (.inl (nI i))] [.inl v, .inl (nI i), .inr 381] m' Q := by
      intro v hv
      subst hv
      refine az_iast (i) dX1_search_48 sh_381 (by omega) (by decide) (by simp only [az_lit, nI_add, pk_mul, Nat.add_assoc]) ?_
      refine az_aloadn dX1_search_49 rfl ?_
      refine az_aloadn dX1_search_50 rfl ?_
      refine az_geti dX1_search_51 flX1_25 sh_379 rfl ?_
      refine az_aloadn dX1_search_54 rfl ?_
      refine az_getr dX1_search_55 flX1_22 sh_379 rfl ?_
      refine az_iload dX1_search_58 rfl ?_
      refine az_iald (i) dX1_search_60 sh_381 (by omega) (by decide) (by simp only [az_lit, nI_add, pk_mul, Nat.add_assoc]) ?_
      rw [show az_w m' 381 i (nI (c i)) 379 4 = nI lc by rw [az_w_ne _ (by decide)]; exact g3, show az_w m' 381 i (nI (c i)) 381 i = nI (c i) by rw [az_w_same]; simp [upd]]
      refine az_min dX1_search_61 lsX1_54 (Nat.le_of_ble_eq_true rfl) (by omega) ?_
      rw [show (if nI (c i) < nI lc then nI (c i) else nI lc) = nI (if c i < lc then c i else lc) from by by_cases q : c i < lc <;> simp [q, nI_ltI (show c i < 2 ^ 31 by omega) (show lc < 2 ^ 31 by omega)]]
      refine az_puti dX1_search_64 plX1_25 sh_379 rfl ?_
      refine az_iinc (w := 1) dX1_search_67 rfl (by decide) (by decide) ?_
      dsimp only [List.set]
      refine az_goto (t := 18) dX1_search_70 (by decide) ?_
      rw [nI_1]
      have hmin : (if c i < lc then c i else lc) ≤ lc ∧ (if c i < lc then c i else lc) ≤ c i := by split <;> omega
      refine ih _ (if c i < lc then c i else lc) (fun q hq => by rw [az_w_ne _ (by omega), az_w_ne _ (by omega)]; exact g1 q hq) ?_ (by simp [az_w_same, upd]) (by omega) (fun p hp => ?_)
      · rw [az_w_same]; unfold upd; rw [if_neg (by decide), az_w_ne _ (by decide)]; exact g2
      · rw [az_w_ne _ (by decide), az_w_same]
        unfold upd
        by_cases e : p = i
        · rw [if_pos e, e]; exact ⟨rfl, hmin.2⟩
        · rw [if_neg e]
          have := g5 p (by omega)
          exact ⟨this.1, by omega⟩
    refine az_iload dX1_search_18 rfl ?_
    refine az_aloadn dX1_search_20 rfl ?_
    refine az_geti dX1_search_21 flX1_48 sh_1 rfl ?_
    rw [e1]
    refine az_icmpge (t := 73) dX1_search_24 (by decide) (fun h24 => ?_) (fun h24 => ?_)
    · exact absurd h24 (nI_ge (by omega) (by omega))
    refine az_aloadn dX1_search_27 rfl ?_
    refine az_getr dX1_search_28 flX1_22 sh_379 rfl ?_
    refine az_iload dX1_search_31 rfl ?_
    refine az_iloadn dX1_search_33 rfl ?_
    refine az_ifeq (t := 47) dX1_search_34 (by decide) (fun h34 => ?_) (fun h34 => ?_)
    · rw [if_pos h34] at hc1
      refine az_iconst (v := 1) dX1_search_47 (by decide) ?_
      exact fin _ hc1
    · rw [if_neg h34] at hc1
      refine az_aloadn dX1_search_37 rfl ?_
      refine az_getr dX1_search_38 flX1_51 sh_1 rfl ?_
      refine az_iload dX1_search_41 rfl ?_
      refine az_iald (i) dX1_search_43 sh_4 (by omega) (by decide) (by simp only [az_lit, nI_add, pk_mul, Nat.add_assoc]) ?_
      rw [e4]
      refine az_goto (t := 48) dX1_search_44 (by decide) ?_
      exact fin _ hc1
  · have e1 : m' 1 0 = nI N := by rw [g1 1 (by omega)]; exact hn
    have e15 : m' 1 5 = mem 1 5 := by rw [g1 1 (by omega)]
    refine az_iload dX1_search_18 rfl ?_
    refine az_aloadn dX1_search_20 rfl ?_
    refine az_geti dX1_search_21 flX1_48 sh_1 rfl ?_
    rw [e1]
    refine az_icmpge (t := 73) dX1_search_24 (by decide) (fun h24 => ?_) (fun h24 => ?_)
    rotate_left 1
    · exact absurd (Int32.le_refl _) h24
    refine az_aloadn dX1_search_73 rfl ?_
    refine az_aloadn dX1_search_74 rfl ?_
    refine az_aloadn dX1_search_75 rfl ?_
    refine az_inv2 (N := mX1_gatherDemands) dX1_search_76 lkX1_60 okX1_gatherDemands sh_379 rfl (Nat.le_of_ble_eq_true rfl) ?_
    refine s_X1_gather (d := d + 16) (PP := PP) (YY := YY) e1 hN (fun a b h1 h2 => by rw [g1 375 (by omega)]; exact hP a b h1 h2) (fun p hp => by rw [g1 376 (by omega)]; exact hY p hp) (fun m2 D n k1 k2 k3 k4 => ?_)
    have c1 : m2 1 0 = nI N := by rw [k1 1 (by decide) (by decide)]; exact e1
    try dsimp only [az_ps]
    refine az_aloadn dX1_search_79 rfl ?_
    refine az_ldc dX1_search_80 kcX1_64 ?_
    refine az_puti dX1_search_82 plX1_34 sh_379 rfl ?_
    refine az_aloadn dX1_search_85 rfl ?_
    refine az_iconst (v := 0) dX1_search_86 (by decide) ?_
    refine az_pc 87 (by decide) ?_
    refine az_puti dX1_search_87 plX1_37 sh_379 rfl ?_
    refine az_aloadn dX1_search_90 rfl ?_
    refine az_iconst (v := 0) dX1_search_91 (by decide) ?_
    refine az_puti dX1_search_92 plX1_40 sh_379 rfl ?_
    refine az_aloadn dX1_search_95 rfl ?_
    refine az_iconst (v := 0) dX1_search_96 (by decide) ?_
    refine az_iconst (v := 1) dX1_search_97 (by decide) ?_
    refine az_aloadn dX1_search_98 rfl ?_
    refine az_geti dX1_search_99 flX1_48 sh_1 rfl ?_
    rw [az_w_ne _ (by decide), az_w_ne _ (by decide), az_w_ne _ (by decide), c1]
    refine az_ishl dX1_search_102 ?_
    rw [zi_shl N (by omega)]
    refine az_iconst (v := 1) dX1_search_103 (by decide) ?_
    refine az_isub dX1_search_104 ?_
    rw [show (1 : Int32) = nI 1 from rfl, nI_sub (by omega)]
    refine az_iconst (v := 0) dX1_search_105 (by decide) ?_
    refine az_iconst (v := 0) dX1_search_106 (by decide) ?_
    refine az_pc 107 (by decide) ?_
    refine az_inv4 (N := mX1_decide) dX1_search_107 lkX1_65 okX1_decide sh_379 rfl (Nat.le_of_ble_eq_true rfl) ?_
    have hdec := fun Q' => s_X1_decide (Q := Q') (X := X) (d := d) (N := N) (D := D) (c := c) (n := n) (nd := nd) (lc := lc) (mt := mt) hN (fun s => by rw [hmt, k4, e15]) 16 (mem := az_w (az_w (az_w m2 379 7 1000000) 379 8 0) 379 9 0) (put := 0) (op := 2 ^ N - 1) (dp := 0) (B := 1000000) (S := 0) (C := 0) (A := fun _ => false)
    simp only [zh_cs_0] at hdec
    refine hdec _ ⟨⟨?_, k3.2.1, ?_⟩, ?_, hnd7, ?_, g4, ?_⟩ hp0 (by omega) (Nat.zero_and _) (zn_pc_le _) (by omega) ?_ ?_ ?_ ?_ (fun s h => by cases h) (fun m3 B S C f1 f7 f8 f9 hI => ?_)
    · simp [az_w_same, upd]; exact k3.1
    · intro i hi; rw [az_w_ne _ (by decide), az_w_ne _ (by decide), az_w_ne _ (by decide)]; exact k3.2.2 i hi
    · simp [az_w_same, upd]; rw [k2 2 (by decide)]; exact g2
    · simp [az_w_same, upd]; rw [k2 4 (by decide)]; exact g3
    · intro p hp
      rw [az_w_ne _ (by decide), az_w_ne _ (by decide), az_w_ne _ (by decide), k1 381 (by decide) (by decide)]
      have := g5 p hp
      have h2 := hc p hp
      exact ⟨this.1, this.2, h2.2.1, h2.2.2⟩
    · simp [az_w_same, upd]; rfl
    · simp [az_w_same, upd]; rfl
    · simp [az_w_same, upd]; rfl
    · refine ⟨fun s _ h => (by cases h), ?_, Or.inl ⟨rfl, rfl⟩⟩
      exact (fb_ct_zero.mpr (fun s _ => by simp)).symm
    try dsimp only [az_ps]
    refine az_vret dX1_search_110 rfl ?_
    refine hQ m3 B S C (fun q hq => ?_) f7 f8 f9 (zh_I_congr hI (fun s hs => by rw [zh_full hs]; rfl))
    rw [f1.1 q (by omega), az_w_ne _ (by omega), az_w_ne _ (by omega), az_w_ne _ (by omega), k1 q (by omega) (by omega)]
    exact g1 q hq
theorem s_X7_tellChoice (hQ0 : mem 379 9 = 0 → Q (some (.inl (-2))) mem) (hQ1 : mem 379 9 ≠ 0 → Q (some (.inl (mem 379 7))) (az_w mem 0 8 (mem 379 8))) : az_Sp X d mX7_tellChoice [.inr 0] mem Q := by
  refine az_body (by decide +kernel) (Nat.le_of_ble_eq_true rfl) ?_
  show az_Ev X _ mX7_tellChoice 0 [some (.inr 0)] [] mem Q
  refine az_aloadn dX7_tellChoice_0 rfl ?_
  refine az_getr dX7_tellChoice_1 flX7_40 sh_0 rfl ?_
  refine az_geti dX7_tellChoice_4 flX7_183 sh_379 rfl ?_
  refine az_ifne (t := 13) dX7_tellChoice_7 (by decide) (fun h7 => ?_) (fun h7 => ?_)
  · refine az_aloadn dX7_tellChoice_13 rfl ?_
    refine az_aloadn dX7_tellChoice_14 rfl ?_
    refine az_getr dX7_tellChoice_15 flX7_40 sh_0 rfl ?_
    refine az_geti dX7_tellChoice_18 flX7_248 sh_379 rfl ?_
    refine az_puti dX7_tellChoice_21 plX7_62 sh_0 rfl ?_
    refine az_aloadn dX7_tellChoice_24 rfl ?_
    refine az_getr dX7_tellChoice_25 flX7_40 sh_0 rfl ?_
    refine az_geti dX7_tellChoice_28 flX7_251 sh_379 rfl ?_
    refine az_iret dX7_tellChoice_31 rfl ?_
    rw [az_w_ne _ (by decide)]; exact hQ1 h7
  · refine az_bipush (v := -2) dX7_tellChoice_10 (by decide) ?_
    refine az_iret dX7_tellChoice_12 rfl ?_
    exact hQ0 h7
noncomputable def zh_mt (an : Nat → Int32) (kd : Int32) (N : Nat) (yw : Int32) (nd s : Nat) : Bool := @decide (zh_T (fun a b => zn_mask (zm_pf an a b) N) (fun p => zn_mask (zm_yf kd an p) N) N yw N 0 nd s) (Classical.propDecidable _)
theorem zh_mt_iff {an : Nat → Int32} {kd : Int32} {N : Nat} {yw : Int32} {nd s : Nat} : zh_mt an kd N yw nd s = true ↔ zh_T (fun a b => zn_mask (zm_pf an a b) N) (fun p => zn_mask (zm_yf kd an p) N) N yw N 0 nd s := @decide_eq_true_iff _ (Classical.propDecidable _)
theorem t_X1_search {c : Nat → Nat} {nd : Nat} {pr : Int32} (hpr : pr = 0 ∨ pr = 1) (hS : mem 1 0 = nI N) (hN : N ≤ 16) (hC : zC mem N) (hZ : zc_Z mem 1) (hnd : zm_need (mem 1 3) (mem 1 4) = nI nd) (hnd7 : nd ≤ 7) (hc : ∀ p, p < N → (if pr = 0 then 1 else mem 4 p) = nI (c p) ∧ 1 ≤ c p ∧ c p ≤ 1000)
    (hQ : ∀ m' B S C, (∀ q, (q < 379 ∨ 381 < q) → m' q = mem q) → m' 379 7 = nI B → m' 379 8 = nI S → m' 379 9 = nI C → C ≤ 65536 → zh_I (zh_mt (mem 374) (mem 1 1) N (mem 1 5) nd) (zh_cs c N) N (fun _ => true) B S C → Q none m') : az_Sp X (d + 19) mX1_search [.inr 379, .inr 1, .inr 371, .inl pr] mem Q := by
  refine s_X1_search (PP := fun a b => zn_mask (zm_pf (mem 374) a b) N) (YY := fun p => zn_mask (zm_yf (mem 1 1) (mem 374) p) N) (mt := zh_mt (mem 374) (mem 1 1) N (mem 1 5) nd) hpr hS hN hZ hnd hnd7 hc (fun a b h1 h2 => ⟨?_, ?_⟩) (fun p hp => ⟨?_, ?_⟩) (fun s => zh_mt_iff) (fun m' B S C h1 h2 h3 h4 h5 => hQ m' B S C h1 h2 h3 h4 ?_ h5)
  · rw [hC.2.2.2.2.1 a b h1 h2]; exact zm_mask_n _ N (by omega)
  · exact Nat.lt_of_lt_of_le (zn_lt _ N) (zi_pow hN)
  · rw [hC.2.2.2.2.2.1 p hp]; exact zm_mask_n _ N (by omega)
  · exact Nat.lt_of_lt_of_le (zn_lt _ N) (zi_pow hN)
  · rw [h5.2.1]; exact Nat.le_trans (fb_ct_le _ _) (zi_pow hN)
theorem zS_1 {mem m1 : az_M} {N : Nat} (hf : zSf mem m1 N) : m1 1 = mem 1 ∧ m1 4 = mem 4 := ⟨hf.1 1 (by decide) (by omega), hf.1 4 (by decide) (by omega)⟩
theorem s_X7_least {nd : Nat} (hS : zS mem N) (hZ : zc_Z mem 1) (hnd : zm_need (mem 1 3) (mem 1 4) = nI nd) (hnd7 : nd ≤ 7) (hQ1 : ∀ m1 m2 B S C, zSf mem m1 N → (∀ q, q ≠ 0 → (q < 379 ∨ 381 < q) → m2 q = m1 q) → (∀ j, m2 0 j = if j = 8 ∧ C ≠ 0 then nI S else m1 0 j) → zh_I (zh_mt (m1 374) (mem 1 1) N (mem 1 5) nd) (zh_cs (fun _ => 1) N) N (fun _ => true) B S C → Q (some (.inl (if C = 0 then -2 else nI B))) m2) : az_Sp X (d + 20) mX7_least [.inr 0] mem Q := by
  refine az_body (by decide +kernel) (Nat.le_of_ble_eq_true rfl) ?_
  show az_Ev X _ mX7_least 0 [some (.inr 0)] [] mem Q
  refine az_aloadn dX7_least_0 rfl ?_
  refine az_getr dX7_least_1 flX7_40 sh_0 rfl ?_
  refine az_aloadn dX7_least_4 rfl ?_
  refine az_getr dX7_least_5 flX7_12 sh_0 rfl ?_
  refine az_aloadn dX7_least_8 rfl ?_
  refine az_inv0 (N := mX7_freshSight) dX7_least_9 lkX7_131 okX7_freshSight sh_0 rfl (Nat.le_of_ble_eq_true rfl) ?_
  refine t_X7_fresh (d := d + 16) hS (fun m1 hf => ?_)
  obtain ⟨e1, e4⟩ := zS_1 hf
  try dsimp only [az_ps]
  refine az_iconst (v := 0) dX7_least_12 (by decide) ?_
  refine az_inv3 (N := mX1_search) dX7_least_13 lkX7_176 okX1_search sh_379 rfl (Nat.le_of_ble_eq_true rfl) ?_
  refine t_X1_search (c := fun _ => 1) (nd := nd) (Or.inl rfl) (by rw [e1]; exact hS.1) hS.2.1 hf.2.2.1 (by unfold zc_Z; rw [e1]; exact hZ) (by rw [e1]; exact hnd) hnd7 (fun p hp => ⟨by rw [if_pos rfl]; rfl, by omega, by omega⟩) (fun m2 B S C k1 k7 k8 k9 kc hI => ?_)
  rw [e1] at hI
  try dsimp only [az_ps]
  refine az_aloadn dX7_least_16 rfl ?_
  refine az_inv0 (N := mX7_tellChoice) dX7_least_17 lkX7_180 okX7_tellChoice sh_0 rfl (Nat.le_of_ble_eq_true rfl) ?_
  refine s_X7_tellChoice (fun h0 => ?_) (fun h0 => ?_)
  · have c0 : C = 0 := (nI_eq (b := 0) (by omega) (by decide)).mp (by rw [← k9]; exact h0)
    refine az_iret dX7_least_20 rfl ?_
    have := hQ1 m1 m2 B S C hf (fun q _ hq => k1 q hq) (fun j => by rw [if_neg (fun q => q.2 c0), k1 0 (by omega)]) hI
    rw [if_pos c0] at this
    exact this
  try dsimp only [az_ps]
  refine az_iret dX7_least_20 rfl ?_
  have c0 : C ≠ 0 := fun e => h0 (by rw [k9, e]; rfl)
  rw [k7, k8]
  have := hQ1 m1 (az_w m2 0 8 (nI S)) B S C hf (fun q q0 hq => by rw [az_w_ne _ q0]; exact k1 q hq) (fun j => by rw [az_w_same]; unfold upd; rw [k1 0 (by omega)]; by_cases e : j = 8 <;> simp [e, c0]) hI
  rw [if_neg c0] at this
  exact this
theorem s_X7_cheapest {c : Nat → Nat} {nd : Nat} (hS : zS mem N) (hZ : zc_Z mem 1) (hnd : zm_need (mem 1 3) (mem 1 4) = nI nd) (hnd7 : nd ≤ 7) (hc : ∀ p, p < N → mem 4 p = nI (c p) ∧ 1 ≤ c p ∧ c p ≤ 1000) (hQ1 : ∀ m1 m2 B S C, zSf mem m1 N → (∀ q, q ≠ 0 → (q < 379 ∨ 381 < q) → m2 q = m1 q) → (∀ j, m2 0 j = if j = 8 ∧ C ≠ 0 then nI S else m1 0 j) → zh_I (zh_mt (m1 374) (mem 1 1) N (mem 1 5) nd) (zh_cs c N) N (fun _ => true) B S C → Q (some (.inl (if C = 0 then -2 else nI B))) m2) : az_Sp X (d + 20) mX7_cheapest [.inr 0] mem Q := by
  refine az_body (by decide +kernel) (Nat.le_of_ble_eq_true rfl) ?_
  show az_Ev X _ mX7_cheapest 0 [some (.inr 0)] [] mem Q
  refine az_aloadn dX7_cheapest_0 rfl ?_
  refine az_getr dX7_cheapest_1 flX7_40 sh_0 rfl ?_
  refine az_aloadn dX7_cheapest_4 rfl ?_
  refine az_getr dX7_cheapest_5 flX7_12 sh_0 rfl ?_
  refine az_aloadn dX7_cheapest_8 rfl ?_
  refine az_inv0 (N := mX7_freshSight) dX7_cheapest_9 lkX7_131 okX7_freshSight sh_0 rfl (Nat.le_of_ble_eq_true rfl) ?_
  refine t_X7_fresh (d := d + 16) hS (fun m1 hf => ?_)
  obtain ⟨e1, e4⟩ := zS_1 hf
  try dsimp only [az_ps]
  refine az_iconst (v := 1) dX7_cheapest_12 (by decide) ?_
  refine az_inv3 (N := mX1_search) dX7_cheapest_13 lkX7_176 okX1_search sh_379 rfl (Nat.le_of_ble_eq_true rfl) ?_
  refine t_X1_search (c := c) (nd := nd) (Or.inr rfl) (by rw [e1]; exact hS.1) hS.2.1 hf.2.2.1 (by unfold zc_Z; rw [e1]; exact hZ) (by rw [e1]; exact hnd) hnd7 (fun p hp => by rw [if_neg (by decide), e4]; exact hc p hp) (fun m2 B S C k1 k7 k8 k9 kc hI => ?_)
  rw [e1] at hI
  try dsimp only [az_ps]
  refine az_aloadn dX7_cheapest_16 rfl ?_
  refine az_inv0 (N := mX7_tellChoice) dX7_cheapest_17 lkX7_180 okX7_tellChoice sh_0 rfl (Nat.le_of_ble_eq_true rfl) ?_
  refine s_X7_tellChoice (fun h0 => ?_) (fun h0 => ?_)
  · have c0 : C = 0 := (nI_eq (b := 0) (by omega) (by decide)).mp (by rw [← k9]; exact h0)
    refine az_iret dX7_cheapest_20 rfl ?_
    have := hQ1 m1 m2 B S C hf (fun q _ hq => k1 q hq) (fun j => by rw [if_neg (fun q => q.2 c0), k1 0 (by omega)]) hI
    rw [if_pos c0] at this
    exact this
  try dsimp only [az_ps]
  refine az_iret dX7_cheapest_20 rfl ?_
  have c0 : C ≠ 0 := fun e => h0 (by rw [k9, e]; rfl)
  rw [k7, k8]
  have := hQ1 m1 (az_w m2 0 8 (nI S)) B S C hf (fun q q0 hq => by rw [az_w_ne _ q0]; exact k1 q hq) (fun j => by rw [az_w_same]; unfold upd; rw [k1 0 (by omega)]; by_cases e : j = 8 <;> simp [e, c0]) hI
  rw [if_neg c0] at this
  exact this
theorem s_X7_every {nd : Nat} (hS : zS mem N) (hZ : zc_Z mem 1) (hnd : zm_need (mem 1 3) (mem 1 4) = nI nd) (hnd7 : nd ≤ 7) (hQ1 : ∀ m1 m2 B S C, zSf mem m1 N → (∀ q, (q < 379 ∨ 381 < q) → m2 q = m1 q) → zh_I (zh_mt (m1 374) (mem 1 1) N (mem 1 5) nd) (zh_cs (fun _ => 1) N) N (fun _ => true) B S C → Q (some (.inl (nI C))) m2) : az_Sp X (d + 20) mX7_every [.inr 0] mem Q := by
  refine az_body (by decide +kernel) (Nat.le_of_ble_eq_true rfl) ?_
  show az_Ev X _ mX7_every 0 [some (.inr 0)] [] mem Q
  refine az_aloadn dX7_every_0 rfl ?_
  refine az_getr dX7_every_1 flX7_40 sh_0 rfl ?_
  refine az_aloadn dX7_every_4 rfl ?_
  refine az_getr dX7_every_5 flX7_12 sh_0 rfl ?_
  refine az_aloadn dX7_every_8 rfl ?_
  refine az_inv0 (N := mX7_freshSight) dX7_every_9 lkX7_131 okX7_freshSight sh_0 rfl (Nat.le_of_ble_eq_true rfl) ?_
  refine t_X7_fresh (d := d + 16) hS (fun m1 hf => ?_)
  obtain ⟨e1, e4⟩ := zS_1 hf
  try dsimp only [az_ps]
  refine az_iconst (v := 0) dX7_every_12 (by decide) ?_
  refine az_inv3 (N := mX1_search) dX7_every_13 lkX7_176 okX1_search sh_379 rfl (Nat.le_of_ble_eq_true rfl) ?_
  refine t_X1_search (c := fun _ => 1) (nd := nd) (Or.inl rfl) (by rw [e1]; exact hS.1) hS.2.1 hf.2.2.1 (by unfold zc_Z; rw [e1]; exact hZ) (by rw [e1]; exact hnd) hnd7 (fun p hp => ⟨by rw [if_pos rfl]; rfl, by omega, by omega⟩) (fun m2 B S C k1 k7 k8 k9 kc hI => ?_)
  rw [e1] at hI
  try dsimp only [az_ps]
  refine az_aloadn dX7_every_16 rfl ?_
  refine az_getr dX7_every_17 flX7_40 sh_0 rfl ?_
  refine az_geti dX7_every_20 flX7_183 sh_379 rfl ?_
  refine az_iret dX7_every_23 rfl ?_
  rw [k9]; exact hQ1 m1 m2 B S C hf k1 hI
theorem s_X7_seek {x : Int32} (hS : zS mem N) (hQ0 : ¬ (N ≤ 10 ∧ (0 ≤ x ∧ x < nI (2 ^ N))) → Q (some (.inl (-1))) mem) (hQ1 : (N ≤ 10 ∧ (0 ≤ x ∧ x < nI (2 ^ N))) → ∀ m1 m2 R, zSf mem m1 N → (∀ k, k ≠ 389 → k ≠ 390 → m2 k = m1 k) → (∀ s, s < 2 ^ N → R s = zq_0c s) → Q (some (.inl (zq_goc (zx_gl (m1 374) N) (zq_nx (mem 2) N) N x.toNatClampNeg (2 ^ N) 1 R))) m2) : az_Sp X (d + 4) mX7_seek [.inr 0, .inl x] mem Q := by
  refine az_body (by decide +kernel) (Nat.le_of_ble_eq_true rfl) ?_
  show az_Ev X _ mX7_seek 0 [some (.inr 0), some (.inl x)] [] mem Q
  refine az_aloadn dX7_seek_0 rfl ?_
  refine az_getr dX7_seek_1 flX7_12 sh_0 rfl ?_
  refine az_iloadn dX7_seek_4 rfl ?_
  refine az_inv1 (N := mX2_isSet) dX7_seek_5 lkX7_152 okX2_isSet sh_1 rfl (Nat.le_of_ble_eq_true rfl) ?_
  refine s_X2_isSet ?_
  rw [hS.1, zi_shl N (by have := hS.2.1; omega)]
  try dsimp only [az_ps]
  refine az_ifeq (t := 23) dX7_seek_8 (by decide) (fun h8 => ?_) (fun h8 => ?_)
  · replace h8 := zb_z h8
    refine az_iconst (v := -1) dX7_seek_23 (by decide) ?_
    refine az_iret dX7_seek_24 rfl ?_
    exact hQ0 (fun q => h8 q.2)
  replace h8 := zb_n h8
  refine az_aloadn dX7_seek_11 rfl ?_
  refine az_getr dX7_seek_12 flX7_12 sh_0 rfl ?_
  refine az_geti dX7_seek_15 flX7_66 sh_1 rfl ?_
  refine az_bipush (v := 10) dX7_seek_18 (by decide) ?_
  rw [hS.1]
  refine az_icmple (t := 25) dX7_seek_20 (by decide) (fun h20 => ?_) (fun h20 => ?_)
  rotate_left 1
  · refine az_iconst (v := -1) dX7_seek_23 (by decide) ?_
    refine az_iret dX7_seek_24 rfl ?_
    exact hQ0 (fun q => h20 ((nI_leI (b := 10) (by omega) (by decide)).mpr q.1))
  have hN10 : N ≤ 10 := (nI_leI (b := 10) (by have := hS.2.1; omega) (by decide)).mp h20
  refine az_aloadn dX7_seek_25 rfl ?_
  refine az_getr dX7_seek_26 flX7_54 sh_0 rfl ?_
  refine az_iloadn dX7_seek_29 rfl ?_
  refine az_pc 30 (by decide) ?_
  refine az_aloadn dX7_seek_30 rfl ?_
  refine az_inv0 (N := mX7_freshSight) dX7_seek_31 lkX7_131 okX7_freshSight sh_0 rfl (Nat.le_of_ble_eq_true rfl) ?_
  refine t_X7_fresh (d := d) hS (fun m1 hf => ?_)
  obtain ⟨xn, xe⟩ := zi_of (N := 2 ^ N) (Nat.lt_of_le_of_lt (zi_pow hS.2.1) (by decide)) h8
  try dsimp only [az_ps]
  rw [xe]
  refine az_inv2 (N := mX4_fewestRounds) dX7_seek_34 lkX7_226 okX4_fewestRounds sh_388 rfl (Nat.le_of_ble_eq_true rfl) ?_
  refine s_X4_fewestRounds (gl := zx_gl (m1 374) N) (len := mem 2) hf.2.2.1.1 hN10 (fun m hm => ?_) (fun p hp => ?_) xn (fun m2 R k1 k2 => ?_)
  · have := hf.2.2.1.2.2.2.2.2.2 m hm
    refine ⟨this.1, zx_gl_len hS.2.1, fun i hi => ⟨this.2 i hi, ?_⟩⟩
    exact Nat.lt_of_lt_of_le (zx_gl_lt (i := i)) (zi_pow hS.2.1)
  · rw [hf.2.2.1.2.1 p hp, hf.1 2 (by decide) (by omega)]; exact zm_mask_n _ N (by have := hS.2.1; omega)
  try dsimp only [az_ps]
  refine az_iret dX7_seek_37 rfl ?_
  exact hQ1 ⟨hN10, h8⟩ m1 m2 R hf k1 k2
end CQ

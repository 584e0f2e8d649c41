/-! marks asked one after another: the class's places -/
theorem zm_mask_0 {f : Nat → Bool} {N : Nat} (hN : N ≤ 16) : zm_mask f N = 0 ↔ ∀ i, i < N → f i = false := by
  have hp := zi_pow hN
  have hl := zn_lt f N
  rw [zm_mask_n f N (by omega)]
  have h0 : nI (zn_mask f N) = 0 ↔ zn_mask f N = 0 := nI_eq (b := 0) (by omega) (by decide)
  rw [h0]
  constructor
  · intro h i hi
    have := zn_bit f i N
    rw [h, Nat.zero_testBit] at this
    simpa [hi] using this.symm
  · intro h
    refine zn_zero hl (fun i hi => ?_)
    rw [zn_bit, h i hi]; simp
theorem zt_tw_iff {an : Nat → Int32} {N a b : Nat} (hN : N ≤ 16) : zt_tw an N a b = true ↔ ∀ m, m < N → an (16 * m + a) = an (16 * m + b) := by
  unfold zt_tw
  rw [decide_eq_true_eq, zm_mask_0 hN]
  unfold zm_pf
  constructor
  · intro h m hm; have := h m hm; simpa using this
  · intro h m hm; simp [h m hm]
theorem zt_tw_symm {an : Nat → Int32} {N a b : Nat} (hN : N ≤ 16) : zt_tw an N a b = zt_tw an N b a := by
  rw [Bool.eq_iff_iff, zt_tw_iff hN, zt_tw_iff hN]
  exact ⟨fun h m hm => (h m hm).symm, fun h m hm => (h m hm).symm⟩
def za_pl (an : Nat → Int32) (N : Nat) (h : Nat → Nat) (np p : Nat) : Nat := (zf_in (fun i => zt_tw an N (h i) p) np 0).getD np
def za_F (an : Nat → Int32) (N x cur np : Nat) (h pl ch cc : Nat → Nat) : Prop :=
  np ≤ fb_ct (fun i => x.testBit i) cur ∧ (∀ i, i < np → h i < cur ∧ x.testBit (h i) = true ∧ pl (h i) = i) ∧ (∀ p, p < cur → x.testBit p = true → pl p < np ∧ zt_tw an N (h (pl p)) p = true) ∧ (∀ i j, i < j → j < np → zt_tw an N (h i) (h j) = false) ∧ ∀ P : Nat, fb_sm (fun i => if P.testBit i then ch i else 0) np = fb_sm (fun p => if x.testBit p && P.testBit (pl p) then cc p else 0) cur
theorem za_F_skip {an : Nat → Int32} {N x cur np : Nat} {h pl ch cc : Nat → Nat} (hF : za_F an N x cur np h pl ch cc) (hx : x.testBit cur = false) : za_F an N x (cur + 1) np h pl ch cc := by
  obtain ⟨h1, h2, h3, h4, h5⟩ := hF
  refine ⟨?_, fun i hi => ⟨by have := (h2 i hi).1; omega, (h2 i hi).2⟩, fun p hp hxp => ?_, h4, fun P => ?_⟩
  · rw [fb_ct_succ]; omega
  · by_cases e : p = cur
    · rw [e, hx] at hxp; cases hxp
    · exact h3 p (by omega) hxp
  · rw [fb_sm_succ, hx, h5 P]; simp
theorem za_F_old {an : Nat → Int32} {N x cur np i : Nat} {h pl ch cc : Nat → Nat} (hF : za_F an N x cur np h pl ch cc) (hx : x.testBit cur = true) (hi : i < np) (ht : zt_tw an N (h i) cur = true) : za_F an N x (cur + 1) np h (fun p => if p = cur then i else pl p) (fun j => if j = i then ch i + cc cur else ch j) cc := by
  obtain ⟨h1, h2, h3, h4, h5⟩ := hF
  refine ⟨?_, fun j hj => ⟨by have := (h2 j hj).1; omega, (h2 j hj).2.1, ?_⟩, fun p hp hxp => ?_, h4, fun P => ?_⟩
  · rw [fb_ct_succ]; omega
  · have := (h2 j hj).1
    dsimp only
    rw [if_neg (by omega)]; exact (h2 j hj).2.2
  · by_cases e : p = cur
    · simp only [if_pos e]; rw [e]; exact ⟨hi, ht⟩
    · simp only [if_neg e]; exact h3 p (by omega) hxp
  · rw [fb_sm_succ]
    have e1 : fb_sm (fun p => if (x.testBit p && P.testBit (if p = cur then i else pl p)) = true then cc p else 0) cur = fb_sm (fun p => if x.testBit p && P.testBit (pl p) then cc p else 0) cur := fb_sm_cong (fun k hk => by rw [if_neg (by omega : ¬ k = cur)])
    rw [e1, ← h5 P]
    have e2 := fb_sm_upd (fun j => if P.testBit j then ch j else 0) (if P.testBit i then ch i + cc cur else 0) hi
    have e3 : fb_sm (fun j => if P.testBit j = true then (if j = i then ch i + cc cur else ch j) else 0) np = fb_sm (fun k => if k = i then (if P.testBit i then ch i + cc cur else 0) else (fun j => if P.testBit j then ch j else 0) k) np := fb_sm_cong (fun k _ => by by_cases e : k = i <;> simp [e])
    rw [e3]
    simp only [hx, Bool.true_and, if_true]
    cases hb : P.testBit i
    · simp only [hb, Bool.false_eq_true, if_false, Nat.add_zero] at e2 ⊢; exact e2
    · simp only [hb, if_true] at e2 ⊢; omega
theorem za_F_new {an : Nat → Int32} {N x cur np : Nat} {h pl ch cc : Nat → Nat} (hN : N ≤ 16) (hF : za_F an N x cur np h pl ch cc) (hx : x.testBit cur = true) (ht : ∀ i, i < np → zt_tw an N (h i) cur = false) : za_F an N x (cur + 1) (np + 1) (fun j => if j = np then cur else h j) (fun p => if p = cur then np else pl p) (fun j => if j = np then cc cur else ch j) cc := by
  obtain ⟨h1, h2, h3, h4, h5⟩ := hF
  refine ⟨?_, fun j hj => ?_, fun p hp hxp => ?_, fun i j hi hj => ?_, fun P => ?_⟩
  · rw [fb_ct_succ, hx]; simp; omega
  · by_cases e : j = np
    · simp only [if_pos e]; exact ⟨by omega, hx, by simp [e]⟩
    · simp only [if_neg e]
      have := h2 j (by omega)
      exact ⟨by omega, this.2.1, by rw [if_neg (by omega)]; exact this.2.2⟩
  · by_cases e : p = cur
    · simp only [if_pos e, if_true]; exact ⟨by omega, by rw [e]; exact (zt_tw_iff hN).mpr (fun _ _ => rfl)⟩
    · simp only [if_neg e]
      have := h3 p (by omega) hxp
      rw [if_neg (by omega)]
      exact ⟨by omega, this.2⟩
  · by_cases e : j = np
    · simp only [if_pos e]; rw [if_neg (by omega)]; exact ht i (by omega)
    · simp only [if_neg e]; rw [if_neg (by omega)]; exact h4 i j hi (by omega)
  · rw [fb_sm_succ, fb_sm_succ]
    have e1 : fb_sm (fun p => if (x.testBit p && P.testBit (if p = cur then np else pl p)) = true then cc p else 0) cur = fb_sm (fun p => if x.testBit p && P.testBit (pl p) then cc p else 0) cur := fb_sm_cong (fun k hk => by rw [if_neg (by omega : ¬ k = cur)])
    have e2 : fb_sm (fun i => if P.testBit i = true then (if i = np then cc cur else ch i) else 0) np = fb_sm (fun i => if P.testBit i then ch i else 0) np := fb_sm_cong (fun k hk => by rw [if_neg (by omega : ¬ k = np)])
    rw [e1, e2, h5 P]; simp [hx]
section CR
variable {X : az_X} {d : Nat} {mem : az_M} {Q : Option az_V → az_M → Prop} {N : Nat}
theorem u_X5_areTwins {an : Nat → Int32} {a b : Nat} (hN : N ≤ 16) (ha : a < N) (hb : b < N) (hP : ∀ a b, a < b → b < N → mem 375 (16 * a + b) = zm_mask (zm_pf an a b) N) (hQ : Q (some (.inl (if zt_tw an N a b = true then 1 else 0))) mem) : az_Sp X (d + 1) mX5_areTwins [.inr 371, .inl (nI a), .inl (nI b)] mem Q := by
  refine s_X5_areTwins (by omega) (by omega) ?_
  have : (a = b ∨ mem 375 (if a < b then 16 * a + b else 16 * b + a) = 0) ↔ zt_tw an N a b = true := by
    rcases Nat.lt_trichotomy a b with q | q | q
    · rw [if_pos q, hP a b q hb]
      unfold zt_tw
      rw [decide_eq_true_eq]
      exact ⟨fun h => h.resolve_left (by omega), Or.inr⟩
    · exact ⟨fun _ => (zt_tw_iff hN).mpr (fun m _ => by rw [q]), fun _ => Or.inl q⟩
    · rw [if_neg (by omega), hP b a q ha, zt_tw_symm hN]
      unfold zt_tw
      rw [decide_eq_true_eq]
      exact ⟨fun h => h.resolve_left (by omega), Or.inr⟩
  simp only [this]
  exact hQ
theorem s_X0_placeOf {an : Nat → Int32} {h : Nat → Nat} {np p : Nat} (hN : N ≤ 16) (hnp : mem 382 3 = nI np) (hnp2 : np ≤ 12) (hh : ∀ i, i < np → mem 384 i = nI (h i) ∧ h i < N) (hp : p < N) (hP : ∀ a b, a < b → b < N → mem 375 (16 * a + b) = zm_mask (zm_pf an a b) N) (hQ : Q (some (.inl (nI (za_pl an N h np p)))) mem) : az_Sp X (d + 2) mX0_placeOf [.inr 382, .inl (nI p), .inr 371] mem Q := by
  unfold za_pl at hQ
  refine az_body (by decide +kernel) (Nat.le_of_ble_eq_true rfl) ?_
  show az_Ev X _ mX0_placeOf 0 [some (.inr 382), some (.inl (nI p)), some (.inr 371), none] [] mem Q
  refine az_iconst (v := 0) dX0_placeOf_0 (by decide) ?_
  refine az_istoren dX0_placeOf_1 (by decide) ?_
  dsimp only [List.set]
  skip
  refine az_up (fun i => zf_in (fun i => zt_tw an N (h i) p) (np - i) i = zf_in (fun i => zt_tw an N (h i) p) np 0 → az_Ev X (d + 2) mX0_placeOf 2 [some (.inr 382), some (.inl (nI p)), some (.inr 371), some (.inl (nI i))] [] mem Q) np 0 (by omega) (fun i _ hi ih he => ?_) (fun he => ?_) rfl
  · rw [zs_sub hi] at he
    have hhi := hh i hi
    refine az_iloadn dX0_placeOf_2 rfl ?_
    refine az_aloadn dX0_placeOf_3 rfl ?_
    refine az_geti dX0_placeOf_4 flX0_21 sh_382 rfl ?_
    rw [hnp]
    refine az_icmpge (t := 32) dX0_placeOf_7 (by decide) (fun h7 => ?_) (fun h7 => ?_)
    · exact absurd h7 (nI_ge (by omega) (by omega))
    refine az_aloadn dX0_placeOf_10 rfl ?_
    refine az_aloadn dX0_placeOf_11 rfl ?_
    refine az_getr dX0_placeOf_12 flX0_15 sh_382 rfl ?_
    refine az_iloadn dX0_placeOf_15 rfl ?_
    refine az_iald (i) dX0_placeOf_16 sh_384 (by omega) (by decide) (by simp only [az_lit, nI_add, pk_mul, Nat.add_assoc]) ?_
    rw [hhi.1]
    refine az_iloadn dX0_placeOf_17 rfl ?_
    refine az_inv2 (N := mX5_areTwins) dX0_placeOf_18 lkX0_56 okX5_areTwins sh_371 rfl (Nat.le_of_ble_eq_true rfl) ?_
    refine u_X5_areTwins (an := an) hN hhi.2 hp hP ?_
    try dsimp only [az_ps]
    refine az_ifeq (t := 26) dX0_placeOf_21 (by decide) (fun h21 => ?_) (fun h21 => ?_)
    · replace h21 := zb_z h21
      rw [zf_in_f (f := fun i => zt_tw an N (h i) p) (by simpa using h21)] at he
      refine az_iinc (w := 1) dX0_placeOf_26 rfl (by decide) (by decide) ?_
      dsimp only [List.set]
      refine az_goto (t := 2) dX0_placeOf_29 (by decide) ?_
      rw [nI_1]; exact ih he
    · replace h21 := zb_n h21
      rw [zf_in_t (f := fun i => zt_tw an N (h i) p) h21] at he
      refine az_iloadn dX0_placeOf_24 rfl ?_
      refine az_iret dX0_placeOf_25 rfl ?_
      rw [← he] at hQ; exact hQ
  · rw [Nat.sub_self] at he
    rw [← he] at hQ
    refine az_iloadn dX0_placeOf_2 rfl ?_
    refine az_aloadn dX0_placeOf_3 rfl ?_
    refine az_geti dX0_placeOf_4 flX0_21 sh_382 rfl ?_
    rw [hnp]
    refine az_icmpge (t := 32) dX0_placeOf_7 (by decide) (fun h7 => ?_) (fun h7 => ?_)
    rotate_left 1
    · exact absurd (Int32.le_refl _) h7
    refine az_aloadn dX0_placeOf_32 rfl ?_
    refine az_geti dX0_placeOf_33 flX0_21 sh_382 rfl ?_
    rw [hnp]
    refine az_iret dX0_placeOf_36 rfl ?_
    exact hQ
theorem s_X0_findPlaces {an : Nat → Int32} {x : Nat} {cc : Nat → Nat} (hn : mem 1 0 = nI N) (hN : N ≤ 16) (hx : x < 2 ^ N) (hx12 : zn_pc x ≤ 12) (hcc : ∀ p, p < N → mem 5 p = nI (cc p)) (hP : ∀ a b, a < b → b < N → mem 375 (16 * a + b) = zm_mask (zm_pf an a b) N) (hQ : ∀ m' np h pl ch, (∀ k, k ≠ 382 → k ≠ 384 → k ≠ 385 → m' k = mem k) → (∀ j, j ≠ 3 → m' 382 j = mem 382 j) → m' 382 3 = nI np → np ≤ 12 → (∀ i, i < np → m' 384 i = nI (h i) ∧ m' 385 i = nI (ch i)) → za_F an N x N np h pl ch cc → Q none m') : az_Sp X (d + 3) mX0_findPlaces [.inr 382, .inl (nI x), .inr 1, .inr 371] mem Q := by
  have hpw := zi_pow hN
  refine az_body (by decide +kernel) (Nat.le_of_ble_eq_true rfl) ?_
  show az_Ev X _ mX0_findPlaces 0 [some (.inr 382), some (.inl (nI x)), some (.inr 1), some (.inr 371), none, none] [] mem Q
  refine az_aloadn dX0_findPlaces_0 rfl ?_
  refine az_iconst (v := 0) dX0_findPlaces_1 (by decide) ?_
  refine az_puti dX0_findPlaces_2 plX0_21 sh_382 rfl ?_
  refine az_iconst (v := 0) dX0_findPlaces_5 (by decide) ?_
  refine az_istore dX0_findPlaces_6 (by decide) ?_
  dsimp only [List.set]
  skip
  refine az_up (fun p => ∀ (m' : az_M) (np : Nat) (h pl ch : Nat → Nat) (L5 : Option az_V), (∀ k, k ≠ 382 → k ≠ 384 → k ≠ 385 → m' k = mem k) → (∀ j, j ≠ 3 → m' 382 j = mem 382 j) → m' 382 3 = nI np → np ≤ 12 → (∀ i, i < np → m' 384 i = nI (h i) ∧ m' 385 i = nI (ch i)) → za_F an N x p np h pl ch cc → az_Ev X (d + 3) mX0_findPlaces 8 [some (.inr 382), some (.inl (nI x)), some (.inr 1), some (.inr 371), some (.inl (nI p)), L5] [] m' Q) N 0 (by omega) (fun p _ hp ih m' np h pl ch L5 g1 g2 g3 g4 g5 gF => ?_) (fun m' np h pl ch L5 g1 g2 g3 g4 g5 gF => ?_) _ 0 (fun _ => 0) (fun _ => 0) (fun _ => 0) none (fun k h1 _ _ => by rw [az_w_ne _ h1]) (fun j hj => by rw [az_w_same]; unfold upd; rw [if_neg hj]) (by rw [az_w_same]; simp [upd]; rfl) (by omega) (fun i hi => absurd hi (by omega)) ⟨Nat.zero_le _, fun i hi => absurd hi (by omega), fun p hp => absurd hp (by omega), fun i j _ hj => absurd hj (by omega), fun _ => rfl⟩
  · have e1 : m' 1 0 = nI N := by rw [g1 1 (by decide) (by decide) (by decide)]; exact hn
    have e5 : m' 5 p = nI (cc p) := by rw [g1 5 (by decide) (by decide) (by decide)]; exact hcc p hp
    have hP' : ∀ a b, a < b → b < N → m' 375 (16 * a + b) = zm_mask (zm_pf an a b) N := by rw [g1 375 (by decide) (by decide) (by decide)]; exact hP
    have hlt : x.testBit p = true → np < 12 := fun hb => by
      have h1 := gF.1
      have h2 : fb_ct (fun i => x.testBit i) (p + 1) ≤ fb_ct (fun i => x.testBit i) N := fb_ct_mono _ (by omega)
      rw [← zn_pc_ext hN hx, fb_ct_succ, hb] at h2
      simp at h2
      omega
    have hpl := zf_in_spec (f := fun i => zt_tw an N (h i) p) np 0
    refine az_iload dX0_findPlaces_8 rfl ?_
    refine az_aloadn dX0_findPlaces_10 rfl ?_
    refine az_geti dX0_findPlaces_11 flX0_38 sh_1 rfl ?_
    rw [e1]
    refine az_icmpge (t := 113) dX0_findPlaces_14 (by decide) (fun h14 => ?_) (fun h14 => ?_)
    · exact absurd h14 (nI_ge (by omega) (by omega))
    refine az_iloadn dX0_findPlaces_17 rfl ?_
    refine az_iload dX0_findPlaces_18 rfl ?_
    refine az_ishr dX0_findPlaces_20 ?_
    refine az_iconst (v := 1) dX0_findPlaces_21 (by decide) ?_
    refine az_iand dX0_findPlaces_22 ?_
    refine az_iconst (v := 1) dX0_findPlaces_23 (by decide) ?_
    refine az_icmpne (t := 107) dX0_findPlaces_24 (by decide) (fun h24 => ?_) (fun h24 => ?_)
    · have hb : x.testBit p = false := by
        cases q : x.testBit p with
        | false => rfl
        | true => exact absurd ((zb_bit1 (by omega) (by omega)).mpr q) h24
      refine az_iinc (w := 1) dX0_findPlaces_107 rfl (by decide) (by decide) ?_
      dsimp only [List.set]
      refine az_goto (t := 8) dX0_findPlaces_110 (by decide) ?_
      rw [nI_1]
      exact ih m' np h pl ch _ g1 g2 g3 g4 g5 (za_F_skip gF hb)
    have hb : x.testBit p = true := (zb_bit1 (by omega) (by omega)).mp h24
    refine az_aloadn dX0_findPlaces_27 rfl ?_
    refine az_iload dX0_findPlaces_28 rfl ?_
    refine az_pc 30 (by decide) ?_
    refine az_aloadn dX0_findPlaces_30 rfl ?_
    refine az_inv2 (N := mX0_placeOf) dX0_findPlaces_31 lkX0_51 okX0_placeOf sh_382 rfl (Nat.le_of_ble_eq_true rfl) ?_
    refine s_X0_placeOf (an := an) (h := h) hN g3 g4 (fun i hi => ⟨(g5 i hi).1, by have := (gF.2.1 i hi).1; omega⟩) hp hP' ?_
    unfold za_pl
    try dsimp only [az_ps]
    refine az_istore dX0_findPlaces_34 (by decide) ?_
    dsimp only [List.set]
    refine az_iload dX0_findPlaces_36 rfl ?_
    refine az_aloadn dX0_findPlaces_38 rfl ?_
    refine az_geti dX0_findPlaces_39 flX0_21 sh_382 rfl ?_
    rw [g3]
    refine az_icmpne (t := 81) dX0_findPlaces_42 (by decide) (fun h42 => ?_) (fun h42 => ?_)
    · cases hz : zf_in (fun i => zt_tw an N (h i) p) np 0 with
      | none => rw [hz] at h42; exact absurd rfl h42
      | some i =>
      rw [hz] at hpl
      simp only [Option.getD_some]
      have hi : i < np := by have := hpl.2.1; omega
      refine az_iload dX0_findPlaces_81 rfl ?_
      refine az_aloadn dX0_findPlaces_83 rfl ?_
      refine az_geti dX0_findPlaces_84 flX0_21 sh_382 rfl ?_
      first | rw [g3] | rw [show az_w (az_w (az_w m' 384 np (nI p)) 385 np 0) 382 3 (nI (np + 1)) 382 3 = nI (np + 1) by rw [az_w_same]; simp [upd]]
      refine az_icmpge (t := 107) dX0_findPlaces_87 (by decide) (fun h87 => ?_) (fun h87 => ?_)
      · exact absurd h87 (nI_ge (by omega) (by omega))
      refine az_aloadn dX0_findPlaces_90 rfl ?_
      refine az_getr dX0_findPlaces_91 flX0_18 sh_382 rfl ?_
      refine az_iload dX0_findPlaces_94 rfl ?_
      refine az_dup2 dX0_findPlaces_96 ?_
      refine az_iald ((by first | exact i | exact np)) dX0_findPlaces_97 sh_385 (by omega) (by decide) rfl ?_
      refine az_aloadn dX0_findPlaces_98 rfl ?_
      refine az_getr dX0_findPlaces_99 flX0_55 sh_1 rfl ?_
      refine az_iload dX0_findPlaces_102 rfl ?_
      refine az_iald (p) dX0_findPlaces_104 sh_5 (by omega) (by decide) (by simp only [az_lit, nI_add, pk_mul, Nat.add_assoc]) ?_
      refine az_pc 105 (by decide) ?_
      first | rw [show m' (1 + 4) p = nI (cc p) from e5, (g5 i hi).2] | rw [show az_w (az_w (az_w m' 384 np (nI p)) 385 np 0) 382 3 (nI (np + 1)) 385 np = nI 0 by rw [az_w_ne _ (by decide), az_w_same]; simp [upd]; rfl, show az_w (az_w (az_w m' 384 np (nI p)) 385 np 0) 382 3 (nI (np + 1)) 5 p = nI (cc p) by rw [az_w_ne _ (by decide), az_w_ne _ (by decide), az_w_ne _ (by decide)]; exact e5]
      refine az_iadd dX0_findPlaces_105 ?_
      rw [nI_add]
      try rw [Nat.zero_add]
      refine az_iast ((by first | exact i | exact np)) dX0_findPlaces_106 sh_385 (by omega) (by decide) rfl ?_
      refine az_iinc (w := 1) dX0_findPlaces_107 rfl (by decide) (by decide) ?_
      dsimp only [List.set]
      refine az_goto (t := 8) dX0_findPlaces_110 (by decide) ?_
      rw [nI_1]
      first
      | (refine ih _ np h (fun q => if q = p then i else pl q) (fun j => if j = i then ch i + cc p else ch j) _ (fun k h1 h2 h3 => by rw [az_w_ne _ h3]; exact g1 k h1 h2 h3) (fun j hj => by rw [az_w_ne _ (by decide)]; exact g2 j hj) (by rw [az_w_ne _ (by decide)]; exact g3) g4 (fun j hj => ⟨?_, ?_⟩) (za_F_old gF hb hi hpl.2.2.1)
         · rw [az_w_ne _ (by decide)]; exact (g5 j hj).1
         · rw [az_w_same]; unfold upd; by_cases e : j = i
           · simp only [if_pos e]
           · simp only [if_neg e]; exact (g5 j hj).2)
      | (refine ih _ (np + 1) (fun j => if j = np then p else h j) (fun q => if q = p then np else pl q) (fun j => if j = np then cc p else ch j) _ (fun k h1 h2 h3 => by rw [az_w_ne _ h3, az_w_ne _ h1, az_w_ne _ h3, az_w_ne _ h2]; exact g1 k h1 h2 h3) (fun j hj => by rw [az_w_ne _ (by decide), az_w_same]; unfold upd; rw [if_neg hj, az_w_ne _ (by decide), az_w_ne _ (by decide)]; exact g2 j hj) (by rw [az_w_ne _ (by decide), az_w_same]; simp [upd]) (by omega) (fun j hj => ⟨?_, ?_⟩) (za_F_new hN gF hb (fun i hi => hpl i (by omega) (by omega)))
         · rw [az_w_ne _ (by decide), az_w_ne _ (by decide), az_w_ne _ (by decide), az_w_same]; unfold upd; by_cases e : j = np
           · simp only [if_pos e]
           · simp only [if_neg e]; exact (g5 j (by omega)).1
         · rw [az_w_same]; unfold upd; by_cases e : j = np
           · simp only [if_pos e]
           · simp only [if_neg e]; rw [az_w_ne _ (by decide), az_w_same]; unfold upd; rw [if_neg e, az_w_ne _ (by decide)]; exact (g5 j (by omega)).2)
    · cases hz : zf_in (fun i => zt_tw an N (h i) p) np 0 with
      | some i => rw [hz] at h42 hpl; exact absurd ((nI_eq (by have := hpl.2.1; simp; omega) (by omega)).mp h42) (by have := hpl.2.1; simp; omega)
      | none =>
      rw [hz] at hpl
      simp only [Option.getD_none]
      have hnp := hlt hb
      refine az_aloadn dX0_findPlaces_45 rfl ?_
      refine az_geti dX0_findPlaces_46 flX0_21 sh_382 rfl ?_
      refine az_bipush (v := 12) dX0_findPlaces_49 (by decide) ?_
      rw [g3]
      refine az_icmpge (t := 81) dX0_findPlaces_51 (by decide) (fun h51 => ?_) (fun h51 => ?_)
      · exact absurd h51 (nI_ge (b := 12) hnp (by decide))
      refine az_aloadn dX0_findPlaces_54 rfl ?_
      refine az_getr dX0_findPlaces_55 flX0_15 sh_382 rfl ?_
      refine az_iload dX0_findPlaces_58 rfl ?_
      refine az_iload dX0_findPlaces_60 rfl ?_
      refine az_iast (np) dX0_findPlaces_62 sh_384 (by omega) (by decide) (by simp only [az_lit, nI_add, pk_mul, Nat.add_assoc]) ?_
      refine az_aloadn dX0_findPlaces_63 rfl ?_
      refine az_getr dX0_findPlaces_64 flX0_18 sh_382 rfl ?_
      refine az_iload dX0_findPlaces_67 rfl ?_
      refine az_iconst (v := 0) dX0_findPlaces_69 (by decide) ?_
      refine az_pc 70 (by decide) ?_
      refine az_iast (np) dX0_findPlaces_70 sh_385 (by omega) (by decide) (by simp only [az_lit, nI_add, pk_mul, Nat.add_assoc]) ?_
      refine az_aloadn dX0_findPlaces_71 rfl ?_
      refine az_dup dX0_findPlaces_72 ?_
      refine az_geti dX0_findPlaces_73 flX0_21 sh_382 rfl ?_
      refine az_iconst (v := 1) dX0_findPlaces_76 (by decide) ?_
      rw [show az_w (az_w m' 384 np (nI p)) 385 np 0 382 3 = nI np by rw [az_w_ne _ (by decide), az_w_ne _ (by decide)]; exact g3]
      refine az_iadd dX0_findPlaces_77 ?_
      rw [nI_1]
      refine az_puti dX0_findPlaces_78 plX0_21 sh_382 rfl ?_
      refine az_iload dX0_findPlaces_81 rfl ?_
      refine az_aloadn dX0_findPlaces_83 rfl ?_
      refine az_geti dX0_findPlaces_84 flX0_21 sh_382 rfl ?_
      first | rw [g3] | rw [show az_w (az_w (az_w m' 384 np (nI p)) 385 np 0) 382 3 (nI (np + 1)) 382 3 = nI (np + 1) by rw [az_w_same]; simp [upd]]
      refine az_icmpge (t := 107) dX0_findPlaces_87 (by decide) (fun h87 => ?_) (fun h87 => ?_)
      · exact absurd h87 (nI_ge (by omega) (by omega))
      refine az_aloadn dX0_findPlaces_90 rfl ?_
      refine az_getr dX0_findPlaces_91 flX0_18 sh_382 rfl ?_
      refine az_iload dX0_findPlaces_94 rfl ?_
      refine az_pc 96 (by decide) ?_
      refine az_dup2 dX0_findPlaces_96 ?_
      refine az_iald ((by first | exact i | exact np)) dX0_findPlaces_97 sh_385 (by omega) (by decide) rfl ?_
      refine az_aloadn dX0_findPlaces_98 rfl ?_
      refine az_getr dX0_findPlaces_99 flX0_55 sh_1 rfl ?_
      refine az_iload dX0_findPlaces_102 rfl ?_
      refine az_iald (p) dX0_findPlaces_104 sh_5 (by omega) (by decide) (by simp only [az_lit, nI_add, pk_mul, Nat.add_assoc]) ?_
      first | rw [show m' (1 + 4) p = nI (cc p) from e5, (g5 i hi).2] | rw [show az_w (az_w (az_w m' 384 np (nI p)) 385 np 0) 382 3 (nI (np + 1)) 385 np = nI 0 by rw [az_w_ne _ (by decide), az_w_same]; simp [upd]; rfl, show az_w (az_w (az_w m' 384 np (nI p)) 385 np 0) 382 3 (nI (np + 1)) 5 p = nI (cc p) by rw [az_w_ne _ (by decide), az_w_ne _ (by decide), az_w_ne _ (by decide)]; exact e5]
      refine az_iadd dX0_findPlaces_105 ?_
      rw [nI_add]
      try rw [Nat.zero_add]
      refine az_iast ((by first | exact i | exact np)) dX0_findPlaces_106 sh_385 (by omega) (by decide) rfl ?_
      refine az_iinc (w := 1) dX0_findPlaces_107 rfl (by decide) (by decide) ?_
      dsimp only [List.set]
      refine az_goto (t := 8) dX0_findPlaces_110 (by decide) ?_
      rw [nI_1]
      first
      | (refine ih _ np h (fun q => if q = p then i else pl q) (fun j => if j = i then ch i + cc p else ch j) _ (fun k h1 h2 h3 => by rw [az_w_ne _ h3]; exact g1 k h1 h2 h3) (fun j hj => by rw [az_w_ne _ (by decide)]; exact g2 j hj) (by rw [az_w_ne _ (by decide)]; exact g3) g4 (fun j hj => ⟨?_, ?_⟩) (za_F_old gF hb hi hpl.2.2.1)
         · rw [az_w_ne _ (by decide)]; exact (g5 j hj).1
         · rw [az_w_same]; unfold upd; by_cases e : j = i
           · simp only [if_pos e]
           · simp only [if_neg e]; exact (g5 j hj).2)
      | (refine ih _ (np + 1) (fun j => if j = np then p else h j) (fun q => if q = p then np else pl q) (fun j => if j = np then cc p else ch j) _ (fun k h1 h2 h3 => by rw [az_w_ne _ h3, az_w_ne _ h1, az_w_ne _ h3, az_w_ne _ h2]; exact g1 k h1 h2 h3) (fun j hj => by rw [az_w_ne _ (by decide), az_w_same]; unfold upd; rw [if_neg hj, az_w_ne _ (by decide), az_w_ne _ (by decide)]; exact g2 j hj) (by rw [az_w_ne _ (by decide), az_w_same]; simp [upd]) (by omega) (fun j hj => ⟨?_, ?_⟩) (za_F_new hN gF hb (fun i hi => hpl i (by omega) (by omega)))
         · rw [az_w_ne _ (by decide), az_w_ne _ (by decide), az_w_ne _ (by decide), az_w_same]; unfold upd; by_cases e : j = np
           · simp only [if_pos e]
           · simp only [if_neg e]; exact (g5 j (by omega)).1
         · rw [az_w_same]; unfold upd; by_cases e : j = np
           · simp only [if_pos e]
           · simp only [if_neg e]; rw [az_w_ne _ (by decide), az_w_same]; unfold upd; rw [if_neg e, az_w_ne _ (by decide)]; exact (g5 j (by omega)).2)
  · have e1 : m' 1 0 = nI N := by rw [g1 1 (by decide) (by decide) (by decide)]; exact hn
    refine az_iload dX0_findPlaces_8 rfl ?_
    refine az_aloadn dX0_findPlaces_10 rfl ?_
    refine az_geti dX0_findPlaces_11 flX0_38 sh_1 rfl ?_
    rw [e1]
    refine az_icmpge (t := 113) dX0_findPlaces_14 (by decide) (fun h14 => ?_) (fun h14 => ?_)
    rotate_left 1
    · exact absurd (Int32.le_refl _) h14
    refine az_vret dX0_findPlaces_113 rfl ?_
    exact hQ m' np h pl ch g1 g2 g3 g4 g5 gF
end CR

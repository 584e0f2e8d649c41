/-! marks asked one after another: the class's groups, its start -/
def zg_b (h : Nat → Nat) (np g : Nat) : Nat := zn_mask (fun i => g.testBit (h i)) np
def zg_pl (h : Nat → Nat) (np : Nat) (gl : List Nat) : List Nat := (gl.map (zg_b h np)).filter (fun b => !decide (b = 0))
theorem zg_pl_succ {h : Nat → Nat} {np : Nat} {gl : List Nat} {i : Nat} (hi : i < gl.length) : zg_pl h np (gl.take (i + 1)) = if zg_b h np (gl.getD i 0) = 0 then zg_pl h np (gl.take i) else zg_pl h np (gl.take i) ++ [zg_b h np (gl.getD i 0)] := by
  unfold zg_pl
  rw [List.take_add_one, List.map_append, List.filter_append, List.getD_eq_getElem?_getD, List.getElem?_eq_getElem hi]
  simp only [Option.toList, List.map_cons, List.map_nil, Option.getD_some]
  by_cases e : zg_b h np gl[i] = 0 <;> simp [e]
theorem zg_pl_len {h : Nat → Nat} {np : Nat} (gl : List Nat) : (zg_pl h np gl).length ≤ gl.length := by
  unfold zg_pl
  exact Nat.le_trans (List.length_filter_le _ _) (by rw [List.length_map]; exact Nat.le_refl _)
theorem zg_pl_lt {h : Nat → Nat} {np : Nat} {gl : List Nat} {i : Nat} : (zg_pl h np gl).getD i 0 < 2 ^ np := by
  rw [List.getD_eq_getElem?_getD]
  cases hz : (zg_pl h np gl)[i]? with
  | none => exact Nat.two_pow_pos np
  | some x =>
    have := List.mem_of_getElem? hz
    unfold zg_pl at this
    obtain ⟨g, -, hg⟩ := List.mem_map.mp (List.mem_filter.mp this).1
    simp only [Option.getD_some]
    rw [← hg]; exact zn_lt _ np
theorem zg_getD_ap {l : List Nat} {b i : Nat} : (l ++ [b]).getD i 0 = if i < l.length then l.getD i 0 else if i = l.length then b else 0 := by
  rw [List.getD_eq_getElem?_getD, List.getD_eq_getElem?_getD]
  by_cases h : i < l.length
  · rw [if_pos h, List.getElem?_append_left h]
  · rw [if_neg h, List.getElem?_append_right (by omega)]
    by_cases e : i = l.length
    · simp [e]
    · rw [if_neg e, List.getElem?_eq_none (by simp; omega)]; rfl
def za_E (mem : az_M) (np N : Nat) (sm : Int32) (ch : Nat → Nat) (G : Nat → List Nat) : Prop := mem 382 3 = nI np ∧ np ≤ 12 ∧ mem 382 4 = nI N ∧ mem 382 5 = sm ∧ (∀ i, i < np → mem 385 i = nI (ch i)) ∧ ∀ m, m < N → mem 387 m = nI (G m).length ∧ (G m).length ≤ 16 ∧ ∀ i, i < (G m).length → mem 386 (16 * m + i) = nI ((G m).getD i 0) ∧ (G m).getD i 0 < 2 ^ np
section CS
variable {X : az_X} {d : Nat} {mem : az_M} {Q : Option az_V → az_M → Prop} {N : Nat}
theorem s_X0_groupPlaces {h : Nat → Nat} {np m : Nat} {gl : List Nat} (hnp : mem 382 3 = nI np) (hnp2 : np ≤ 12) (hh : ∀ i, i < np → mem 384 i = nI (h i) ∧ h i < 16) (hm : m < 16) (hl : mem 378 m = nI gl.length) (hl2 : gl.length ≤ 16) (hg : ∀ i, i < gl.length → mem 377 (16 * m + i) = nI (gl.getD i 0) ∧ gl.getD i 0 < 65536) (hQ : ∀ m', (∀ k, k ≠ 386 → k ≠ 387 → m' k = mem k) → (∀ i, (i < 16 * m ∨ 16 * m + 16 ≤ i) → m' 386 i = mem 386 i) → (∀ i, i < (zg_pl h np gl).length → m' 386 (16 * m + i) = nI ((zg_pl h np gl).getD i 0)) → (∀ i, m' 387 i = if i = m then nI (zg_pl h np gl).length else mem 387 i) → Q none m') : az_Sp X d mX0_groupPlaces [.inr 382, .inl (nI m), .inr 371] mem Q := by
  refine az_body (by decide +kernel) (Nat.le_of_ble_eq_true rfl) ?_
  show az_Ev X _ mX0_groupPlaces 0 [some (.inr 382), some (.inl (nI m)), some (.inr 371), none, none, none, none, none] [] mem Q
  refine az_iconst (v := 0) dX0_groupPlaces_0 (by decide) ?_
  refine az_istoren dX0_groupPlaces_1 (by decide) ?_
  dsimp only [List.set]
  refine az_iconst (v := 0) dX0_groupPlaces_2 (by decide) ?_
  refine az_istore dX0_groupPlaces_3 (by decide) ?_
  dsimp only [List.set]
  skip
  refine az_up (fun g => ∀ (m' : az_M) (L5 L6 L7 : Option az_V), (∀ k, k ≠ 386 → m' k = mem k) → (∀ i, (i < 16 * m ∨ 16 * m + 16 ≤ i) → m' 386 i = mem 386 i) → (∀ i, i < (zg_pl h np (gl.take g)).length → m' 386 (16 * m + i) = nI ((zg_pl h np (gl.take g)).getD i 0)) → az_Ev X d mX0_groupPlaces 5 [some (.inr 382), some (.inl (nI m)), some (.inr 371), some (.inl (nI (zg_pl h np (gl.take g)).length)), some (.inl (nI g)), L5, L6, L7] [] m' Q) gl.length 0 (by omega) (fun g _ hgl ih m' L5 L6 L7 g1 g2 g3 => ?_) (fun m' L5 L6 L7 g1 g2 g3 => ?_) mem none none none (fun _ _ => rfl) (fun _ _ => rfl) (fun i hi => absurd hi (by simp [zg_pl]))
  · have e1 : m' 378 m = nI gl.length := by rw [g1 378 (by decide)]; exact hl
    have e2 : m' 377 (16 * m + g) = nI (gl.getD g 0) := by rw [g1 377 (by decide)]; exact (hg g hgl).1
    have e3 := (hg g hgl).2
    have e4 : m' 382 3 = nI np := by rw [g1 382 (by decide)]; exact hnp
    have hlen := zg_pl_len (h := h) (np := np) (gl.take g)
    rw [List.length_take] at hlen
    have hsu := zg_pl_succ (h := h) (np := np) hgl
    refine az_iload dX0_groupPlaces_5 rfl ?_
    refine az_aloadn dX0_groupPlaces_7 rfl ?_
    refine az_getr dX0_groupPlaces_8 flX0_62 sh_371 rfl ?_
    refine az_iloadn dX0_groupPlaces_11 rfl ?_
    refine az_iald (m) dX0_groupPlaces_12 sh_378 (by omega) (by decide) (by simp only [az_lit, nI_add, pk_mul, Nat.add_assoc]) ?_
    rw [e1]
    refine az_icmpge (t := 98) dX0_groupPlaces_13 (by decide) (fun h13 => ?_) (fun h13 => ?_)
    · exact absurd h13 (nI_ge (by omega) (by omega))
    refine az_aloadn dX0_groupPlaces_16 rfl ?_
    refine az_getr dX0_groupPlaces_17 flX0_63 sh_371 rfl ?_
    refine az_bipush (v := 16) dX0_groupPlaces_20 (by decide) ?_
    refine az_iloadn dX0_groupPlaces_22 rfl ?_
    refine az_imul dX0_groupPlaces_23 ?_
    refine az_iload dX0_groupPlaces_24 rfl ?_
    refine az_iadd dX0_groupPlaces_26 ?_
    refine az_pc 27 (by decide) ?_
    refine az_iald (16 * m + g) dX0_groupPlaces_27 sh_377 (by omega) (by decide) (by simp only [az_lit, nI_add, pk_mul, Nat.add_assoc]) ?_
    rw [e2]
    refine az_istore dX0_groupPlaces_28 (by decide) ?_
    dsimp only [List.set]
    refine az_iconst (v := 0) dX0_groupPlaces_30 (by decide) ?_
    refine az_istore dX0_groupPlaces_31 (by decide) ?_
    dsimp only [List.set]
    refine az_iconst (v := 0) dX0_groupPlaces_33 (by decide) ?_
    refine az_istore dX0_groupPlaces_34 (by decide) ?_
    dsimp only [List.set]
    skip
    generalize hG : gl.getD g 0 = G at e3 hsu ⊢
    refine az_up (fun i => az_Ev X d mX0_groupPlaces 36 [some (.inr 382), some (.inl (nI m)), some (.inr 371), some (.inl (nI (zg_pl h np (gl.take g)).length)), some (.inl (nI g)), some (.inl (nI G)), some (.inl (nI (zn_mask (fun i => G.testBit (h i)) i))), some (.inl (nI i))] [] m' Q) np 0 (by omega) (fun i _ hi ih2 => ?_) ?_
    · have e5 : m' 384 i = nI (h i) := by rw [g1 384 (by decide)]; exact (hh i hi).1
      have e6 := (hh i hi).2
      have e7 := zn_lt (fun i => G.testBit (h i)) i
      refine az_iload dX0_groupPlaces_36 rfl ?_
      refine az_aloadn dX0_groupPlaces_38 rfl ?_
      refine az_geti dX0_groupPlaces_39 flX0_21 sh_382 rfl ?_
      rw [e4]
      refine az_icmpge (t := 71) dX0_groupPlaces_42 (by decide) (fun h42 => ?_) (fun h42 => ?_)
      · exact absurd h42 (nI_ge (by omega) (by omega))
      refine az_iload dX0_groupPlaces_45 rfl ?_
      refine az_iload dX0_groupPlaces_47 rfl ?_
      refine az_aloadn dX0_groupPlaces_49 rfl ?_
      refine az_getr dX0_groupPlaces_50 flX0_15 sh_382 rfl ?_
      refine az_iload dX0_groupPlaces_53 rfl ?_
      refine az_iald (i) dX0_groupPlaces_55 sh_384 (by omega) (by decide) (by simp only [az_lit, nI_add, pk_mul, Nat.add_assoc]) ?_
      rw [e5]
      refine az_ishr dX0_groupPlaces_56 ?_
      refine az_iconst (v := 1) dX0_groupPlaces_57 (by decide) ?_
      refine az_iand dX0_groupPlaces_58 ?_
      refine az_pc 59 (by decide) ?_
      rw [zb_bit (by omega) (by omega)]
      refine az_iload dX0_groupPlaces_59 rfl ?_
      refine az_ishl dX0_groupPlaces_61 ?_
      rw [show ((if G.testBit (h i) = true then (1 : Int32) else 0) <<< (nI i &&& 31)) = nI (if G.testBit (h i) then 2 ^ i else 0) from by cases G.testBit (h i) <;> first | (simp [nI]; done) | exact zb_shl1 i (by omega)]
      refine az_ior dX0_groupPlaces_62 ?_
      rw [fa_or, show zn_mask (fun i => G.testBit (h i)) i ||| (if G.testBit (h i) then 2 ^ i else 0) = zn_mask (fun i => G.testBit (h i)) (i + 1) from by rw [zn_mask]; cases G.testBit (h i) <;> simp [zn_or e7]]
      refine az_istore dX0_groupPlaces_63 (by decide) ?_
      dsimp only [List.set]
      refine az_iinc (w := 1) dX0_groupPlaces_65 rfl (by decide) (by decide) ?_
      dsimp only [List.set]
      refine az_goto (t := 36) dX0_groupPlaces_68 (by decide) ?_
      rw [nI_1]; exact ih2
    · have e7 := zn_lt (fun i => G.testBit (h i)) np
      have e8 : 2 ^ np ≤ 2 ^ 12 := Nat.pow_le_pow_right (by decide) hnp2
      have hz : nI (zn_mask (fun i => G.testBit (h i)) np) = 0 ↔ zg_b h np G = 0 := nI_eq (b := 0) (by omega) (by decide)
      refine az_iload dX0_groupPlaces_36 rfl ?_
      refine az_aloadn dX0_groupPlaces_38 rfl ?_
      refine az_geti dX0_groupPlaces_39 flX0_21 sh_382 rfl ?_
      rw [e4]
      refine az_icmpge (t := 71) dX0_groupPlaces_42 (by decide) (fun h42 => ?_) (fun h42 => ?_)
      rotate_left 1
      · exact absurd (Int32.le_refl _) h42
      refine az_iload dX0_groupPlaces_71 rfl ?_
      refine az_ifeq (t := 92) dX0_groupPlaces_73 (by decide) (fun h73 => ?_) (fun h73 => ?_)
      · rw [if_pos (hz.mp h73)] at hsu
        refine az_iinc (w := 1) dX0_groupPlaces_92 rfl (by decide) (by decide) ?_
        dsimp only [List.set]
        refine az_goto (t := 5) dX0_groupPlaces_95 (by decide) ?_
        rw [nI_1]
        have := ih m' (some (.inl (nI G))) (some (.inl (nI (zn_mask (fun i => G.testBit (h i)) np)))) (some (.inl (nI np))) g1 g2 (by rw [hsu]; exact g3)
        rw [hsu] at this
        exact this
      rw [if_neg (fun q => h73 (hz.mpr q))] at hsu
      refine az_aloadn dX0_groupPlaces_76 rfl ?_
      refine az_getr dX0_groupPlaces_77 flX0_32 sh_382 rfl ?_
      refine az_bipush (v := 16) dX0_groupPlaces_80 (by decide) ?_
      refine az_iloadn dX0_groupPlaces_82 rfl ?_
      refine az_imul dX0_groupPlaces_83 ?_
      refine az_iloadn dX0_groupPlaces_84 rfl ?_
      refine az_iadd dX0_groupPlaces_85 ?_
      refine az_pc 86 (by decide) ?_
      refine az_iload dX0_groupPlaces_86 rfl ?_
      refine az_iast (16 * m + (zg_pl h np (gl.take g)).length) dX0_groupPlaces_88 sh_386 (by omega) (by decide) (by simp only [az_lit, nI_add, pk_mul, Nat.add_assoc]) ?_
      refine az_iinc (w := 1) dX0_groupPlaces_89 rfl (by decide) (by decide) ?_
      dsimp only [List.set]
      refine az_iinc (w := 1) dX0_groupPlaces_92 rfl (by decide) (by decide) ?_
      dsimp only [List.set]
      refine az_goto (t := 5) dX0_groupPlaces_95 (by decide) ?_
      rw [nI_1, nI_1]
      have := ih (az_w m' 386 (16 * m + (zg_pl h np (gl.take g)).length) (nI (zn_mask (fun i => G.testBit (h i)) np))) (some (.inl (nI G))) (some (.inl (nI (zn_mask (fun i => G.testBit (h i)) np)))) (some (.inl (nI np))) (fun k hk => by rw [az_w_ne _ hk]; exact g1 k hk) (fun i hi => by rw [az_w_same]; unfold upd; rw [if_neg (by omega)]; exact g2 i hi) (by
        rw [hsu]
        intro i hi
        rw [List.length_append, List.length_singleton] at hi
        rw [az_w_same, zg_getD_ap]
        unfold upd
        by_cases e : i = (zg_pl h np (gl.take g)).length
        · rw [if_pos (by rw [e]), if_neg (by omega), if_pos e]; rfl
        · rw [if_neg (by omega), if_pos (by omega)]; exact g3 i (by omega))
      rw [hsu, List.length_append, List.length_singleton] at this
      exact this
  · have e1 : m' 378 m = nI gl.length := by rw [g1 378 (by decide)]; exact hl
    rw [List.take_length] at g3 ⊢
    refine az_iload dX0_groupPlaces_5 rfl ?_
    refine az_aloadn dX0_groupPlaces_7 rfl ?_
    refine az_getr dX0_groupPlaces_8 flX0_62 sh_371 rfl ?_
    refine az_iloadn dX0_groupPlaces_11 rfl ?_
    refine az_iald (m) dX0_groupPlaces_12 sh_378 (by omega) (by decide) (by simp only [az_lit, nI_add, pk_mul, Nat.add_assoc]) ?_
    rw [e1]
    refine az_icmpge (t := 98) dX0_groupPlaces_13 (by decide) (fun h13 => ?_) (fun h13 => ?_)
    rotate_left 1
    · exact absurd (Int32.le_refl _) h13
    refine az_aloadn dX0_groupPlaces_98 rfl ?_
    refine az_getr dX0_groupPlaces_99 flX0_35 sh_382 rfl ?_
    refine az_iloadn dX0_groupPlaces_102 rfl ?_
    refine az_iloadn dX0_groupPlaces_103 rfl ?_
    refine az_iast (m) dX0_groupPlaces_104 sh_387 (by omega) (by decide) (by simp only [az_lit, nI_add, pk_mul, Nat.add_assoc]) ?_
    refine az_vret dX0_groupPlaces_105 rfl ?_
    refine hQ _ (fun k h1 h2 => by rw [az_w_ne _ h2]; exact g1 k h1) (fun i hi => by rw [az_w_ne _ (by decide)]; exact g2 i hi) (fun i hi => by rw [az_w_ne _ (by decide)]; exact g3 i hi) (fun i => by rw [az_w_same, g1 387 (by decide)]; rfl)
theorem s_X0_chanceOf {np P : Nat} {ch : Nat → Nat} (hnp : mem 382 3 = nI np) (hnp2 : np ≤ 12) (hch : ∀ i, i < np → mem 385 i = nI (ch i)) (hP : P < 65536) (hQ : Q (some (.inl (nI (fb_sm (fun i => if P.testBit i then ch i else 0) np)))) mem) : az_Sp X d mX0_chanceOf [.inr 382, .inl (nI P)] mem Q := by
  refine az_body (by decide +kernel) (Nat.le_of_ble_eq_true rfl) ?_
  show az_Ev X _ mX0_chanceOf 0 [some (.inr 382), some (.inl (nI P)), none, none] [] mem Q
  refine az_iconst (v := 0) dX0_chanceOf_0 (by decide) ?_
  refine az_istoren dX0_chanceOf_1 (by decide) ?_
  dsimp only [List.set]
  refine az_iconst (v := 0) dX0_chanceOf_2 (by decide) ?_
  refine az_istoren dX0_chanceOf_3 (by decide) ?_
  dsimp only [List.set]
  skip
  refine az_up (fun i => az_Ev X d mX0_chanceOf 4 [some (.inr 382), some (.inl (nI P)), some (.inl (nI (fb_sm (fun i => if P.testBit i then ch i else 0) i))), some (.inl (nI i))] [] mem Q) np 0 (by omega) (fun i _ hi ih => ?_) ?_
  · refine az_iloadn dX0_chanceOf_4 rfl ?_
    refine az_aloadn dX0_chanceOf_5 rfl ?_
    refine az_geti dX0_chanceOf_6 flX0_21 sh_382 rfl ?_
    rw [hnp]
    refine az_icmpge (t := 33) dX0_chanceOf_9 (by decide) (fun h9 => ?_) (fun h9 => ?_)
    · exact absurd h9 (nI_ge (by omega) (by omega))
    refine az_iloadn dX0_chanceOf_12 rfl ?_
    refine az_iloadn dX0_chanceOf_13 rfl ?_
    refine az_iloadn dX0_chanceOf_14 rfl ?_
    refine az_ishr dX0_chanceOf_15 ?_
    refine az_iconst (v := 1) dX0_chanceOf_16 (by decide) ?_
    refine az_iand dX0_chanceOf_17 ?_
    rw [zb_bit (by omega) (by omega)]
    refine az_aloadn dX0_chanceOf_18 rfl ?_
    refine az_getr dX0_chanceOf_19 flX0_18 sh_382 rfl ?_
    refine az_iloadn dX0_chanceOf_22 rfl ?_
    refine az_pc 23 (by decide) ?_
    refine az_iald (i) dX0_chanceOf_23 sh_385 (by omega) (by decide) (by simp only [az_lit, nI_add, pk_mul, Nat.add_assoc]) ?_
    rw [hch i hi]
    refine az_imul dX0_chanceOf_24 ?_
    rw [show (if P.testBit i = true then (1 : Int32) else 0) * nI (ch i) = nI (if P.testBit i then ch i else 0) from by cases P.testBit i <;> simp [nI]]
    refine az_iadd dX0_chanceOf_25 ?_
    rw [nI_add]
    refine az_istoren dX0_chanceOf_26 (by decide) ?_
    dsimp only [List.set]
    refine az_iinc (w := 1) dX0_chanceOf_27 rfl (by decide) (by decide) ?_
    dsimp only [List.set]
    refine az_goto (t := 4) dX0_chanceOf_30 (by decide) ?_
    rw [nI_1]; exact ih
  · refine az_iloadn dX0_chanceOf_4 rfl ?_
    refine az_aloadn dX0_chanceOf_5 rfl ?_
    refine az_geti dX0_chanceOf_6 flX0_21 sh_382 rfl ?_
    rw [hnp]
    refine az_icmpge (t := 33) dX0_chanceOf_9 (by decide) (fun h9 => ?_) (fun h9 => ?_)
    rotate_left 1
    · exact absurd (Int32.le_refl _) h9
    refine az_iloadn dX0_chanceOf_33 rfl ?_
    refine az_iret dX0_chanceOf_34 rfl ?_
    exact hQ
theorem s_X0_prepare {an : Nat → Int32} {x : Nat} {cc : Nat → Nat} {sm : Int32} (hsm : sm = 0 ∨ sm = 1) (hn : mem 1 0 = nI N) (hN : N ≤ 16) (hx : x < 2 ^ N) (hx12 : zn_pc x ≤ 12) (hcc : ∀ p, p < N → mem 5 p = nI (cc p)) (hP : ∀ a b, a < b → b < N → mem 375 (16 * a + b) = zm_mask (zm_pf an a b) N) (hG : ∀ m, m < N → mem 378 m = nI (zx_gl an N m).length ∧ ∀ i, i < (zx_gl an N m).length → mem 377 (16 * m + i) = nI ((zx_gl an N m).getD i 0)) (hQ : ∀ m' np h pl ch, (∀ k, (k < 382 ∨ 387 < k) → m' k = mem k) → za_E m' np N sm ch (fun m => zg_pl h np (zx_gl an N m)) → (∀ s, s < 2 ^ np → m' 383 s = -1) → za_F an N x N np h pl ch cc → Q none m') : az_Sp X (d + 4) mX0_prepare [.inr 382, .inl (nI x), .inr 1, .inr 371, .inl sm] mem Q := by
  have hpw := zi_pow hN
  refine az_body (by decide +kernel) (Nat.le_of_ble_eq_true rfl) ?_
  show az_Ev X _ mX0_prepare 0 [some (.inr 382), some (.inl (nI x)), some (.inr 1), some (.inr 371), some (.inl sm), none, none] [] mem Q
  refine az_aloadn dX0_prepare_0 rfl ?_
  refine az_iload dX0_prepare_1 rfl ?_
  refine az_putz dX0_prepare_3 plX0_28 sh_382 rfl (by first | exact Or.inl rfl | exact Or.inr rfl | assumption) ?_
  refine az_aloadn dX0_prepare_6 rfl ?_
  refine az_aloadn dX0_prepare_7 rfl ?_
  refine az_geti dX0_prepare_8 flX0_38 sh_1 rfl ?_
  rw [az_w_ne _ (by decide), hn]
  refine az_puti dX0_prepare_11 plX0_25 sh_382 rfl ?_
  refine az_aloadn dX0_prepare_14 rfl ?_
  refine az_iloadn dX0_prepare_15 rfl ?_
  refine az_aloadn dX0_prepare_16 rfl ?_
  refine az_aloadn dX0_prepare_17 rfl ?_
  refine az_inv3 (N := mX0_findPlaces) dX0_prepare_18 lkX0_43 okX0_findPlaces sh_382 rfl (Nat.le_of_ble_eq_true rfl) ?_
  refine s_X0_findPlaces (d := d) (an := an) (cc := cc) ?_ hN hx hx12 (fun p hp => ?_) (fun a b h1 h2 => ?_) (fun m1 np h pl ch f1 f2 f3 f4 f5 hF => ?_)
  · rw [az_w_ne _ (by decide), az_w_ne _ (by decide)]; exact hn
  · rw [az_w_ne _ (by decide), az_w_ne _ (by decide)]; exact hcc p hp
  · rw [az_w_ne _ (by decide), az_w_ne _ (by decide)]; exact hP a b h1 h2
  try dsimp only [az_ps]
  refine az_iconst (v := 0) dX0_prepare_21 (by decide) ?_
  refine az_pc 22 (by decide) ?_
  refine az_istore dX0_prepare_22 (by decide) ?_
  dsimp only [List.set]
  skip
  have q4 : m1 382 4 = nI N := by rw [f2 4 (by decide)]; simp [az_w_same, upd]
  have q5 : m1 382 5 = sm := by rw [f2 5 (by decide)]; simp [az_w_same, upd]
  have qf : ∀ k, k ≠ 382 → k ≠ 384 → k ≠ 385 → m1 k = mem k := fun k h1 h2 h3 => by rw [f1 k h1 h2 h3, az_w_ne _ h1, az_w_ne _ h1]
  refine az_up (fun m => ∀ (m' : az_M) (L6 : Option az_V), (∀ k, k ≠ 386 → k ≠ 387 → m' k = m1 k) → (∀ q, q < m → m' 387 q = nI (zg_pl h np (zx_gl an N q)).length ∧ ∀ i, i < (zg_pl h np (zx_gl an N q)).length → m' 386 (16 * q + i) = nI ((zg_pl h np (zx_gl an N q)).getD i 0)) → az_Ev X (d + 4) mX0_prepare 24 [some (.inr 382), some (.inl (nI x)), some (.inr 1), some (.inr 371), some (.inl sm), some (.inl (nI m)), L6] [] m' Q) N 0 (by omega) (fun m _ hm ih m' L6 g1 g2 => ?_) (fun m' L6 g1 g2 => ?_) m1 none (fun _ _ _ => rfl) (fun q hq => absurd hq (by omega))
  · have e4 : m' 382 4 = nI N := by rw [g1 382 (by decide) (by decide)]; exact q4
    have e3 : m' 382 3 = nI np := by rw [g1 382 (by decide) (by decide)]; exact f3
    have hGm := hG m hm
    have hlen := zx_gl_len (an := an) (m := m) hN
    refine az_iload dX0_prepare_24 rfl ?_
    refine az_aloadn dX0_prepare_26 rfl ?_
    refine az_geti dX0_prepare_27 flX0_25 sh_382 rfl ?_
    rw [e4]
    refine az_icmpge (t := 46) dX0_prepare_30 (by decide) (fun h30 => ?_) (fun h30 => ?_)
    · exact absurd h30 (nI_ge (by omega) (by omega))
    refine az_aloadn dX0_prepare_33 rfl ?_
    refine az_iload dX0_prepare_34 rfl ?_
    refine az_aloadn dX0_prepare_36 rfl ?_
    refine az_inv2 (N := mX0_groupPlaces) dX0_prepare_37 lkX0_47 okX0_groupPlaces sh_382 rfl (Nat.le_of_ble_eq_true rfl) ?_
    refine s_X0_groupPlaces (h := h) (gl := zx_gl an N m) e3 f4 (fun i hi => ⟨by rw [g1 384 (by decide) (by decide)]; exact (f5 i hi).1, by have := (hF.2.1 i hi).1; omega⟩) (by omega) (by rw [g1 378 (by decide) (by decide), qf 378 (by decide) (by decide) (by decide)]; exact hGm.1) hlen (fun i hi => ⟨by rw [g1 377 (by decide) (by decide), qf 377 (by decide) (by decide) (by decide)]; exact hGm.2 i hi, Nat.lt_of_lt_of_le zx_gl_lt hpw⟩) (fun m2 k1 k2 k3 k4 => ?_)
    try dsimp only [az_ps]
    refine az_iinc (w := 1) dX0_prepare_40 rfl (by decide) (by decide) ?_
    dsimp only [List.set]
    refine az_goto (t := 24) dX0_prepare_43 (by decide) ?_
    rw [nI_1]
    refine ih m2 _ (fun k h1 h2 => by rw [k1 k h1 h2]; exact g1 k h1 h2) (fun q hq => ?_)
    by_cases e : q = m
    · subst e
      exact ⟨by rw [k4, if_pos rfl], k3⟩
    · have := g2 q (by omega)
      refine ⟨by rw [k4, if_neg e]; exact this.1, fun i hi => ?_⟩
      have hl := Nat.le_trans (zg_pl_len (h := h) (np := np) (zx_gl an N q)) (zx_gl_len (an := an) (m := q) hN)
      rw [k2 _ (by omega)]; exact this.2 i hi
  · have e4 : m' 382 4 = nI N := by rw [g1 382 (by decide) (by decide)]; exact q4
    have e3 : m' 382 3 = nI np := by rw [g1 382 (by decide) (by decide)]; exact f3
    have e8 : 2 ^ np ≤ 2 ^ 12 := Nat.pow_le_pow_right (by decide) f4
    refine az_iload dX0_prepare_24 rfl ?_
    refine az_aloadn dX0_prepare_26 rfl ?_
    refine az_geti dX0_prepare_27 flX0_25 sh_382 rfl ?_
    rw [e4]
    refine az_icmpge (t := 46) dX0_prepare_30 (by decide) (fun h30 => ?_) (fun h30 => ?_)
    rotate_left 1
    · exact absurd (Int32.le_refl _) h30
    refine az_iconst (v := 1) dX0_prepare_46 (by decide) ?_
    refine az_aloadn dX0_prepare_47 rfl ?_
    refine az_geti dX0_prepare_48 flX0_21 sh_382 rfl ?_
    rw [e3]
    refine az_ishl dX0_prepare_51 ?_
    rw [zi_shl np (by omega)]
    refine az_istore dX0_prepare_52 (by decide) ?_
    dsimp only [List.set]
    refine az_iconst (v := 0) dX0_prepare_54 (by decide) ?_
    refine az_istore dX0_prepare_55 (by decide) ?_
    dsimp only [List.set]
    skip
    refine az_up (fun s => ∀ (m2 : az_M), (∀ k, k ≠ 383 → m2 k = m' k) → (∀ t, t < s → m2 383 t = -1) → az_Ev X (d + 4) mX0_prepare 57 [some (.inr 382), some (.inl (nI x)), some (.inr 1), some (.inr 371), some (.inl sm), some (.inl (nI (2 ^ np))), some (.inl (nI s))] [] m2 Q) (2 ^ np) 0 (Nat.zero_le _) (fun s _ hs ih2 m2 k1 k2 => ?_) (fun m2 k1 k2 => ?_) m' (fun _ _ => rfl) (fun t ht => absurd ht (by omega))
    · refine az_iload dX0_prepare_57 rfl ?_
      refine az_iload dX0_prepare_59 rfl ?_
      refine az_icmpge (t := 78) dX0_prepare_61 (by decide) (fun h61 => ?_) (fun h61 => ?_)
      · exact absurd h61 (nI_ge (by omega) (by omega))
      refine az_aloadn dX0_prepare_64 rfl ?_
      refine az_getr dX0_prepare_65 flX0_9 sh_382 rfl ?_
      refine az_iload dX0_prepare_68 rfl ?_
      refine az_iconst (v := -1) dX0_prepare_70 (by decide) ?_
      refine az_iast (s) dX0_prepare_71 sh_383 (by omega) (by decide) (by simp only [az_lit, nI_add, pk_mul, Nat.add_assoc]) ?_
      refine az_iinc (w := 1) dX0_prepare_72 rfl (by decide) (by decide) ?_
      dsimp only [List.set]
      refine az_goto (t := 57) dX0_prepare_75 (by decide) ?_
      rw [nI_1]
      refine ih2 _ (fun k hk => by rw [az_w_ne _ hk]; exact k1 k hk) (fun t ht => ?_)
      rw [az_w_same]
      unfold upd
      by_cases e : t = s
      · rw [if_pos e]
      · rw [if_neg e]; exact k2 t (by omega)
    · refine az_iload dX0_prepare_57 rfl ?_
      refine az_iload dX0_prepare_59 rfl ?_
      refine az_icmpge (t := 78) dX0_prepare_61 (by decide) (fun h61 => ?_) (fun h61 => ?_)
      rotate_left 1
      · exact absurd (Int32.le_refl _) h61
      refine az_vret dX0_prepare_78 rfl ?_
      refine hQ m2 np h pl ch (fun k hk => ?_) ⟨?_, f4, ?_, ?_, fun i hi => ?_, fun m hm => ⟨?_, ?_, fun i hi => ⟨?_, zg_pl_lt⟩⟩⟩ k2 hF
      · rw [k1 k (by omega), g1 k (by omega) (by omega), qf k (by omega) (by omega) (by omega)]
      · rw [k1 382 (by decide)]; exact e3
      · rw [k1 382 (by decide)]; exact e4
      · rw [k1 382 (by decide), g1 382 (by decide) (by decide)]; exact q5
      · rw [k1 385 (by decide), g1 385 (by decide) (by decide)]; exact (f5 i hi).2
      · rw [k1 387 (by decide)]; exact (g2 m hm).1
      · exact Nat.le_trans (zg_pl_len _) (zx_gl_len hN)
      · rw [k1 386 (by decide)]; exact (g2 m hm).2 i hi
end CS

/-! marks asked one after another: the class's costs, over any V that is the least over all marks -/
def za_af (sm : Int32) (v : Nat → Nat) : Nat → Nat
  | 0 => 0
  | n + 1 => if sm = 0 then (if za_af sm v n < v n then v n else za_af sm v n) else za_af sm v n + v n
def za_u (sm : Int32) (ch : Nat → Nat) (np P : Nat) : Nat := if sm = 0 then 1 else fb_sm (fun i => if P.testBit i then ch i else 0) np
def za_all (l : List Nat) (P : Nat) : Bool := (zf_in (fun i => decide (P &&& l.getD i 0 = P)) l.length 0).isSome
def za_A (sm : Int32) (V ch : Nat → Nat) (np : Nat) (l : List Nat) (P : Nat) : Nat := if za_all l P = true then 1000000000 else za_af sm (fun i => V (P &&& l.getD i 0)) l.length + za_u sm ch np P
def za_mn (A : Nat → Nat) : Nat → Nat
  | 0 => 1000000000
  | n + 1 => if A n < za_mn A n then A n else za_mn A n
/-- V is what the least of all marks gives -/
def za_V (sm : Int32) (V ch : Nat → Nat) (np N : Nat) (G : Nat → List Nat) : Prop := (∀ P, P < 2 ^ np → zn_pc P < 2 → V P = 0) ∧ (∀ P, P < 2 ^ np → V P < 1000000000) ∧ (∀ P, P < 2 ^ np → 2 ≤ zn_pc P → V P = za_mn (fun m => za_A sm V ch np (G m) P) N) ∧ ∀ m P, m < N → P < 2 ^ np → za_A sm V ch np (G m) P ≤ 1000000000
def za_M (mem : az_M) (V : Nat → Nat) (np : Nat) : Prop := ∀ P, P < 2 ^ np → 2 ≤ zn_pc P → mem 383 P = -1 ∨ mem 383 P = nI (V P)
theorem za_E_fr {mem m' : az_M} {np N : Nat} {sm : Int32} {ch : Nat → Nat} {G : Nat → List Nat} (hf : ∀ k, k ≠ 383 → m' k = mem k) (h : za_E mem np N sm ch G) : za_E m' np N sm ch G := by
  obtain ⟨h1, h2, h3, h4, h5, h6⟩ := h
  refine ⟨?_, h2, ?_, ?_, ?_, ?_⟩
  · rw [hf 382 (by decide)]; exact h1
  · rw [hf 382 (by decide)]; exact h3
  · rw [hf 382 (by decide)]; exact h4
  · rw [hf 385 (by decide)]; exact h5
  · rw [hf 387 (by decide), hf 386 (by decide)]; exact h6
theorem zn_pc_strict {P g : Nat} (hP : P < 65536) (h : P &&& g ≠ P) : zn_pc (P &&& g) < zn_pc P := by
  have hle : zn_pc (P &&& g) ≤ zn_pc P := zn_pc_mono (fun i hi => by rw [Nat.testBit_and, Bool.and_eq_true] at hi; exact hi.1)
  rcases Nat.lt_or_ge (zn_pc (P &&& g)) (zn_pc P) with q | q
  · exact q
  · exfalso
    apply h
    have hex : ∀ i, i < 16 → P.testBit i = true → g.testBit i = true := by
      intro i hi hb
      cases hg : g.testBit i
      · exfalso
        have h1 := fb_ct_upd (fun j => (P &&& g).testBit j) true (i := i) (n := 16) hi
        have h2 : fb_ct (fun k => if k = i then true else (P &&& g).testBit k) 16 ≤ fb_ct (fun j => P.testBit j) 16 := fb_ct_sub (fun k _ hk => by
          by_cases e : k = i
          · rw [e]; exact hb
          · simp only [if_neg e] at hk
            rw [Nat.testBit_and, Bool.and_eq_true] at hk; exact hk.1)
        have h3 : (P &&& g).testBit i = false := by rw [Nat.testBit_and, hg, Bool.and_false]
        rw [h3] at h1
        simp only [Bool.false_eq_true, if_false, if_true, Nat.add_zero] at h1
        have h4 : zn_pc (P &&& g) = fb_ct (fun j => (P &&& g).testBit j) 16 := rfl
        have h5 : zn_pc P = fb_ct (fun j => P.testBit j) 16 := rfl
        omega
      · rfl
    refine zn_ext (n := 16) (Nat.lt_of_le_of_lt Nat.and_le_left hP) hP (fun i hi => ?_)
    rw [Nat.testBit_and]
    cases hb : P.testBit i
    · rfl
    · rw [hex i hi hb]; rfl
theorem za_af_lt {sm : Int32} {v : Nat → Nat} (hs : sm = 0) (h : ∀ j, v j < 1000000000) : ∀ n, za_af sm v n < 1000000000
  | 0 => by rw [za_af]; decide
  | n + 1 => by
    have ih := za_af_lt hs h n
    have := h n
    rw [za_af, if_pos hs]
    split <;> omega
theorem za_mn_le {A : Nat → Nat} : ∀ n, za_mn A n ≤ 1000000000
  | 0 => Nat.le_refl _
  | n + 1 => by
    have ih := za_mn_le (A := A) n
    rw [za_mn]
    split <;> omega
section CT
variable {X : az_X} {d : Nat} {N np : Nat} {sm : Int32} {V ch : Nat → Nat} {G : Nat → List Nat}
theorem x_ask {g : Nat} (hsm : sm = 0 ∨ sm = 1) (hV : za_V sm V ch np N G) (hN : N ≤ 16)
    (ihc : ∀ {mem : az_M} {Q : Option az_V → az_M → Prop} {P dp : Nat}, za_E mem np N sm ch G → za_M mem V np → P < 2 ^ np → zn_pc P ≤ g → dp + zn_pc P ≤ 13 → (∀ m', (∀ k, k ≠ 383 → m' k = mem k) → za_M m' V np → Q (some (.inl (nI (V P)))) m') → az_Sp X (d + 2 * g) mX0_costOf [.inr 382, .inl (nI P), .inl (nI dp)] mem Q)
    {mem : az_M} {Q : Option az_V → az_M → Prop} {m P dp : Nat} (hE : za_E mem np N sm ch G) (hM : za_M mem V np) (hm : m < N) (hP : P < 2 ^ np) (hPg : zn_pc P ≤ g + 1) (hdp : dp + zn_pc P ≤ 13) (hQ : ∀ m', (∀ k, k ≠ 383 → m' k = mem k) → za_M m' V np → Q (some (.inl (nI (za_A sm V ch np (G m) P)))) m') : az_Sp X (d + 2 * g + 1) mX0_costOfAsking [.inr 382, .inl (nI m), .inl (nI P), .inl (nI dp)] mem Q := by
  have e8 : 2 ^ np ≤ 2 ^ 12 := Nat.pow_le_pow_right (by decide) hE.2.1
  unfold za_A at hQ
  generalize hl : G m = l at hQ
  refine az_body (by decide +kernel) (Nat.le_of_ble_eq_true rfl) ?_
  show az_Ev X _ mX0_costOfAsking 0 [some (.inr 382), some (.inl (nI m)), some (.inl (nI P)), some (.inl (nI dp)), none, none, none, none] [] mem Q
  refine az_iconst (v := 0) dX0_costOfAsking_0 (by decide) ?_
  refine az_istore dX0_costOfAsking_1 (by decide) ?_
  dsimp only [List.set]
  refine az_iconst (v := 0) dX0_costOfAsking_3 (by decide) ?_
  refine az_istore dX0_costOfAsking_4 (by decide) ?_
  dsimp only [List.set]
  skip
  refine az_up (fun i => ∀ (m' : az_M) (L6 L7 : Option az_V), (∀ k, k ≠ 383 → m' k = mem k) → za_M m' V np → zf_in (fun i => decide (P &&& l.getD i 0 = P)) (l.length - i) i = zf_in (fun i => decide (P &&& l.getD i 0 = P)) l.length 0 → az_Ev X (d + 2 * g + 1) mX0_costOfAsking 6 [some (.inr 382), some (.inl (nI m)), some (.inl (nI P)), some (.inl (nI dp)), some (.inl (nI (za_af sm (fun i => V (P &&& l.getD i 0)) i))), some (.inl (nI i)), L6, L7] [] m' Q) l.length 0 (by omega) (fun i _ hi ih m' L6 L7 g1 g2 g3 => ?_) (fun m' L6 L7 g1 g2 g3 => ?_) mem none none (fun _ _ => rfl) hM rfl
  · have hE1 := za_E_fr g1 hE
    have hEm := hE1.2.2.2.2.2 m hm
    rw [hl] at hEm
    have hEi := hEm.2.2 i hi
    have hal : P &&& l.getD i 0 < 65536 := Nat.lt_of_le_of_lt Nat.and_le_left (by omega)
    rw [zs_sub hi] at g3
    have hvb := hV.2.1 (P &&& l.getD i 0) (Nat.lt_of_le_of_lt Nat.and_le_left hP)
    refine az_iload dX0_costOfAsking_6 rfl ?_
    refine az_aloadn dX0_costOfAsking_8 rfl ?_
    refine az_getr dX0_costOfAsking_9 flX0_35 sh_382 rfl ?_
    refine az_iloadn dX0_costOfAsking_12 rfl ?_
    refine az_iald (m) dX0_costOfAsking_13 sh_387 (by omega) (by decide) (by simp only [az_lit, nI_add, pk_mul, Nat.add_assoc]) ?_
    rw [hEm.1]
    refine az_icmpge (t := 93) dX0_costOfAsking_14 (by decide) (fun h14 => ?_) (fun h14 => ?_)
    · exact absurd h14 (nI_ge (by omega) (by omega))
    refine az_iloadn dX0_costOfAsking_17 rfl ?_
    refine az_aloadn dX0_costOfAsking_18 rfl ?_
    refine az_getr dX0_costOfAsking_19 flX0_32 sh_382 rfl ?_
    refine az_bipush (v := 16) dX0_costOfAsking_22 (by decide) ?_
    refine az_iloadn dX0_costOfAsking_24 rfl ?_
    refine az_imul dX0_costOfAsking_25 ?_
    refine az_iload dX0_costOfAsking_26 rfl ?_
    refine az_pc 28 (by decide) ?_
    refine az_iadd dX0_costOfAsking_28 ?_
    refine az_iald (16 * m + i) dX0_costOfAsking_29 sh_386 (by omega) (by decide) (by simp only [az_lit, nI_add, pk_mul, Nat.add_assoc]) ?_
    rw [hEi.1]
    refine az_iand dX0_costOfAsking_30 ?_
    rw [fa_and]
    refine az_istore dX0_costOfAsking_31 (by decide) ?_
    dsimp only [List.set]
    refine az_iload dX0_costOfAsking_33 rfl ?_
    refine az_iloadn dX0_costOfAsking_35 rfl ?_
    refine az_icmpne (t := 42) dX0_costOfAsking_36 (by decide) (fun h36 => ?_) (fun h36 => ?_)
    · have e : P &&& l.getD i 0 ≠ P := fun q => h36 (by rw [q])
      rw [zf_in_f (f := fun i => decide (P &&& l.getD i 0 = P)) (decide_eq_false e)] at g3
      have hst := zn_pc_strict (by omega) e
      refine az_aloadn dX0_costOfAsking_42 rfl ?_
      refine az_iload dX0_costOfAsking_43 rfl ?_
      refine az_iloadn dX0_costOfAsking_45 rfl ?_
      refine az_iconst (v := 1) dX0_costOfAsking_46 (by decide) ?_
      refine az_iadd dX0_costOfAsking_47 ?_
      rw [nI_1]
      refine az_inv2 (N := mX0_costOf) dX0_costOfAsking_48 lkX0_64 okX0_costOf sh_382 rfl (Nat.le_of_ble_eq_true rfl) ?_
      refine ihc hE1 g2 (Nat.lt_of_le_of_lt Nat.and_le_left hP) (by omega) (by omega) (fun m2 k1 k2 => ?_)
      have hE2 := za_E_fr k1 hE1
      try dsimp only [az_ps]
      refine az_istore dX0_costOfAsking_51 (by decide) ?_
      dsimp only [List.set]
      refine az_iload dX0_costOfAsking_53 rfl ?_
      refine az_ldc dX0_costOfAsking_55 kcX0_68 ?_
      refine az_icmpne (t := 63) dX0_costOfAsking_57 (by decide) (fun h57 => ?_) (fun h57 => ?_)
      rotate_left 1
      · exact absurd ((nI_eq (b := 1000000000) (by omega) (by decide)).mp h57) (by omega)
      refine az_aloadn dX0_costOfAsking_63 rfl ?_
      refine az_geti dX0_costOfAsking_64 flX0_28 sh_382 rfl ?_
      rw [hE2.2.2.2.1]
      refine az_ifeq (t := 78) dX0_costOfAsking_67 (by decide) (fun h67 => ?_) (fun h67 => ?_)
      · refine az_iload dX0_costOfAsking_78 rfl ?_
        refine az_iload dX0_costOfAsking_80 rfl ?_
        refine az_max dX0_costOfAsking_82 lsX0_78 (Nat.le_of_ble_eq_true rfl) (by omega) ?_
        skip
        refine az_istore dX0_costOfAsking_85 (by decide) ?_
        dsimp only [List.set]
        refine az_iinc (w := 1) dX0_costOfAsking_87 rfl (by decide) (by decide) ?_
        dsimp only [List.set]
        refine az_goto (t := 6) dX0_costOfAsking_90 (by decide) ?_
        rw [nI_1]
        have := ih m2 (some (.inl (nI (P &&& l.getD i 0)))) (some (.inl (nI (V (P &&& l.getD i 0))))) (fun k hk => by rw [k1 k hk]; exact g1 k hk) k2 g3
        rw [za_af] at this
        first
        | (rw [if_neg h67] at this; exact this)
        | (rw [if_pos h67] at this
           have hsn : sm = 0 := h67
           have e9 : (if nI (za_af sm (fun i => V (P &&& l.getD i 0)) i) < nI (V (P &&& l.getD i 0)) then nI (V (P &&& l.getD i 0)) else nI (za_af sm (fun i => V (P &&& l.getD i 0)) i)) = nI (if za_af sm (fun i => V (P &&& l.getD i 0)) i < V (P &&& l.getD i 0) then V (P &&& l.getD i 0) else za_af sm (fun i => V (P &&& l.getD i 0)) i) := by
             have hb : za_af sm (fun i => V (P &&& l.getD i 0)) i < 1000000000 := za_af_lt hsn (fun j => hV.2.1 _ (Nat.lt_of_le_of_lt Nat.and_le_left hP)) i
             by_cases q : za_af sm (fun i => V (P &&& l.getD i 0)) i < V (P &&& l.getD i 0)
             · rw [if_pos q, if_pos (nI_lt q (by omega))]
             · rw [if_neg q, if_neg (fun w => q ((nI_ltI (by omega) (by omega)).mp w))]
           rw [e9]; exact this)
      · refine az_iload dX0_costOfAsking_70 rfl ?_
        refine az_iload dX0_costOfAsking_72 rfl ?_
        refine az_iadd dX0_costOfAsking_74 ?_
        rw [nI_add]
        refine az_goto (t := 85) dX0_costOfAsking_75 (by decide) ?_
        skip
        refine az_istore dX0_costOfAsking_85 (by decide) ?_
        dsimp only [List.set]
        refine az_iinc (w := 1) dX0_costOfAsking_87 rfl (by decide) (by decide) ?_
        dsimp only [List.set]
        refine az_goto (t := 6) dX0_costOfAsking_90 (by decide) ?_
        rw [nI_1]
        have := ih m2 (some (.inl (nI (P &&& l.getD i 0)))) (some (.inl (nI (V (P &&& l.getD i 0))))) (fun k hk => by rw [k1 k hk]; exact g1 k hk) k2 g3
        rw [za_af] at this
        first
        | (rw [if_neg h67] at this; exact this)
        | (rw [if_pos h67] at this
           have hsn : sm = 0 := h67
           have e9 : (if nI (za_af sm (fun i => V (P &&& l.getD i 0)) i) < nI (V (P &&& l.getD i 0)) then nI (V (P &&& l.getD i 0)) else nI (za_af sm (fun i => V (P &&& l.getD i 0)) i)) = nI (if za_af sm (fun i => V (P &&& l.getD i 0)) i < V (P &&& l.getD i 0) then V (P &&& l.getD i 0) else za_af sm (fun i => V (P &&& l.getD i 0)) i) := by
             have hb : za_af sm (fun i => V (P &&& l.getD i 0)) i < 1000000000 := za_af_lt hsn (fun j => hV.2.1 _ (Nat.lt_of_le_of_lt Nat.and_le_left hP)) i
             by_cases q : za_af sm (fun i => V (P &&& l.getD i 0)) i < V (P &&& l.getD i 0)
             · rw [if_pos q, if_pos (nI_lt q (by omega))]
             · rw [if_neg q, if_neg (fun w => q ((nI_ltI (by omega) (by omega)).mp w))]
           rw [e9]; exact this)
    · have e : P &&& l.getD i 0 = P := (nI_eq (by omega) (by omega)).mp h36
      rw [zf_in_t (f := fun i => decide (P &&& l.getD i 0 = P)) (by simp only [decide_eq_true_eq]; exact e)] at g3
      refine az_ldc dX0_costOfAsking_39 kcX0_68 ?_
      refine az_iret dX0_costOfAsking_41 rfl ?_
      have := hQ m' g1 g2
      rw [if_pos (by unfold za_all; rw [← g3]; rfl)] at this
      exact this
  · have hE1 := za_E_fr g1 hE
    have hEm := hE1.2.2.2.2.2 m hm
    rw [hl] at hEm
    rw [Nat.sub_self] at g3
    have fin : ∀ v, v = nI (za_u sm ch np P) → az_Ev X (d + 2 * g + 1) mX0_costOfAsking 111 [some (.inr 382), some (.inl (nI m)), some (.inl (nI P)), some (.inl (nI dp)), some (.inl (nI (za_af sm (fun i => V (P &&& l.getD i 0)) l.length))), some (.inl (nI l.length)), L6, L7] [.inl v, .inl (nI (za_af sm (fun i => V (P &&& l.getD i 0)) l.length))] m' Q := by
      intro v hv
      subst hv
      refine az_iadd dX0_costOfAsking_111 ?_
      rw [nI_add]
      refine az_iret dX0_costOfAsking_112 rfl ?_
      have := hQ m' g1 g2
      rw [if_neg (by unfold za_all; rw [← g3]; simp [zf_in])] at this
      exact this
    refine az_iload dX0_costOfAsking_6 rfl ?_
    refine az_aloadn dX0_costOfAsking_8 rfl ?_
    refine az_getr dX0_costOfAsking_9 flX0_35 sh_382 rfl ?_
    refine az_iloadn dX0_costOfAsking_12 rfl ?_
    refine az_iald (m) dX0_costOfAsking_13 sh_387 (by omega) (by decide) (by simp only [az_lit, nI_add, pk_mul, Nat.add_assoc]) ?_
    rw [hEm.1]
    refine az_icmpge (t := 93) dX0_costOfAsking_14 (by decide) (fun h14 => ?_) (fun h14 => ?_)
    rotate_left 1
    · exact absurd (Int32.le_refl _) h14
    refine az_iload dX0_costOfAsking_93 rfl ?_
    refine az_aloadn dX0_costOfAsking_95 rfl ?_
    refine az_geti dX0_costOfAsking_96 flX0_28 sh_382 rfl ?_
    rw [hE1.2.2.2.1]
    refine az_ifeq (t := 110) dX0_costOfAsking_99 (by decide) (fun h99 => ?_) (fun h99 => ?_)
    · refine az_iconst (v := 1) dX0_costOfAsking_110 (by decide) ?_
      first
      | exact fin _ (by unfold za_u; rw [if_neg h99])
      | exact fin _ (by unfold za_u; rw [if_pos h99]; rfl)
    · refine az_aloadn dX0_costOfAsking_102 rfl ?_
      refine az_iloadn dX0_costOfAsking_103 rfl ?_
      refine az_inv1 (N := mX0_chanceOf) dX0_costOfAsking_104 lkX0_81 okX0_chanceOf sh_382 rfl (Nat.le_of_ble_eq_true rfl) ?_
      refine s_X0_chanceOf hE1.1 hE1.2.1 hE1.2.2.2.2.1 (by omega) ?_
      try dsimp only [az_ps]
      refine az_goto (t := 111) dX0_costOfAsking_107 (by decide) ?_
      first
      | exact fin _ (by unfold za_u; rw [if_neg h99])
      | exact fin _ (by unfold za_u; rw [if_pos h99]; rfl)
theorem s_X0_costOf (hsm : sm = 0 ∨ sm = 1) (hV : za_V sm V ch np N G) (hN : N ≤ 16) : ∀ (f : Nat) {mem : az_M} {Q : Option az_V → az_M → Prop} {P dp : Nat}, za_E mem np N sm ch G → za_M mem V np → P < 2 ^ np → zn_pc P ≤ f → dp + zn_pc P ≤ 13 → (∀ m', (∀ k, k ≠ 383 → m' k = mem k) → za_M m' V np → Q (some (.inl (nI (V P)))) m') → az_Sp X (d + 2 * f) mX0_costOf [.inr 382, .inl (nI P), .inl (nI dp)] mem Q
  | 0, mem, Q, P, dp, hE, hM, hP, hf, hdp, hQ => by
    have e8 : 2 ^ np ≤ 2 ^ 12 := Nat.pow_le_pow_right (by decide) hE.2.1
    have hz : zn_tl P = 0 := (zn_tl_z (by omega)).mpr (by omega)
    refine az_body (by decide +kernel) (Nat.le_of_ble_eq_true rfl) ?_
    show az_Ev X _ mX0_costOf 0 [some (.inr 382), some (.inl (nI P)), some (.inl (nI dp)), none, none] [] mem Q
    refine az_iloadn dX0_costOf_0 rfl ?_
    refine az_iloadn dX0_costOf_1 rfl ?_
    refine az_iconst (v := 1) dX0_costOf_2 (by decide) ?_
    refine az_isub dX0_costOf_3 ?_
    refine az_iand dX0_costOf_4 ?_
    rw [zb_tl (by omega)]
    refine az_ifne (t := 10) dX0_costOf_5 (by decide) (fun h5 => ?_) (fun h5 => ?_)
    · exact absurd (by rw [hz]; rfl) h5
    refine az_iconst (v := 0) dX0_costOf_8 (by decide) ?_
    refine az_iret dX0_costOf_9 rfl ?_
    have := hQ mem (fun _ _ => rfl) hM; rw [hV.1 P hP (by omega)] at this; exact this
  | f + 1, mem, Q, P, dp, hE, hM, hP, hf, hdp, hQ => by
    have e8 : 2 ^ np ≤ 2 ^ 12 := Nat.pow_le_pow_right (by decide) hE.2.1
    have hVb := hV.2.1 P hP
    refine az_body (by decide +kernel) (Nat.le_of_ble_eq_true rfl) ?_
    show az_Ev X _ mX0_costOf 0 [some (.inr 382), some (.inl (nI P)), some (.inl (nI dp)), none, none] [] mem Q
    refine az_iloadn dX0_costOf_0 rfl ?_
    refine az_iloadn dX0_costOf_1 rfl ?_
    refine az_iconst (v := 1) dX0_costOf_2 (by decide) ?_
    refine az_isub dX0_costOf_3 ?_
    refine az_iand dX0_costOf_4 ?_
    rw [zb_tl (by omega)]
    refine az_ifne (t := 10) dX0_costOf_5 (by decide) (fun h5 => ?_) (fun h5 => ?_)
    rotate_left 1
    · have hz : zn_pc P < 2 := (zn_tl_z (by omega)).mp ((nI_eq (b := 0) (by have := zn_tl_lt (k := P) (n := 16) (by decide) (by omega); omega) (by decide)).mp h5)
      refine az_iconst (v := 0) dX0_costOf_8 (by decide) ?_
      refine az_iret dX0_costOf_9 rfl ?_
      have := hQ mem (fun _ _ => rfl) hM; rw [hV.1 P hP hz] at this; exact this
    have h2 : 2 ≤ zn_pc P := Nat.le_of_not_lt (fun q => h5 (by rw [(zn_tl_z (by omega)).mpr q]; rfl))
    refine az_iloadn dX0_costOf_10 rfl ?_
    refine az_bipush (v := 12) dX0_costOf_11 (by decide) ?_
    refine az_icmple (t := 19) dX0_costOf_13 (by decide) (fun h13 => ?_) (fun h13 => ?_)
    rotate_left 1
    · exact absurd ((nI_leI (b := 12) (by omega) (by decide)).mpr (by omega)) h13
    refine az_aloadn dX0_costOf_19 rfl ?_
    refine az_getr dX0_costOf_20 flX0_9 sh_382 rfl ?_
    refine az_iloadn dX0_costOf_23 rfl ?_
    refine az_iald (P) dX0_costOf_24 sh_383 (by omega) (by decide) (by simp only [az_lit, nI_add, pk_mul, Nat.add_assoc]) ?_
    refine az_pc 25 (by decide) ?_
    refine az_iconst (v := -1) dX0_costOf_25 (by decide) ?_
    refine az_icmpne (t := 70) dX0_costOf_26 (by decide) (fun h26 => ?_) (fun h26 => ?_)
    · have hp := (hM P hP h2).resolve_left h26
      refine az_pc 70 (by decide) ?_
      refine az_aloadn dX0_costOf_70 rfl ?_
      refine az_getr dX0_costOf_71 flX0_9 sh_382 rfl ?_
      refine az_iloadn dX0_costOf_74 rfl ?_
      refine az_iald (P) dX0_costOf_75 sh_383 (by omega) (by decide) rfl ?_
      refine az_iret dX0_costOf_76 rfl ?_
      rw [hp]; exact hQ mem (fun _ _ => rfl) hM
    refine az_ldc dX0_costOf_29 kcX0_68 ?_
    refine az_istoren dX0_costOf_31 (by decide) ?_
    dsimp only [List.set]
    refine az_iconst (v := 0) dX0_costOf_32 (by decide) ?_
    refine az_istore dX0_costOf_33 (by decide) ?_
    dsimp only [List.set]
    skip
    have hV1 := hV.2.2.1 P hP h2
    refine az_up (fun m => ∀ (m' : az_M), (∀ k, k ≠ 383 → m' k = mem k) → za_M m' V np → az_Ev X (d + 2 * (f + 1)) mX0_costOf 35 [some (.inr 382), some (.inl (nI P)), some (.inl (nI dp)), some (.inl (nI (za_mn (fun m => za_A sm V ch np (G m) P) m))), some (.inl (nI m))] [] m' Q) N 0 (by omega) (fun m _ hm ih m' g1 g2 => ?_) (fun m' g1 g2 => ?_) mem (fun _ _ => rfl) hM
    · have hE1 := za_E_fr g1 hE
      have hAb := hV.2.2.2 m P hm hP
      have hmn := za_mn_le (A := fun m => za_A sm V ch np (G m) P) m
      refine az_iload dX0_costOf_35 rfl ?_
      refine az_aloadn dX0_costOf_37 rfl ?_
      refine az_geti dX0_costOf_38 flX0_25 sh_382 rfl ?_
      rw [hE1.2.2.1]
      refine az_icmpge (t := 63) dX0_costOf_41 (by decide) (fun h41 => ?_) (fun h41 => ?_)
      · exact absurd h41 (nI_ge (by omega) (by omega))
      refine az_iloadn dX0_costOf_44 rfl ?_
      refine az_aloadn dX0_costOf_45 rfl ?_
      refine az_iload dX0_costOf_46 rfl ?_
      refine az_iloadn dX0_costOf_48 rfl ?_
      refine az_iloadn dX0_costOf_49 rfl ?_
      refine az_inv3 (N := mX0_costOfAsking) dX0_costOf_50 lkX0_69 okX0_costOfAsking sh_382 rfl (Nat.le_of_ble_eq_true rfl) ?_
      refine x_ask (d := d) (g := f) hsm hV hN (fun a b c e1 e2 e3 => s_X0_costOf hsm hV hN f a b c e1 e2 e3) hE1 g2 hm hP hf hdp (fun m2 k1 k2 => ?_)
      try dsimp only [az_ps]
      refine az_min dX0_costOf_53 lsX0_73 (Nat.le_of_ble_eq_true rfl) (by omega) ?_
      rw [show (if nI (za_A sm V ch np (G m) P) < nI (za_mn (fun m => za_A sm V ch np (G m) P) m) then nI (za_A sm V ch np (G m) P) else nI (za_mn (fun m => za_A sm V ch np (G m) P) m)) = nI (za_mn (fun m => za_A sm V ch np (G m) P) (m + 1)) from by rw [za_mn]; by_cases q : za_A sm V ch np (G m) P < za_mn (fun m => za_A sm V ch np (G m) P) m <;> simp [q, nI_ltI (show za_A sm V ch np (G m) P < 2 ^ 31 by omega) (show za_mn (fun m => za_A sm V ch np (G m) P) m < 2 ^ 31 by omega)]]
      refine az_istoren dX0_costOf_56 (by decide) ?_
      dsimp only [List.set]
      refine az_iinc (w := 1) dX0_costOf_57 rfl (by decide) (by decide) ?_
      dsimp only [List.set]
      refine az_pc 60 (by decide) ?_
      refine az_goto (t := 35) dX0_costOf_60 (by decide) ?_
      rw [nI_1]
      exact ih m2 (fun k hk => by rw [k1 k hk]; exact g1 k hk) k2
    · have hE1 := za_E_fr g1 hE
      rw [← hV1]
      refine az_iload dX0_costOf_35 rfl ?_
      refine az_aloadn dX0_costOf_37 rfl ?_
      refine az_geti dX0_costOf_38 flX0_25 sh_382 rfl ?_
      rw [hE1.2.2.1]
      refine az_icmpge (t := 63) dX0_costOf_41 (by decide) (fun h41 => ?_) (fun h41 => ?_)
      rotate_left 1
      · exact absurd (Int32.le_refl _) h41
      refine az_aloadn dX0_costOf_63 rfl ?_
      refine az_getr dX0_costOf_64 flX0_9 sh_382 rfl ?_
      refine az_iloadn dX0_costOf_67 rfl ?_
      refine az_iloadn dX0_costOf_68 rfl ?_
      refine az_iast (P) dX0_costOf_69 sh_383 (by omega) (by decide) (by simp only [az_lit, nI_add, pk_mul, Nat.add_assoc]) ?_
      refine az_aloadn dX0_costOf_70 rfl ?_
      refine az_getr dX0_costOf_71 flX0_9 sh_382 rfl ?_
      refine az_iloadn dX0_costOf_74 rfl ?_
      refine az_iald (P) dX0_costOf_75 sh_383 (by omega) (by decide) (by simp only [az_lit, nI_add, pk_mul, Nat.add_assoc]) ?_
      refine az_pc 76 (by decide) ?_
      refine az_iret dX0_costOf_76 rfl ?_
      rw [show az_w m' 383 P (nI (V P)) 383 P = nI (V P) by rw [az_w_same]; simp [upd]]
      refine hQ _ (fun k hk => by rw [az_w_ne _ hk]; exact g1 k hk) (fun P' hP' h2' => ?_)
      rw [az_w_same]
      unfold upd
      by_cases e : P' = P
      · rw [if_pos e, e]; exact Or.inr rfl
      · rw [if_neg e]; exact g2 P' hP' h2'
end CT

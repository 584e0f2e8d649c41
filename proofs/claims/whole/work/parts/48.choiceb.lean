/-! the class's search: demands, what can be met, the tries -/
section CO
variable {X : az_X} {d : Nat} {mem : az_M} {Q : Option az_V → az_M → Prop} {N : Nat}
theorem s_X1_demand {D : Nat → Nat} {n k : Nat} (hD : zh_D mem D n) (hn : n < 256) (hk : k < 65536) (hQ : ∀ m' D' n', (∀ q, q ≠ 379 → q ≠ 380 → m' q = mem q) → (∀ j, j ≠ 1 → m' 379 j = mem 379 j) → zh_D m' D' n' → n' ≤ n + 1 → (∀ nd s, zh_meet D' n' nd s ↔ (zh_meet D n nd s ∧ nd ≤ zn_pc (s &&& k))) → Q none m') : az_Sp X d mX1_demand [.inr 379, .inl (nI k)] mem Q := by
  obtain ⟨h1, h2, h3⟩ := hD
  refine az_body (by decide +kernel) (Nat.le_of_ble_eq_true rfl) ?_
  show az_Ev X _ mX1_demand 0 [some (.inr 379), some (.inl (nI k)), none, none, none] [] mem Q
  refine az_iconst (v := 0) dX1_demand_0 (by decide) ?_
  refine az_istoren dX1_demand_1 (by decide) ?_
  dsimp only [List.set]
  skip
  refine az_up (fun i => ∀ L3, az_Ev X d mX1_demand 2 [some (.inr 379), some (.inl (nI k)), some (.inl (nI i)), L3, none] [] mem Q) n 0 (by omega) (fun i _ hi ih L3 => ?_) (fun L3 => ?_) _
  · refine az_iloadn dX1_demand_2 rfl ?_
    refine az_aloadn dX1_demand_3 rfl ?_
    refine az_geti dX1_demand_4 flX1_15 sh_379 rfl ?_
    rw [h1]
    refine az_icmpge (t := 31) dX1_demand_7 (by decide) (fun h7 => ?_) (fun h7 => ?_)
    · exact absurd h7 (nI_ge (by omega) (by omega))
    refine az_aloadn dX1_demand_10 rfl ?_
    refine az_getr dX1_demand_11 flX1_9 sh_379 rfl ?_
    refine az_iloadn dX1_demand_14 rfl ?_
    refine az_iald (i) dX1_demand_15 sh_380 (by omega) (by decide) (by simp only [az_lit, nI_add, pk_mul, Nat.add_assoc]) ?_
    rw [(h3 i hi).1]
    refine az_istoren dX1_demand_16 (by decide) ?_
    dsimp only [List.set]
    refine az_iloadn dX1_demand_17 rfl ?_
    refine az_iloadn dX1_demand_18 rfl ?_
    refine az_iand dX1_demand_19 ?_
    refine az_iloadn dX1_demand_20 rfl ?_
    refine az_pc 21 (by decide) ?_
    rw [fa_and]
    refine az_icmpne (t := 25) dX1_demand_21 (by decide) (fun h21 => ?_) (fun h21 => ?_)
    · refine az_iinc (w := 1) dX1_demand_25 rfl (by decide) (by decide) ?_
      dsimp only [List.set]
      refine az_goto (t := 2) dX1_demand_28 (by decide) ?_
      rw [nI_1]; exact ih _
    · have e : D i &&& k = D i := (nI_eq (by have := (h3 i hi).2; have := Nat.and_le_left (n := D i) (m := k); omega) (by have := (h3 i hi).2; omega)).mp h21
      refine az_vret dX1_demand_24 rfl ?_
      exact hQ mem D n (fun _ _ _ => rfl) (fun _ _ => rfl) ⟨h1, h2, h3⟩ (by omega) (fun nd s => ⟨fun h => ⟨h, Nat.le_trans (h i hi) (zh_mono e)⟩, fun h => h.1⟩)
  · refine az_iloadn dX1_demand_2 rfl ?_
    refine az_aloadn dX1_demand_3 rfl ?_
    refine az_geti dX1_demand_4 flX1_15 sh_379 rfl ?_
    rw [h1]
    refine az_icmpge (t := 31) dX1_demand_7 (by decide) (fun h7 => ?_) (fun h7 => ?_)
    rotate_left 1
    · exact absurd (Int32.le_refl _) h7
    refine az_iconst (v := 0) dX1_demand_31 (by decide) ?_
    refine az_istoren dX1_demand_32 (by decide) ?_
    dsimp only [List.set]
    refine az_iconst (v := 0) dX1_demand_33 (by decide) ?_
    refine az_istoren dX1_demand_34 (by decide) ?_
    dsimp only [List.set]
    skip
    refine az_up (fun i => ∀ (m' : az_M) (E : Nat → Nat) (kp : Nat) (L4 : Option az_V), kp ≤ i → (∀ q, q ≠ 380 → m' q = mem q) → (∀ j, i ≤ j → m' 380 j = mem 380 j) → (∀ j, j < kp → m' 380 j = nI (E j) ∧ E j < 65536) → (∀ nd s, (zh_meet E kp nd s ∧ nd ≤ zn_pc (s &&& k)) ↔ (zh_meet D i nd s ∧ nd ≤ zn_pc (s &&& k))) → az_Ev X d mX1_demand 35 [some (.inr 379), some (.inl (nI k)), some (.inl (nI kp)), some (.inl (nI i)), L4] [] m' Q) n 0 (by omega) (fun i _ hi ih m' E kp L4 g1 g2 g3 g4 g5 => ?_) (fun m' E kp L4 g1 g2 g3 g4 g5 => ?_) mem D 0 none (Nat.le_refl _) (fun _ _ => rfl) (fun _ _ => rfl) (fun j hj => absurd hj (by omega)) (fun nd s => Iff.rfl)
    · have e0 : m' 379 = mem 379 := g2 379 (by decide)
      have e1 : m' 380 i = nI (D i) := by rw [g3 i (Nat.le_refl _)]; exact (h3 i hi).1
      have hDi := (h3 i hi).2
      refine az_iloadn dX1_demand_35 rfl ?_
      refine az_aloadn dX1_demand_36 rfl ?_
      refine az_geti dX1_demand_37 flX1_15 sh_379 rfl ?_
      rw [e0, h1]
      refine az_icmpge (t := 76) dX1_demand_40 (by decide) (fun h40 => ?_) (fun h40 => ?_)
      · exact absurd h40 (nI_ge (by omega) (by omega))
      refine az_aloadn dX1_demand_43 rfl ?_
      refine az_getr dX1_demand_44 flX1_9 sh_379 rfl ?_
      refine az_iloadn dX1_demand_47 rfl ?_
      refine az_iald (i) dX1_demand_48 sh_380 (by omega) (by decide) (by simp only [az_lit, nI_add, pk_mul, Nat.add_assoc]) ?_
      rw [e1]
      refine az_istore dX1_demand_49 (by decide) ?_
      dsimp only [List.set]
      refine az_iload dX1_demand_51 rfl ?_
      refine az_iloadn dX1_demand_53 rfl ?_
      refine az_iand dX1_demand_54 ?_
      rw [fa_and]
      refine az_iloadn dX1_demand_55 rfl ?_
      refine az_pc 56 (by decide) ?_
      refine az_icmpeq (t := 70) dX1_demand_56 (by decide) (fun h56 => ?_) (fun h56 => ?_)
      · have e : k &&& D i = k := by rw [Nat.and_comm]; exact (nI_eq (by have := Nat.and_le_left (n := D i) (m := k); omega) (by omega)).mp h56
        refine az_iinc (w := 1) dX1_demand_70 rfl (by decide) (by decide) ?_
        dsimp only [List.set]
        refine az_goto (t := 35) dX1_demand_73 (by decide) ?_
        rw [nI_1]
        exact ih m' E kp _ (by omega) g2 (fun j hj => g3 j (by omega)) g4 (fun nd s => by rw [zh_meet_succ, g5 nd s]; exact ⟨fun h => ⟨⟨h.1, Nat.le_trans h.2 (zh_mono e)⟩, h.2⟩, fun h => ⟨h.1.1, h.2⟩⟩)
      refine az_aloadn dX1_demand_59 rfl ?_
      refine az_getr dX1_demand_60 flX1_9 sh_379 rfl ?_
      refine az_iloadn dX1_demand_63 rfl ?_
      refine az_iload dX1_demand_64 rfl ?_
      refine az_iast (kp) dX1_demand_66 sh_380 (by omega) (by decide) (by simp only [az_lit, nI_add, pk_mul, Nat.add_assoc]) ?_
      refine az_iinc (w := 1) dX1_demand_67 rfl (by decide) (by decide) ?_
      dsimp only [List.set]
      refine az_iinc (w := 1) dX1_demand_70 rfl (by decide) (by decide) ?_
      dsimp only [List.set]
      refine az_goto (t := 35) dX1_demand_73 (by decide) ?_
      rw [nI_1]
      rw [nI_1]
      refine ih _ (fun j => if j = kp then D i else E j) (kp + 1) _ (by omega) (fun q hq => by rw [az_w_ne _ hq]; exact g2 q hq) (fun j hj => by rw [az_w_same]; unfold upd; rw [if_neg (by omega)]; exact g3 j (by omega)) (fun j hj => ?_) (fun nd s => ?_)
      · rw [az_w_same]
        unfold upd
        by_cases e : j = kp
        · simp only [if_pos e]; exact ⟨trivial, hDi⟩
        · simp only [if_neg e]; exact g4 j (by omega)
      · have hz : zh_meet (fun j => if j = kp then D i else E j) kp nd s ↔ zh_meet E kp nd s := by
          constructor
          · intro h j hj; have := h j hj; dsimp only at this; rwa [if_neg (by omega)] at this
          · intro h j hj; try dsimp only; try rw [if_neg (by omega)]; exact h j hj
        rw [zh_meet_succ, zh_meet_succ, hz]
        try dsimp only
        rw [if_pos rfl]
        have := g5 nd s
        exact ⟨fun h => ⟨⟨(this.mp ⟨h.1.1, h.2⟩).1, h.1.2⟩, h.2⟩, fun h => ⟨⟨(this.mpr ⟨h.1.1, h.2⟩).1, h.1.2⟩, h.2⟩⟩
    · have e0 : m' 379 = mem 379 := g2 379 (by decide)
      refine az_iloadn dX1_demand_35 rfl ?_
      refine az_aloadn dX1_demand_36 rfl ?_
      refine az_geti dX1_demand_37 flX1_15 sh_379 rfl ?_
      rw [e0, h1]
      refine az_icmpge (t := 76) dX1_demand_40 (by decide) (fun h40 => ?_) (fun h40 => ?_)
      rotate_left 1
      · exact absurd (Int32.le_refl _) h40
      refine az_iloadn dX1_demand_76 rfl ?_
      refine az_sipush (v := 256) dX1_demand_77 (by decide) ?_
      refine az_icmpge (t := 97) dX1_demand_80 (by decide) (fun h80 => ?_) (fun h80 => ?_)
      · exact absurd h80 (nI_ge (b := 256) (by omega) (by decide))
      refine az_aloadn dX1_demand_83 rfl ?_
      refine az_getr dX1_demand_84 flX1_9 sh_379 rfl ?_
      refine az_iloadn dX1_demand_87 rfl ?_
      refine az_iloadn dX1_demand_88 rfl ?_
      refine az_iast (kp) dX1_demand_89 sh_380 (by omega) (by decide) (by simp only [az_lit, nI_add, pk_mul, Nat.add_assoc]) ?_
      refine az_aloadn dX1_demand_90 rfl ?_
      refine az_pc 91 (by decide) ?_
      refine az_iloadn dX1_demand_91 rfl ?_
      refine az_iconst (v := 1) dX1_demand_92 (by decide) ?_
      refine az_iadd dX1_demand_93 ?_
      rw [nI_1]
      refine az_puti dX1_demand_94 plX1_15 sh_379 rfl ?_
      refine az_vret dX1_demand_97 rfl ?_
      refine hQ _ (fun j => if j = kp then k else E j) (kp + 1) (fun q q1 q2 => by rw [az_w_ne _ q1, az_w_ne _ q2]; exact g2 q q2) (fun j hj => ?_) ⟨?_, by omega, fun j hj => ?_⟩ (by omega) (fun nd s => ?_)
      · rw [az_w_same]
        unfold upd
        rw [if_neg hj, az_w_ne _ (by decide), e0]
      · rw [az_w_same]; simp [upd]
      · rw [az_w_ne _ (by decide), az_w_same]
        unfold upd
        by_cases e : j = kp
        · rw [if_pos e]; dsimp only; rw [if_pos e]; exact ⟨rfl, hk⟩
        · rw [if_neg e]; dsimp only; rw [if_neg e]; exact g4 j (by omega)
      · have hz : zh_meet (fun j => if j = kp then k else E j) kp nd s ↔ zh_meet E kp nd s := by
          constructor
          · intro h j hj; have := h j hj; dsimp only at this; rwa [if_neg (by omega)] at this
          · intro h j hj; dsimp only; rw [if_neg (by omega)]; exact h j hj
        rw [zh_meet_succ, hz]
        try dsimp only
        rw [if_pos rfl]
        exact g5 nd s
theorem s_X1_canBeMet {D : Nat → Nat} {n nd put op : Nat} (hD : zh_D mem D n) (hnd : mem 379 2 = nI nd) (hn7 : nd ≤ 7) (hp : put < 65536) (ho : op < 65536) (hQ : ∀ (m' : az_M) (ok : Bool) (t sn : Nat), zh_fr mem m' → (∀ j, 7 ≤ j → m' 379 j = mem 379 j) → m' 379 5 = nI t → m' 379 6 = nI sn → (ok = false → ∃ i, i < n ∧ zn_pc (put &&& D i) + zn_pc (op &&& D i) < nd) → (ok = true → (∀ q, t.testBit q = true → op.testBit q = true) ∧ t < 65536 ∧ sn ≤ 16 ∧ (t = 0 → zh_meet D n nd put) ∧ ∀ s, zh_cb put op s = true → zh_meet D n nd s → sn ≤ zn_pc (s &&& op)) → Q (some (.inl (if ok = true then 1 else 0))) m') : az_Sp X (d + 1) mX1_canBeMet [.inr 379, .inl (nI put), .inl (nI op)] mem Q := by
  obtain ⟨h1, h2, h3⟩ := hD
  refine az_body (by decide +kernel) (Nat.le_of_ble_eq_true rfl) ?_
  show az_Ev X _ mX1_canBeMet 0 [some (.inr 379), some (.inl (nI put)), some (.inl (nI op)), none, none, none, none, none, none] [] mem Q
  refine az_bipush (v := 16) dX1_canBeMet_0 (by decide) ?_
  refine az_istoren dX1_canBeMet_2 (by decide) ?_
  dsimp only [List.set]
  refine az_iconst (v := 0) dX1_canBeMet_3 (by decide) ?_
  refine az_istore dX1_canBeMet_4 (by decide) ?_
  dsimp only [List.set]
  refine az_aloadn dX1_canBeMet_6 rfl ?_
  refine az_iconst (v := 0) dX1_canBeMet_7 (by decide) ?_
  refine az_puti dX1_canBeMet_8 plX1_28 sh_379 rfl ?_
  refine az_aloadn dX1_canBeMet_11 rfl ?_
  refine az_iconst (v := 0) dX1_canBeMet_12 (by decide) ?_
  refine az_puti dX1_canBeMet_13 plX1_31 sh_379 rfl ?_
  refine az_iconst (v := 0) dX1_canBeMet_16 (by decide) ?_
  refine az_istore dX1_canBeMet_17 (by decide) ?_
  dsimp only [List.set]
  skip
  refine az_up (fun i => ∀ (m' : az_M) (ls ct t sn : Nat) (L6 L7 L8 : Option az_V), zh_fr mem m' → (∀ j, 7 ≤ j → m' 379 j = mem 379 j) → m' 379 5 = nI t → m' 379 6 = nI sn → zh_J D nd put op i ls ct t sn → az_Ev X (d + 1) mX1_canBeMet 19 [some (.inr 379), some (.inl (nI put)), some (.inl (nI op)), some (.inl (nI ls)), some (.inl (nI ct)), some (.inl (nI i)), L6, L7, L8] [] m' Q) n 0 (by omega) (fun i _ hi ih m' ls ct t sn L6 L7 L8 f1 f2 f5 f6 hJ => ?_) (fun m' ls ct t sn L6 L7 L8 f1 f2 f5 f6 hJ => ?_) _ 16 0 0 0 none none none (zh_fr_w (zh_fr_w zh_fr_refl (by decide) (by decide)) (by decide) (by decide)) (fun j hj => by rw [az_w_same]; unfold upd; rw [if_neg (by omega), az_w_same]; unfold upd; rw [if_neg (by omega)]) (by simp [az_w_same, upd]; rfl) (by simp [az_w_same, upd]; rfl) (by unfold zh_J; exact ⟨by omega, fun q hq => absurd hq (by rw [Nat.zero_testBit]; decide), by omega, fun q hq => absurd hq (by rw [Nat.zero_testBit]; decide), by omega, Nat.zero_le _, fun _ => ⟨rfl, fun j hj => absurd hj (by omega)⟩, fun _ _ _ => Nat.zero_le _⟩)
  · have hDi := (h3 i hi).2
    have k1 : m' 379 1 = nI n := by rw [f1.2 1 (by omega)]; exact h1
    have k2 : m' 379 2 = nI nd := by rw [f1.2 2 (by omega)]; exact hnd
    have k3 : m' 380 i = nI (D i) := by rw [f1.1 380 (by decide)]; exact (h3 i hi).1
    have b1 := zn_pc_le (put &&& D i)
    have b2 := zn_pc_le (op &&& D i)
    have l1 : put &&& D i < 65536 := Nat.lt_of_le_of_lt Nat.and_le_left hp
    have l2 : op &&& D i < 65536 := Nat.lt_of_le_of_lt Nat.and_le_left ho
    have l3 : (op &&& D i) &&& ct < 65536 := Nat.lt_of_le_of_lt Nat.and_le_left l2
    refine az_iload dX1_canBeMet_19 rfl ?_
    refine az_aloadn dX1_canBeMet_21 rfl ?_
    refine az_geti dX1_canBeMet_22 flX1_15 sh_379 rfl ?_
    rw [k1]
    refine az_icmpge (t := 127) dX1_canBeMet_25 (by decide) (fun h25 => ?_) (fun h25 => ?_)
    · exact absurd h25 (nI_ge (by omega) (by omega))
    refine az_aloadn dX1_canBeMet_28 rfl ?_
    refine az_geti dX1_canBeMet_29 flX1_19 sh_379 rfl ?_
    rw [k2]
    refine az_iloadn dX1_canBeMet_32 rfl ?_
    refine az_aloadn dX1_canBeMet_33 rfl ?_
    refine az_getr dX1_canBeMet_34 flX1_9 sh_379 rfl ?_
    refine az_iload dX1_canBeMet_37 rfl ?_
    refine az_iald (i) dX1_canBeMet_39 sh_380 (by omega) (by decide) (by simp only [az_lit, nI_add, pk_mul, Nat.add_assoc]) ?_
    rw [k3]
    refine az_iand dX1_canBeMet_40 ?_
    rw [fa_and]
    refine az_ins1 (N := mJ6_bitCount_0f7a4) dX1_canBeMet_41 lsX1_102 okJ6_bitCount_0f7a4 (Nat.le_of_ble_eq_true rfl) ?_
    refine s_bitCount l1 ?_
    try dsimp only [az_ps]
    refine az_pc 44 (by decide) ?_
    refine az_isub dX1_canBeMet_44 ?_
    refine az_istore dX1_canBeMet_45 (by decide) ?_
    dsimp only [List.set]
    refine az_iload dX1_canBeMet_47 rfl ?_
    refine az_ifle (t := 121) dX1_canBeMet_49 (by decide) (fun h49 => ?_) (fun h49 => ?_)
    · refine az_iinc (w := 1) dX1_canBeMet_121 rfl (by decide) (by decide) ?_
      dsimp only [List.set]
      refine az_goto (t := 19) dX1_canBeMet_124 (by decide) ?_
      rw [nI_1]
      exact ih m' ls ct t sn _ _ _ f1 f2 f5 f6 (zh_J_met hJ ((zi_sle (by omega) (by omega)).mp h49))
    have hl : zn_pc (put &&& D i) < nd := Nat.lt_of_not_le (fun q => h49 ((zi_sle (by omega) (by omega)).mpr q))
    rw [nI_sub (Nat.le_of_lt hl)]
    refine az_iloadn dX1_canBeMet_52 rfl ?_
    refine az_aloadn dX1_canBeMet_53 rfl ?_
    refine az_getr dX1_canBeMet_54 flX1_9 sh_379 rfl ?_
    refine az_iload dX1_canBeMet_57 rfl ?_
    refine az_iald (i) dX1_canBeMet_59 sh_380 (by omega) (by decide) (by simp only [az_lit, nI_add, pk_mul, Nat.add_assoc]) ?_
    rw [k3]
    refine az_iand dX1_canBeMet_60 ?_
    rw [fa_and]
    refine az_istore dX1_canBeMet_61 (by decide) ?_
    dsimp only [List.set]
    refine az_iload dX1_canBeMet_63 rfl ?_
    refine az_ins1 (N := mJ6_bitCount_0f7a4) dX1_canBeMet_65 lsX1_102 okJ6_bitCount_0f7a4 (Nat.le_of_ble_eq_true rfl) ?_
    refine s_bitCount l2 ?_
    try dsimp only [az_ps]
    refine az_iload dX1_canBeMet_68 rfl ?_
    refine az_pc 70 (by decide) ?_
    refine az_isub dX1_canBeMet_70 ?_
    refine az_istore dX1_canBeMet_71 (by decide) ?_
    dsimp only [List.set]
    refine az_iload dX1_canBeMet_73 rfl ?_
    refine az_ifge (t := 80) dX1_canBeMet_75 (by decide) (fun h75 => ?_) (fun h75 => ?_)
    rotate_left 1
    · refine az_iconst (v := 0) dX1_canBeMet_78 (by decide) ?_
      refine az_zret dX1_canBeMet_79 rfl (Or.inl rfl) ?_
      refine hQ m' false t sn f1 f2 f5 f6 (fun _ => ⟨i, hi, ?_⟩) (fun h => absurd h (by decide))
      rcases Nat.lt_or_ge (zn_pc (put &&& D i) + zn_pc (op &&& D i)) nd with q | q
      · exact q
      · rw [nI_sub (by omega)] at h75; exact absurd (nI_pos' (by omega)) h75
    have hs : nd - zn_pc (put &&& D i) ≤ zn_pc (op &&& D i) := by
      rcases Nat.lt_or_ge (zn_pc (op &&& D i)) (nd - zn_pc (put &&& D i)) with q | q
      · exfalso
        have z : nI (zn_pc (op &&& D i)) - nI (nd - zn_pc (put &&& D i)) = 0 := Int32.le_antisymm ((zi_sle (by omega) (by omega)).mpr (by omega)) h75
        have z2 := (zi_sle (a := nd - zn_pc (put &&& D i)) (b := zn_pc (op &&& D i)) (by omega) (by omega)).mp (by rw [show nI (nd - zn_pc (put &&& D i)) - nI (zn_pc (op &&& D i)) = -(nI (zn_pc (op &&& D i)) - nI (nd - zn_pc (put &&& D i))) from (Int32.neg_sub ..).symm, z]; decide)
        omega
      · exact q
    rw [nI_sub hs]
    refine az_iload dX1_canBeMet_80 rfl ?_
    refine az_iloadn dX1_canBeMet_82 rfl ?_
    refine az_icmpge (t := 95) dX1_canBeMet_83 (by decide) (fun h83 => ?_) (fun h83 => ?_)
    · refine az_iload dX1_canBeMet_95 rfl ?_
      refine az_iload dX1_canBeMet_97 rfl ?_
      try rw [fa_and]
      refine az_iand dX1_canBeMet_99 ?_
      rw [fa_and]
      refine az_ifne (t := 121) dX1_canBeMet_100 (by decide) (fun h100 => ?_) (fun h100 => ?_)
      · refine az_iinc (w := 1) dX1_canBeMet_121 rfl (by decide) (by decide) ?_
        dsimp only [List.set]
        refine az_goto (t := 19) dX1_canBeMet_124 (by decide) ?_
        rw [nI_1]
        have hls := hJ.1
        have fw : ∀ (m : az_M) v j, 7 ≤ j → (∀ j, 7 ≤ j → m 379 j = mem 379 j) → ∀ w, w < 7 → az_w m 379 w v 379 j = mem 379 j := fun m v j hj hm w hw => by rw [az_w_same]; unfold upd; rw [if_neg (by omega)]; exact hm j hj
        first
        | refine ih _ _ _ (op &&& D i) (sn + (nd - zn_pc (put &&& D i))) _ _ _ (zh_fr_w (zh_fr_w f1 (by decide) (by decide)) (by decide) (by decide)) (fun j hj => fw _ _ j hj (fun j hj => fw _ _ j hj f2 5 (by decide)) 6 (by decide)) (by simp [az_w_same, upd]) (by simp [az_w_same, upd]) (zh_J_lack ho hJ hl hs (Or.inl ⟨(nI_ltI (by omega) (by omega)).mp (Int32.not_le.mp h83), rfl, rfl⟩) (Or.inl ⟨(nI_eq (b := 0) (by omega) (by decide)).mp h100, rfl, rfl⟩))
        | refine ih _ _ _ t (sn + (nd - zn_pc (put &&& D i))) _ _ _ (zh_fr_w f1 (by decide) (by decide)) (fun j hj => fw _ _ j hj f2 6 (by decide)) (by simp [az_w_same, upd, f5]) (by simp [az_w_same, upd]) (zh_J_lack ho hJ hl hs (Or.inr ⟨(nI_leI (by omega) (by omega)).mp h83, rfl, rfl⟩) (Or.inl ⟨(nI_eq (b := 0) (by omega) (by decide)).mp h100, rfl, rfl⟩))
        | refine ih _ _ _ (op &&& D i) sn _ _ _ (zh_fr_w f1 (by decide) (by decide)) (fun j hj => fw _ _ j hj f2 5 (by decide)) (by simp [az_w_same, upd]) (by simp [az_w_same, upd, f6]) (zh_J_lack ho hJ hl hs (Or.inl ⟨(nI_ltI (by omega) (by omega)).mp (Int32.not_le.mp h83), rfl, rfl⟩) (Or.inr ⟨rfl, rfl⟩))
        | refine ih _ _ _ t sn _ _ _ f1 f2 f5 f6 (zh_J_lack ho hJ hl hs (Or.inr ⟨(nI_leI (by omega) (by omega)).mp h83, rfl, rfl⟩) (Or.inr ⟨rfl, rfl⟩))
      · refine az_iload dX1_canBeMet_103 rfl ?_
        refine az_iload dX1_canBeMet_105 rfl ?_
        skip
        refine az_ior dX1_canBeMet_107 ?_
        rw [fa_or]
        refine az_istore dX1_canBeMet_108 (by decide) ?_
        dsimp only [List.set]
        refine az_aloadn dX1_canBeMet_110 rfl ?_
        refine az_dup dX1_canBeMet_111 ?_
        refine az_geti dX1_canBeMet_112 flX1_31 sh_379 rfl ?_
        skip
        refine az_iload dX1_canBeMet_115 rfl ?_
        refine az_iadd dX1_canBeMet_117 ?_
        try rw [f6, nI_add]
        try rw [show az_w m' 379 5 (nI (op &&& D i)) 379 6 = nI sn by rw [az_w_same]; unfold upd; rw [if_neg (by decide)]; exact f6, nI_add]
        refine az_puti dX1_canBeMet_118 plX1_31 sh_379 rfl ?_
        refine az_iinc (w := 1) dX1_canBeMet_121 rfl (by decide) (by decide) ?_
        dsimp only [List.set]
        refine az_goto (t := 19) dX1_canBeMet_124 (by decide) ?_
        rw [nI_1]
        have hls := hJ.1
        have fw : ∀ (m : az_M) v j, 7 ≤ j → (∀ j, 7 ≤ j → m 379 j = mem 379 j) → ∀ w, w < 7 → az_w m 379 w v 379 j = mem 379 j := fun m v j hj hm w hw => by rw [az_w_same]; unfold upd; rw [if_neg (by omega)]; exact hm j hj
        first
        | refine ih _ _ _ (op &&& D i) (sn + (nd - zn_pc (put &&& D i))) _ _ _ (zh_fr_w (zh_fr_w f1 (by decide) (by decide)) (by decide) (by decide)) (fun j hj => fw _ _ j hj (fun j hj => fw _ _ j hj f2 5 (by decide)) 6 (by decide)) (by simp [az_w_same, upd]) (by simp [az_w_same, upd]) (zh_J_lack ho hJ hl hs (Or.inl ⟨(nI_ltI (by omega) (by omega)).mp (Int32.not_le.mp h83), rfl, rfl⟩) (Or.inl ⟨(nI_eq (b := 0) (by omega) (by decide)).mp h100, rfl, rfl⟩))
        | refine ih _ _ _ t (sn + (nd - zn_pc (put &&& D i))) _ _ _ (zh_fr_w f1 (by decide) (by decide)) (fun j hj => fw _ _ j hj f2 6 (by decide)) (by simp [az_w_same, upd, f5]) (by simp [az_w_same, upd]) (zh_J_lack ho hJ hl hs (Or.inr ⟨(nI_leI (by omega) (by omega)).mp h83, rfl, rfl⟩) (Or.inl ⟨(nI_eq (b := 0) (by omega) (by decide)).mp h100, rfl, rfl⟩))
        | refine ih _ _ _ (op &&& D i) sn _ _ _ (zh_fr_w f1 (by decide) (by decide)) (fun j hj => fw _ _ j hj f2 5 (by decide)) (by simp [az_w_same, upd]) (by simp [az_w_same, upd, f6]) (zh_J_lack ho hJ hl hs (Or.inl ⟨(nI_ltI (by omega) (by omega)).mp (Int32.not_le.mp h83), rfl, rfl⟩) (Or.inr ⟨rfl, rfl⟩))
        | refine ih _ _ _ t sn _ _ _ f1 f2 f5 f6 (zh_J_lack ho hJ hl hs (Or.inr ⟨(nI_leI (by omega) (by omega)).mp h83, rfl, rfl⟩) (Or.inr ⟨rfl, rfl⟩))
    · refine az_iload dX1_canBeMet_86 rfl ?_
      refine az_istoren dX1_canBeMet_88 (by decide) ?_
      dsimp only [List.set]
      refine az_aloadn dX1_canBeMet_89 rfl ?_
      refine az_iload dX1_canBeMet_90 rfl ?_
      refine az_puti dX1_canBeMet_92 plX1_28 sh_379 rfl ?_
      refine az_iload dX1_canBeMet_95 rfl ?_
      refine az_iload dX1_canBeMet_97 rfl ?_
      try rw [fa_and]
      refine az_iand dX1_canBeMet_99 ?_
      rw [fa_and]
      refine az_ifne (t := 121) dX1_canBeMet_100 (by decide) (fun h100 => ?_) (fun h100 => ?_)
      · refine az_iinc (w := 1) dX1_canBeMet_121 rfl (by decide) (by decide) ?_
        dsimp only [List.set]
        refine az_goto (t := 19) dX1_canBeMet_124 (by decide) ?_
        rw [nI_1]
        have hls := hJ.1
        have fw : ∀ (m : az_M) v j, 7 ≤ j → (∀ j, 7 ≤ j → m 379 j = mem 379 j) → ∀ w, w < 7 → az_w m 379 w v 379 j = mem 379 j := fun m v j hj hm w hw => by rw [az_w_same]; unfold upd; rw [if_neg (by omega)]; exact hm j hj
        first
        | refine ih _ _ _ (op &&& D i) (sn + (nd - zn_pc (put &&& D i))) _ _ _ (zh_fr_w (zh_fr_w f1 (by decide) (by decide)) (by decide) (by decide)) (fun j hj => fw _ _ j hj (fun j hj => fw _ _ j hj f2 5 (by decide)) 6 (by decide)) (by simp [az_w_same, upd]) (by simp [az_w_same, upd]) (zh_J_lack ho hJ hl hs (Or.inl ⟨(nI_ltI (by omega) (by omega)).mp (Int32.not_le.mp h83), rfl, rfl⟩) (Or.inl ⟨(nI_eq (b := 0) (by omega) (by decide)).mp h100, rfl, rfl⟩))
        | refine ih _ _ _ t (sn + (nd - zn_pc (put &&& D i))) _ _ _ (zh_fr_w f1 (by decide) (by decide)) (fun j hj => fw _ _ j hj f2 6 (by decide)) (by simp [az_w_same, upd, f5]) (by simp [az_w_same, upd]) (zh_J_lack ho hJ hl hs (Or.inr ⟨(nI_leI (by omega) (by omega)).mp h83, rfl, rfl⟩) (Or.inl ⟨(nI_eq (b := 0) (by omega) (by decide)).mp h100, rfl, rfl⟩))
        | refine ih _ _ _ (op &&& D i) sn _ _ _ (zh_fr_w f1 (by decide) (by decide)) (fun j hj => fw _ _ j hj f2 5 (by decide)) (by simp [az_w_same, upd]) (by simp [az_w_same, upd, f6]) (zh_J_lack ho hJ hl hs (Or.inl ⟨(nI_ltI (by omega) (by omega)).mp (Int32.not_le.mp h83), rfl, rfl⟩) (Or.inr ⟨rfl, rfl⟩))
        | refine ih _ _ _ t sn _ _ _ f1 f2 f5 f6 (zh_J_lack ho hJ hl hs (Or.inr ⟨(nI_leI (by omega) (by omega)).mp h83, rfl, rfl⟩) (Or.inr ⟨rfl, rfl⟩))
      · refine az_iload dX1_canBeMet_103 rfl ?_
        refine az_iload dX1_canBeMet_105 rfl ?_
        skip
        refine az_ior dX1_canBeMet_107 ?_
        rw [fa_or]
        refine az_istore dX1_canBeMet_108 (by decide) ?_
        dsimp only [List.set]
        refine az_aloadn dX1_canBeMet_110 rfl ?_
        refine az_dup dX1_canBeMet_111 ?_
        refine az_geti dX1_canBeMet_112 flX1_31 sh_379 rfl ?_
        skip
        refine az_iload dX1_canBeMet_115 rfl ?_
        refine az_iadd dX1_canBeMet_117 ?_
        try rw [f6, nI_add]
        try rw [show az_w m' 379 5 (nI (op &&& D i)) 379 6 = nI sn by rw [az_w_same]; unfold upd; rw [if_neg (by decide)]; exact f6, nI_add]
        refine az_puti dX1_canBeMet_118 plX1_31 sh_379 rfl ?_
        refine az_iinc (w := 1) dX1_canBeMet_121 rfl (by decide) (by decide) ?_
        dsimp only [List.set]
        refine az_goto (t := 19) dX1_canBeMet_124 (by decide) ?_
        rw [nI_1]
        have hls := hJ.1
        have fw : ∀ (m : az_M) v j, 7 ≤ j → (∀ j, 7 ≤ j → m 379 j = mem 379 j) → ∀ w, w < 7 → az_w m 379 w v 379 j = mem 379 j := fun m v j hj hm w hw => by rw [az_w_same]; unfold upd; rw [if_neg (by omega)]; exact hm j hj
        first
        | refine ih _ _ _ (op &&& D i) (sn + (nd - zn_pc (put &&& D i))) _ _ _ (zh_fr_w (zh_fr_w f1 (by decide) (by decide)) (by decide) (by decide)) (fun j hj => fw _ _ j hj (fun j hj => fw _ _ j hj f2 5 (by decide)) 6 (by decide)) (by simp [az_w_same, upd]) (by simp [az_w_same, upd]) (zh_J_lack ho hJ hl hs (Or.inl ⟨(nI_ltI (by omega) (by omega)).mp (Int32.not_le.mp h83), rfl, rfl⟩) (Or.inl ⟨(nI_eq (b := 0) (by omega) (by decide)).mp h100, rfl, rfl⟩))
        | refine ih _ _ _ t (sn + (nd - zn_pc (put &&& D i))) _ _ _ (zh_fr_w f1 (by decide) (by decide)) (fun j hj => fw _ _ j hj f2 6 (by decide)) (by simp [az_w_same, upd, f5]) (by simp [az_w_same, upd]) (zh_J_lack ho hJ hl hs (Or.inr ⟨(nI_leI (by omega) (by omega)).mp h83, rfl, rfl⟩) (Or.inl ⟨(nI_eq (b := 0) (by omega) (by decide)).mp h100, rfl, rfl⟩))
        | refine ih _ _ _ (op &&& D i) sn _ _ _ (zh_fr_w f1 (by decide) (by decide)) (fun j hj => fw _ _ j hj f2 5 (by decide)) (by simp [az_w_same, upd]) (by simp [az_w_same, upd, f6]) (zh_J_lack ho hJ hl hs (Or.inl ⟨(nI_ltI (by omega) (by omega)).mp (Int32.not_le.mp h83), rfl, rfl⟩) (Or.inr ⟨rfl, rfl⟩))
        | refine ih _ _ _ t sn _ _ _ f1 f2 f5 f6 (zh_J_lack ho hJ hl hs (Or.inr ⟨(nI_leI (by omega) (by omega)).mp h83, rfl, rfl⟩) (Or.inr ⟨rfl, rfl⟩))
  · have k1 : m' 379 1 = nI n := by rw [f1.2 1 (by omega)]; exact h1
    refine az_iload dX1_canBeMet_19 rfl ?_
    refine az_aloadn dX1_canBeMet_21 rfl ?_
    refine az_geti dX1_canBeMet_22 flX1_15 sh_379 rfl ?_
    rw [k1]
    refine az_icmpge (t := 127) dX1_canBeMet_25 (by decide) (fun h25 => ?_) (fun h25 => ?_)
    rotate_left 1
    · exact absurd (Int32.le_refl _) h25
    refine az_iconst (v := 1) dX1_canBeMet_127 (by decide) ?_
    refine az_zret dX1_canBeMet_128 rfl (by first | exact Or.inl rfl | exact Or.inr rfl | assumption) ?_
    refine hQ m' true t sn f1 f2 f5 f6 (fun h => absurd h (by decide)) (fun _ => ⟨hJ.2.2.2.1, hJ.2.2.2.2.1, Nat.le_trans hJ.2.2.2.2.2.1 (zn_pc_le _), fun e => (hJ.2.2.2.2.2.2.1 e).2, fun s hs hm => Nat.le_trans (hJ.2.2.2.2.2.2.2 s hs hm) (zn_pc_mono (fun q hq => ?_))⟩)
    rw [Nat.testBit_and, Bool.and_eq_true] at hq ⊢
    exact ⟨hq.1, hJ.2.1 q hq.2⟩
end CO

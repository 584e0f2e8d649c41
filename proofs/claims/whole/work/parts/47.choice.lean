/-! the class's search -/
theorem nI_sub {a b : Nat} (h : b ≤ a) : nI a - nI b = nI (a - b) := by
  have : nI a = nI (a - b) + nI b := by rw [nI_add]; congr 1; omega
  rw [this, Int32.add_sub_cancel]
theorem zi_sle {a b : Nat} (ha : a < 1000) (hb : b < 1000) : nI a - nI b ≤ 0 ↔ a ≤ b := by
  rw [fa_le, fb_subI, nI_toInt (by omega), nI_toInt (by omega), show (0 : Int32).toInt = 0 from rfl]
  · omega
  · rw [nI_toInt (by omega), nI_toInt (by omega)]; omega
  · rw [nI_toInt (by omega), nI_toInt (by omega)]; omega
def zh_fr (mem m' : az_M) : Prop := (∀ q, q ≠ 379 → m' q = mem q) ∧ ∀ j, (j < 5 ∨ 9 < j) → m' 379 j = mem 379 j
def zh_E (mem : az_M) (D : Nat → Nat) (n nd : Nat) (c : Nat → Nat) (lc N : Nat) : Prop := zh_D mem D n ∧ mem 379 2 = nI nd ∧ nd ≤ 7 ∧ mem 379 4 = nI lc ∧ lc ≤ 1000 ∧ ∀ p, p < N → mem 381 p = nI (c p) ∧ lc ≤ c p ∧ 1 ≤ c p ∧ c p ≤ 1000
theorem zh_fr_refl {mem : az_M} : zh_fr mem mem := ⟨fun _ _ => rfl, fun _ _ => rfl⟩
theorem zh_fr_trans {m0 m1 m2 : az_M} (h1 : zh_fr m0 m1) (h2 : zh_fr m1 m2) : zh_fr m0 m2 := ⟨fun q hq => by rw [h2.1 q hq, h1.1 q hq], fun j hj => by rw [h2.2 j hj, h1.2 j hj]⟩
theorem zh_fr_w {m0 m1 : az_M} {j : Nat} {v : Int32} (h : zh_fr m0 m1) (h1 : 5 ≤ j) (h2 : j ≤ 9) : zh_fr m0 (az_w m1 379 j v) := ⟨fun q hq => by rw [az_w_ne _ hq]; exact h.1 q hq, fun i hi => by rw [az_w_same]; unfold upd; rw [if_neg (by omega)]; exact h.2 i hi⟩
theorem zh_E_fr {mem m' : az_M} {D c : Nat → Nat} {n nd lc N : Nat} (hf : zh_fr mem m') (h : zh_E mem D n nd c lc N) : zh_E m' D n nd c lc N := by
  obtain ⟨⟨h1, h2, h3⟩, h4, h5, h6, h7, h8⟩ := h
  refine ⟨⟨?_, h2, ?_⟩, ?_, h5, ?_, h7, ?_⟩
  · rw [hf.2 1 (by omega)]; exact h1
  · rw [hf.1 380 (by decide)]; exact h3
  · rw [hf.2 2 (by omega)]; exact h4
  · rw [hf.2 4 (by omega)]; exact h6
  · rw [hf.1 381 (by decide)]; exact h8
def zh_J (D : Nat → Nat) (nd put op i ls ct t sn : Nat) : Prop := ls ≤ 16 ∧ (∀ q, ct.testBit q = true → op.testBit q = true) ∧ ct < 65536 ∧ (∀ q, t.testBit q = true → op.testBit q = true) ∧ t < 65536 ∧ sn ≤ zn_pc ct ∧ (t = 0 → ls = 16 ∧ zh_meet D i nd put) ∧ ∀ s, zh_cb put op s = true → zh_meet D i nd s → sn ≤ zn_pc (s &&& ct)
theorem zh_meet_succ {D : Nat → Nat} {i nd s : Nat} : zh_meet D (i + 1) nd s ↔ zh_meet D i nd s ∧ nd ≤ zn_pc (s &&& D i) := by
  constructor
  · intro h; exact ⟨fun j hj => h j (by omega), h i (by omega)⟩
  · rintro ⟨h1, h2⟩ j hj
    by_cases e : j = i
    · rw [e]; exact h2
    · exact h1 j (by omega)
theorem zh_J_met {D : Nat → Nat} {nd put op i ls ct t sn : Nat} (h : zh_J D nd put op i ls ct t sn) (hm : nd ≤ zn_pc (put &&& D i)) : zh_J D nd put op (i + 1) ls ct t sn := by
  obtain ⟨h1, h2, h3, h4, h5, h6, h7, h8⟩ := h
  exact ⟨h1, h2, h3, h4, h5, h6, fun e => ⟨(h7 e).1, zh_meet_succ.mpr ⟨(h7 e).2, hm⟩⟩, fun s hs hm => h8 s hs (zh_meet_succ.mp hm).1⟩
theorem zn_pc_0 : zn_pc 0 = 0 := by decide +kernel
theorem zh_J_lack {D : Nat → Nat} {nd put op i ls ct t sn ls' ct' t' sn' : Nat} (ho : op < 65536) (h : zh_J D nd put op i ls ct t sn) (hm : zn_pc (put &&& D i) < nd) (hf : nd - zn_pc (put &&& D i) ≤ zn_pc (op &&& D i)) (hA : (zn_pc (op &&& D i) - (nd - zn_pc (put &&& D i)) < ls ∧ ls' = zn_pc (op &&& D i) - (nd - zn_pc (put &&& D i)) ∧ t' = op &&& D i) ∨ (ls ≤ zn_pc (op &&& D i) - (nd - zn_pc (put &&& D i)) ∧ ls' = ls ∧ t' = t))
    (hB : ((op &&& D i) &&& ct = 0 ∧ ct' = ct ||| (op &&& D i) ∧ sn' = sn + (nd - zn_pc (put &&& D i))) ∨ (ct' = ct ∧ sn' = sn)) : zh_J D nd put op (i + 1) ls' ct' t' sn' := by
  obtain ⟨h1, h2, h3, h4, h5, h6, h7, h8⟩ := h
  have hsub : ∀ q, (op &&& D i).testBit q = true → op.testBit q = true := fun q hq => by rw [Nat.testBit_and, Bool.and_eq_true] at hq; exact hq.1
  have hlt : op &&& D i < 65536 := Nat.lt_of_le_of_lt Nat.and_le_left ho
  have h16 := zn_pc_le (op &&& D i)
  have hne : (op &&& D i) ≠ 0 := fun e => by rw [e, zn_pc_0] at hf; omega
  have gA : ls' ≤ 16 ∧ (∀ q, t'.testBit q = true → op.testBit q = true) ∧ t' < 65536 ∧ t' ≠ 0 := by
    rcases hA with ⟨a1, a2, a3⟩ | ⟨a1, a2, a3⟩
    · rw [a2, a3]; exact ⟨by omega, hsub, hlt, hne⟩
    · rw [a2, a3]; exact ⟨h1, h4, h5, fun e => by have := (h7 e).1; omega⟩
  have gB : (∀ q, ct'.testBit q = true → op.testBit q = true) ∧ ct' < 65536 ∧ sn' ≤ zn_pc ct' ∧ ∀ s, zh_cb put op s = true → zh_meet D (i + 1) nd s → sn' ≤ zn_pc (s &&& ct') := by
    rcases hB with ⟨b1, b2, b3⟩ | ⟨b2, b3⟩
    · rw [b2, b3]
      have b1' : ct &&& (op &&& D i) = 0 := by rw [Nat.and_comm]; exact b1
      refine ⟨fun q hq => ?_, Nat.or_lt_two_pow (n := 16) h3 hlt, ?_, fun s hs hms => ?_⟩
      · rw [Nat.testBit_or, Bool.or_eq_true] at hq
        exact hq.elim (h2 q) (hsub q)
      · rw [zn_pc_or b1']; omega
      · have ih := h8 s hs (zh_meet_succ.mp hms).1
        have hn := (zh_meet_succ.mp hms).2
        have e : s &&& (ct ||| (op &&& D i)) = (s &&& ct) ||| (s &&& (op &&& D i)) := Nat.and_or_distrib_left ..
        have z : (s &&& ct) &&& (s &&& (op &&& D i)) = 0 := by
          apply Nat.eq_of_testBit_eq
          intro q
          have : (ct &&& (op &&& D i)).testBit q = false := by rw [b1', Nat.zero_testBit]
          rw [Nat.testBit_and] at this
          rw [Nat.testBit_and, Nat.testBit_and, Nat.testBit_and, Nat.zero_testBit]
          cases h1 : ct.testBit q <;> cases h2 : (op &&& D i).testBit q <;> simp_all
        rw [e, zn_pc_or z]
        have hc := zh_cb_iff.mp hs
        have : zn_pc (s &&& D i) ≤ zn_pc (put &&& D i) + zn_pc (s &&& (op &&& D i)) := zn_pc_le_or (fun q hq => by
          rw [Nat.testBit_and, Bool.and_eq_true] at hq
          rw [Nat.testBit_and, Nat.testBit_and, Nat.testBit_and]
          rcases hc.2 q hq.1 with g | g
          · left; rw [g, hq.2]; rfl
          · right; rw [hq.1, g, hq.2]; rfl)
        omega
    · rw [b2, b3]; exact ⟨h2, h3, h6, fun s hs hms => h8 s hs (zh_meet_succ.mp hms).1⟩
  exact ⟨gA.1, gB.1, gB.2.1, gA.2.1, gA.2.2.1, gB.2.2.1, fun e => absurd e gA.2.2.2, gB.2.2.2⟩
section CN
variable {X : az_X} {d : Nat} {mem : az_M} {Q : Option az_V → az_M → Prop} {N : Nat}
theorem s_X1_takeIfBest {B S C sum set : Nat} (h7 : mem 379 7 = nI B) (h8 : mem 379 8 = nI S) (h9 : mem 379 9 = nI C) (hB : B < 2 ^ 30) (hS : S < 2 ^ 30) (hs : sum < 2 ^ 30) (ht : set < 2 ^ 30) (hQ : ∀ m', zh_fr mem m' → m' 379 7 = nI (zh_tk B S C sum set).1 → m' 379 8 = nI (zh_tk B S C sum set).2.1 → m' 379 9 = nI (zh_tk B S C sum set).2.2 → Q none m') : az_Sp X (d + 1) mX1_takeIfBest [.inr 379, .inl (nI set), .inl (nI sum)] mem Q := by
  unfold zh_tk at hQ
  refine az_body (by decide +kernel) (Nat.le_of_ble_eq_true rfl) ?_
  show az_Ev X _ mX1_takeIfBest 0 [some (.inr 379), some (.inl (nI set)), some (.inl (nI sum))] [] mem Q
  refine az_iloadn dX1_takeIfBest_0 rfl ?_
  refine az_aloadn dX1_takeIfBest_1 rfl ?_
  refine az_geti dX1_takeIfBest_2 flX1_34 sh_379 rfl ?_
  rw [h7]
  refine az_icmpge (t := 26) dX1_takeIfBest_5 (by decide) (fun h5 => ?_) (fun h5 => ?_)
  · rw [if_neg (fun q => absurd h5 (Int32.not_le.mpr (nI_lt q (by omega))))] at hQ
    refine az_iloadn dX1_takeIfBest_26 rfl ?_
    refine az_aloadn dX1_takeIfBest_27 rfl ?_
    refine az_geti dX1_takeIfBest_28 flX1_34 sh_379 rfl ?_
    rw [h7]
    refine az_icmpne (t := 56) dX1_takeIfBest_31 (by decide) (fun h31 => ?_) (fun h31 => ?_)
    · rw [if_neg (fun q => h31 (by rw [q]))] at hQ
      refine az_vret dX1_takeIfBest_56 rfl ?_
      first
      | exact hQ _ zh_fr_refl h7 h8 h9
      | (refine hQ _ (zh_fr_w (zh_fr_w (zh_fr_w zh_fr_refl (by decide) (by decide)) (by decide) (by decide)) (by decide) (by decide)) ?_ ?_ ?_ <;> (simp only [az_w_same, upd]; first | rfl | simp; done | (simp; rfl)))
      | (refine hQ _ (zh_fr_w (zh_fr_w zh_fr_refl (by decide) (by decide)) (by decide) (by decide)) ?_ ?_ ?_ <;> (simp only [az_w_same, upd]; simp [h7, h9, nI_1]; done))
    · rw [if_pos ((nI_eq (by omega) (by omega)).mp h31)] at hQ
      refine az_aloadn dX1_takeIfBest_34 rfl ?_
      refine az_aloadn dX1_takeIfBest_35 rfl ?_
      refine az_geti dX1_takeIfBest_36 flX1_37 sh_379 rfl ?_
      refine az_iloadn dX1_takeIfBest_39 rfl ?_
      rw [h8]
      refine az_min dX1_takeIfBest_40 lsX1_54 (Nat.le_of_ble_eq_true rfl) (by omega) ?_
      rw [show (if nI set < nI S then nI set else nI S) = nI (if set < S then set else S) from by by_cases q : set < S <;> simp [q, nI_ltI (show set < 2 ^ 31 by omega) (show S < 2 ^ 31 by omega)]]
      refine az_puti dX1_takeIfBest_43 plX1_37 sh_379 rfl ?_
      refine az_aloadn dX1_takeIfBest_46 rfl ?_
      refine az_dup dX1_takeIfBest_47 ?_
      refine az_geti dX1_takeIfBest_48 flX1_40 sh_379 rfl ?_
      refine az_iconst (v := 1) dX1_takeIfBest_51 (by decide) ?_
      refine az_iadd dX1_takeIfBest_52 ?_
      refine az_puti dX1_takeIfBest_53 plX1_40 sh_379 rfl ?_
      refine az_vret dX1_takeIfBest_56 rfl ?_
      first
      | exact hQ _ zh_fr_refl h7 h8 h9
      | (refine hQ _ (zh_fr_w (zh_fr_w (zh_fr_w zh_fr_refl (by decide) (by decide)) (by decide) (by decide)) (by decide) (by decide)) ?_ ?_ ?_ <;> (simp only [az_w_same, upd]; first | rfl | simp; done | (simp; rfl)))
      | (refine hQ _ (zh_fr_w (zh_fr_w zh_fr_refl (by decide) (by decide)) (by decide) (by decide)) ?_ ?_ ?_ <;> (simp only [az_w_same, upd]; simp [h7, h9, nI_1]; done))
  · rw [if_pos ((nI_ltI (by omega) (by omega)).mp (Int32.not_le.mp h5))] at hQ
    refine az_aloadn dX1_takeIfBest_8 rfl ?_
    refine az_iloadn dX1_takeIfBest_9 rfl ?_
    refine az_puti dX1_takeIfBest_10 plX1_34 sh_379 rfl ?_
    refine az_aloadn dX1_takeIfBest_13 rfl ?_
    refine az_iloadn dX1_takeIfBest_14 rfl ?_
    refine az_puti dX1_takeIfBest_15 plX1_37 sh_379 rfl ?_
    refine az_aloadn dX1_takeIfBest_18 rfl ?_
    refine az_iconst (v := 1) dX1_takeIfBest_19 (by decide) ?_
    refine az_puti dX1_takeIfBest_20 plX1_40 sh_379 rfl ?_
    refine az_goto (t := 56) dX1_takeIfBest_23 (by decide) ?_
    refine az_vret dX1_takeIfBest_56 rfl ?_
    first
    | exact hQ _ zh_fr_refl h7 h8 h9
    | (refine hQ _ (zh_fr_w (zh_fr_w (zh_fr_w zh_fr_refl (by decide) (by decide)) (by decide) (by decide)) (by decide) (by decide)) ?_ ?_ ?_ <;> (simp only [az_w_same, upd]; first | rfl | simp; done | (simp; rfl)))
    | (refine hQ _ (zh_fr_w (zh_fr_w zh_fr_refl (by decide) (by decide)) (by decide) (by decide)) ?_ ?_ ?_ <;> (simp only [az_w_same, upd]; simp [h7, h9, nI_1]; done))
end CN

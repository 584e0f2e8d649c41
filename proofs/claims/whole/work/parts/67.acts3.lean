/-! words, the tape, undo -/
theorem zn_pc_put {wd p : Nat} (hp : p < 16) (hb : wd.testBit p = false) : zn_pc (wd ||| 2 ^ p) = zn_pc wd + 1 := by
  unfold zn_pc
  have := fb_ct_upd (fun i => wd.testBit i) true (i := p) (n := 16) hp
  simp only [hb, Bool.false_eq_true, if_false, Nat.add_zero, if_true] at this
  rw [← this]
  refine fb_ct_cong (fun k _ => ?_)
  rw [fb_bit_set]
  by_cases e : k = p <;> simp [e]
/-- the tape alone (and what the reference looks up) has changed -/
theorem zI_tape {mem m2 : az_M} {N T C U U' : Nat} (h : zI mem N T C U) (hk : ∀ k, k ≠ 369 → k ≠ 370 → k ≠ 391 → k ≠ 394 → k ≠ 395 → k ≠ 396 → m2 k = mem k) (h1 : ∀ j, j ≠ 5 → m2 391 j = mem 391 j) (hF : zF m2 N) (h5 : m2 391 5 = nI U') (h9 : m2 369 1 = nI U') (hU : U' ≤ 400) (ht : ∀ i, i < U' → m2 394 i = m2 370 i) : zI m2 N T C U' := by
  obtain ⟨i1, i2, i3, i4, i5, ⟨i6, i6', _⟩, i7, _, _, _, _⟩ := h
  have g : ∀ k, k < 369 → m2 k = mem k := fun k hh => hk k (by omega) (by omega) (by omega) (by omega) (by omega) (by omega)
  refine ⟨?_, ?_, ?_, fun k hkC => ?_, fun i hi => ?_, ⟨?_, ?_, hF⟩, ?_, h5, h9, hU, ht⟩
  · exact zN_congr (fun j _ => by rw [g 1 (by decide)]) (fun i _ => by rw [g 2 (by decide)]) (fun q i _ _ _ => by rw [g (1 + q) (by omega)]) (fun k _ => by rw [hk 392 (by decide) (by decide) (by decide) (by decide) (by decide) (by decide)]) i1
  · unfold zc_H; rw [g 7 (by decide)]; exact i2
  · unfold zm_H; rw [h1 3 (by decide), h1 2 (by decide)]; exact i3
  · obtain ⟨n, hn⟩ := i4 k hkC
    have hm : (T + 60 - (k + 1)) % 60 < 60 := Nat.mod_lt _ (by decide)
    exact ⟨n, zN_congr (fun j _ => by rw [g _ (by omega)]) (fun i _ => by rw [g _ (by omega)]) (fun q i _ _ _ => by rw [g _ (by omega)]) (fun k _ => by rw [hk 393 (by decide) (by decide) (by decide) (by decide) (by decide) (by decide)]) hn⟩
  · unfold zc_Z; rw [g _ (by omega)]; exact i5 i hi
  · rw [g 0 (by decide)]; exact i6
  · intro q
    rw [g 0 (by decide)] at q
    exact zC_congr (fun k hh => hk k (by omega) (by omega) (by omega) (by omega) (by omega) (by omega)) (i6' q)
  · rw [h1 6 (by decide), g 0 (by decide)]; exact i7
theorem zc_act_w {T C k0 j : Nat} {v : Int32} {mem m1 : az_M} (hT : T < 60) (hk0 : 369 ≤ k0) (h : zc_act T C mem m1) : zc_act T C (az_w mem k0 j v) (az_w m1 k0 j v) := by
  obtain ⟨ma, ⟨mb, ⟨b1, b2, b3⟩, rfl⟩, a2⟩ := h
  refine ⟨az_w (az_w mb k0 j v) 0 7 1, ⟨az_w mb k0 j v, ⟨fun k h1 h2 => ?_, fun i => ?_, fun i hi => ?_, fun i hi => ?_, fun q i h1 h2 hi => ?_⟩, rfl⟩, fun k hk => ?_⟩
  · by_cases e : k = k0
    · subst e; rw [az_w_same, az_w_same, b1 k h1 h2]
    · rw [az_w_ne _ e, az_w_ne _ e]; exact b1 k h1 h2
  · rw [az_w_ne _ (by omega), az_w_ne _ (by omega)]; exact b2 i
  · rw [az_w_ne _ (by omega), az_w_ne _ (by omega)]; exact b3.1 i hi
  · rw [az_w_ne _ (by omega), az_w_ne _ (by omega)]; exact b3.2.1 i hi
  · rw [az_w_ne _ (by omega), az_w_ne _ (by omega)]; exact b3.2.2 q i h1 h2 hi
  · by_cases e : k = k0
    · subst e; rw [az_w_same, az_w_ne _ (by omega), az_w_same, a2 k hk, az_w_ne _ (by omega)]
    · rw [az_w_ne _ e, a2 k hk]
      by_cases e0 : k = 0
      · subst e0; rw [az_w_same, az_w_same, az_w_ne _ e]
      · rw [az_w_ne _ e0, az_w_ne _ e0, az_w_ne _ e]
def zr_R (N : Nat) (S0 Lc S : Nat → Int32) : Prop := (∃ L : Nat → Nat, (∀ i, i < 256 → Lc i = nI (L i) ∧ S (7 + i) = nI (L i) ∧ L i ≤ 1000) ∧ (∀ a c, a < 16 → c < 16 → L (16 * a + c) = L (16 * c + a)) ∧ ∀ a, a < 16 → L (16 * a + a) = 0) ∧ ∀ i, (i < 7 ∨ 263 ≤ i) → S i = S0 i
theorem zr_eq {N K : Nat} {S0 tp tp' : Nat → Int32} (hN : N ≤ 16) (h0 : S0 0 = nI N) (htp : ∀ i, i < K → tp i = tp' i) : ∀ (f k m : Nat) (Lc S : Nat → Int32), zr_R N S0 Lc S → (zr_goc (nI N) tp K f k Lc m).2 = (zr_go tp' K f k S m).2 ∧ zr_R N S0 (zr_goc (nI N) tp K f k Lc m).1 (zr_go tp' K f k S m).1
  | 0, _, _, _, _, h => ⟨rfl, h⟩
  | f + 1, k, m, Lc, S, h => by
    rw [zr_goc, zr_go]
    by_cases c : k + 4 ≤ K
    · rw [if_pos c, if_pos c, htp k (by omega), htp (k + 1) (by omega), htp (k + 2) (by omega), htp (k + 3) (by omega)]
      obtain ⟨⟨L, f1, f2, f3⟩, g⟩ := id h
      have hS0 : S 0 = nI N := by rw [g 0 (by omega)]; exact h0
      have hiff := zrd_iff (a := tp' k) (b := tp' (k + 1)) (v := 256 * tp' (k + 2) + tp' (k + 3)) hN rfl hS0 f1
      by_cases r : zc_rd (nI N) Lc (tp' k) (tp' (k + 1)) (256 * tp' (k + 2) + tp' (k + 3))
      · rw [if_pos r, if_pos (hiff.mp r)]
        refine zr_eq hN h0 htp f (k + 4) (m + 1) _ _ ?_
        obtain ⟨q1, q2, q3, q4, q5, _⟩ := r
        obtain ⟨x1, x2⟩ := zi_of (N := N) (by omega) q1
        obtain ⟨y1, y2⟩ := zi_of (N := N) (by omega) q2
        obtain ⟨w, ew, hw1, hw⟩ := zi_num1 (M := 1000) (by decide) q4 q5
        have hne : (tp' k).toNatClampNeg ≠ (tp' (k + 1)).toNatClampNeg := fun e => q3 (by rw [x2, y2, e])
        unfold zr_layc zr_lay
        rw [ew]
        exact ⟨zl_lay (by omega) (by omega) hne hw f1 f2 f3, fun i hi => by rw [upd_ne (by omega), upd_ne (by omega)]; exact g i hi⟩
      · rw [if_neg r, if_neg (fun q => r (hiff.mpr q))]
        exact ⟨rfl, h⟩
    · rw [if_neg c, if_neg c]; exact ⟨rfl, h⟩
section DC
variable {X : az_X} {d : Nat}
theorem ok_word {p v : Int32} : z_Ok X d mX7_word mX8_word [.inl p, .inl v] := by
  rintro mem ⟨N, T, C, U, hI⟩
  have hn := hI.1
  have hT := hI.2.1.2.1
  have hN := hn.1.2.2.2
  have hF0 := hI.2.2.2.2.2.1.2.2
  obtain ⟨wd, w1, w2, w3, w4, w5⟩ := hn.2.2.2.2.1
  have hiff : ((0 ≤ p ∧ p < nI N) ∧ wd.testBit p.toNatClampNeg = false) ↔ ((0 ≤ p ∧ p < nI N) ∧ mem 392 (311 + p.toNatClampNeg) ≠ 1) := by
    refine and_congr_right (fun hp => ?_)
    have hx := (zi_of (N := N) (by omega) hp).1
    rw [w4 _ (by omega)]
    cases wd.testBit p.toNatClampNeg <;> simp
  refine s_X7_word (d := d + 25) hn.1.1 hN w2 w1 hI.2.1 (zN_Z hn) (fun e => ⟨_, rfl, ?_⟩) (fun hc m1 hA h1 h6 hk => ⟨_, rfl, ?_⟩)
  · exact s_X8_word (d := d + 28) hn.1.2.1 hN hI.2.2.1 hF0 (fun _ => ⟨rfl, N, T, C, U, hI⟩) (fun q => absurd (hiff.mpr q) e)
  · obtain ⟨a1, a2, a3, a4⟩ := zc_act_get hT hA
    have e392 : m1 392 = mem 392 := a1 392 (by omega) (by omega)
    have e391 : m1 391 = mem 391 := a1 391 (by omega) (by omega)
    have hp := (zi_of (N := N) (by omega) hc.1).1
    have hput := zn_pc_put (wd := wd) (p := p.toNatClampNeg) (by omega) hc.2
    refine s_X8_word (d := d + 28) (by rw [e392]; exact hn.1.2.1) hN (by unfold zm_H; rw [e391]; exact hI.2.2.1) (zF_congr e392 (a1 395 (by omega) (by omega)) (a1 396 (by omega) (by omega)) hF0) (fun q => absurd (by rw [e392]; exact hiff.mp hc) q) (fun _ m2 hB hS hF => ⟨by rw [e392, w3, nI_1, hput], N, _, _, U, zI_act hI hA hB hF ?_⟩)
    rw [hS, e392]
    obtain ⟨⟨c1, c2, c3, c4⟩, ⟨b1, b2, b3⟩, ⟨o1, o2, o3, o4⟩, ⟨d1, d2⟩, _, l, r, pp, cc⟩ := hn
    have hne : ∀ i, i ≠ 6 → i ≠ 311 + p.toNatClampNeg → i ≠ 327 + p.toNatClampNeg → upd (upd (upd (mem 392) (311 + p.toNatClampNeg) 1) (327 + p.toNatClampNeg) v) 6 (mem 392 6 + 1) i = mem 392 i := fun i x1 x2 x3 => by rw [upd_ne x1, upd_ne x3, upd_ne x2]
    have hm : ∀ j, j ≠ 6 → m1 1 j = mem 1 j := fun j hj => by rw [h1, upd_ne hj]
    refine ⟨⟨by rw [hm 0 (by decide)]; exact c1, by rw [hne 0 (by omega) (by omega) (by omega)]; exact c2, c3, c4⟩, ⟨by rw [hm 1 (by decide), hne 1 (by omega) (by omega) (by omega)]; exact b1, by rw [hne 1 (by omega) (by omega) (by omega)]; exact b2, by rw [hm 2 (by decide), hne 2 (by omega) (by omega) (by omega)]; exact b3⟩, ⟨by rw [hm 3 (by decide), hne 3 (by omega) (by omega) (by omega)]; exact o1, by rw [hne 3 (by omega) (by omega) (by omega)]; exact o2, by rw [hm 4 (by decide), hne 4 (by omega) (by omega) (by omega)]; exact o3, by rw [hne 4 (by omega) (by omega) (by omega)]; exact o4⟩, ⟨by rw [hm 5 (by decide), hne 5 (by omega) (by omega) (by omega)]; exact d1, by rw [hne 5 (by omega) (by omega) (by omega)]; exact d2⟩, ⟨wd ||| 2 ^ p.toNatClampNeg, ?_, ?_, ?_, fun m hm16 => ?_, fun m hm16 hb => ?_⟩, zNl_cg (hk 2 (by decide) (by decide)) (fun i _ _ => hne i (by omega) (by omega) (by omega)) l, zNr_cg (hk 3 (by decide) (by decide)) (fun i _ _ => hne i (by omega) (by omega) (by omega)) r, zNp_cg (hk 4 (by decide) (by decide)) (fun i _ _ => hne i (by omega) (by omega) (by omega)) pp, zNc_cg (hk 5 (by decide) (by decide)) (fun i _ _ => hne i (by omega) (by omega) (by omega)) cc⟩
    · exact Nat.or_lt_two_pow (n := 16) w1 (Nat.pow_lt_pow_right (by decide) (by omega))
    · rw [h1, upd_eq]
    · rw [upd_eq, w3, nI_1, hput]
    · rw [fb_bit_set]
      by_cases e : m = p.toNatClampNeg
      · subst e
        rw [upd_ne (by omega), upd_ne (by omega), upd_eq]; simp
      · rw [upd_ne (by omega), upd_ne (by omega), upd_ne (by omega), w4 m hm16]; simp [e]
    · rw [fb_bit_set, Bool.or_eq_true, decide_eq_true_eq] at hb
      show _ = m1 6 m
      rw [h6]
      by_cases e : m = p.toNatClampNeg
      · subst e
        rw [upd_ne (by omega), upd_eq, upd_eq]
      · rw [upd_ne (by omega), upd_ne (by omega), upd_ne (by omega), upd_ne e]
        exact w5 m hm16 (hb.resolve_right e)
theorem ok_clear : z_Ok X d mX7_clear mX8_clear [] := by
  rintro mem ⟨N, T, C, U, hI⟩
  have hn := hI.1
  have hT := hI.2.1.2.1
  have hN := hn.1.2.2.2
  have hF0 := hI.2.2.2.2.2.1.2.2
  obtain ⟨wd, w1, w2, w3, w4, w5⟩ := hn.2.2.2.2.1
  refine s_X7_clear (d := d + 25) w2 w1 hI.2.1 (zN_Z hn) (fun m1 hA h1 hk => ⟨_, rfl, ?_⟩)
  obtain ⟨a1, a2, a3, a4⟩ := zc_act_get hT hA
  have e392 : m1 392 = mem 392 := a1 392 (by omega) (by omega)
  have e391 : m1 391 = mem 391 := a1 391 (by omega) (by omega)
  refine s_X8_clear (d := d + 28) (by rw [e392]; exact hn.1.2.1) hN (by unfold zm_H; rw [e391]; exact hI.2.2.1) (zF_congr e392 (a1 395 (by omega) (by omega)) (a1 396 (by omega) (by omega)) hF0) (fun m2 hB hS hF => ⟨by rw [e392, w3], N, _, _, U, zI_act hI hA hB hF ?_⟩)
  rw [e392] at hS
  obtain ⟨⟨c1, c2, c3, c4⟩, ⟨b1, b2, b3⟩, ⟨o1, o2, o3, o4⟩, ⟨d1, d2⟩, _, l, r, pp, cc⟩ := hn
  have hne : ∀ i, i ≠ 6 → (i < 311 ∨ 343 ≤ i) → m2 392 i = mem 392 i := fun i x1 x2 => by rw [hS, if_neg (by omega)]
  have hm : ∀ j, j ≠ 6 → m1 1 j = mem 1 j := fun j hj => by rw [h1, upd_ne hj]
  refine ⟨⟨by rw [hm 0 (by decide)]; exact c1, by rw [hne 0 (by omega) (by omega)]; exact c2, c3, c4⟩, ⟨by rw [hm 1 (by decide), hne 1 (by omega) (by omega)]; exact b1, by rw [hne 1 (by omega) (by omega)]; exact b2, by rw [hm 2 (by decide), hne 2 (by omega) (by omega)]; exact b3⟩, ⟨by rw [hm 3 (by decide), hne 3 (by omega) (by omega)]; exact o1, by rw [hne 3 (by omega) (by omega)]; exact o2, by rw [hm 4 (by decide), hne 4 (by omega) (by omega)]; exact o3, by rw [hne 4 (by omega) (by omega)]; exact o4⟩, ⟨by rw [hm 5 (by decide), hne 5 (by omega) (by omega)]; exact d1, by rw [hne 5 (by omega) (by omega)]; exact d2⟩, ⟨0, by decide, ?_, ?_, fun m hm16 => ?_, fun m hm16 hb => ?_⟩, zNl_cg (hk 2 (by decide) (by decide)) (fun i _ _ => hne i (by omega) (by omega)) l, zNr_cg (hk 3 (by decide) (by decide)) (fun i _ _ => hne i (by omega) (by omega)) r, zNp_cg (hk 4 (by decide) (by decide)) (fun i _ _ => hne i (by omega) (by omega)) pp, zNc_cg (hk 5 (by decide) (by decide)) (fun i _ _ => hne i (by omega) (by omega)) cc⟩
  · rw [h1, upd_eq]; rfl
  · rw [hS, if_pos (Or.inl rfl), zn_pc_0]; rfl
  · rw [hS, if_pos (by omega), Nat.zero_testBit]; rfl
  · rw [Nat.zero_testBit] at hb; cases hb
theorem ok_feed {a b c d' e : Int32} : z_Ok X d mX7_feed mX8_feed [.inl a, .inl b, .inl c, .inl d', .inl e] := by
  rintro mem ⟨N, T, C, U, hI⟩
  have hF0 := hI.2.2.2.2.2.1.2.2
  obtain ⟨_, h5, h9, hU, ht⟩ := hI.2.2.2.2.2.2
  refine s_X7_feed (d := d + 29) h9 hU (fun q => ⟨_, rfl, ?_⟩) (fun q m1 k1 k2 k3 => ⟨_, rfl, ?_⟩)
  · exact s_X8_feed (d := d + 29) h5 hU (fun _ => ⟨rfl, N, T, C, U, hI⟩) (fun w => absurd w q)
  · refine s_X8_feed (d := d + 29) (by rw [k1 391 (by decide) (by decide)]; exact h5) hU (fun w => absurd q w) (fun _ m2 j1 j2 j3 => ⟨rfl, N, T, C, U + 20, zI_tape hI (fun k x1 x2 x3 x4 _ _ => ?_) (fun j hj => ?_) ?_ ?_ ?_ q (fun i hi => ?_)⟩)
    · rw [j1 k x3 x4, k1 k x1 x2]
    · rw [j2, if_neg hj, k1 391 (by decide) (by decide)]
    · exact zF_congr (by rw [j1 392 (by decide) (by decide), k1 392 (by decide) (by decide)]) (by rw [j1 395 (by decide) (by decide), k1 395 (by decide) (by decide)]) (by rw [j1 396 (by decide) (by decide), k1 396 (by decide) (by decide)]) hF0
    · rw [j2, if_pos rfl]
    · rw [j1 369 (by decide) (by decide), k2, if_pos rfl]
    · rw [j3, j1 370 (by decide) (by decide), k3, k1 394 (by decide) (by decide)]
      by_cases w : U ≤ i ∧ i < U + 20
      · rw [if_pos w, if_pos w]
      · rw [if_neg w, if_neg w]; exact ht i (by omega)
theorem ok_roads {n : Int32} : z_Ok X d mX7_roads mX8_roads [.inl n] := by
  rintro mem ⟨N, T, C, U, hI⟩
  have hn := hI.1
  have hT := hI.2.1.2.1
  have hN := hn.1.2.2.2
  have hF0 := hI.2.2.2.2.2.1.2.2
  obtain ⟨_, h5, h9, hU, ht⟩ := hI.2.2.2.2.2.2
  refine s_X7_roads (d := d + 25) hn.1.1 hN hI.2.1 (zN_Z hn) h9 hU (fun q => ⟨_, rfl, ?_⟩) (fun q m1 g0 g1 => ⟨_, rfl, ?_⟩)
  · exact s_X8_roads (d := d + 27) hn.1.2.1 hN hI.2.2.1 h5 hU (fun _ => ⟨rfl, N, T, C, U, hI⟩) (fun w => absurd w q)
  · obtain ⟨w, ew, hw⟩ := zi_num (by omega) q.1 q.2
    have ewc : n.toNatClampNeg = w := by rw [ew]; exact nI_clamp (by omega)
    have hzr := zr_eq (S0 := mem 392) (K := n.toNatClampNeg) (tp := mem 370) (tp' := mem 394) hN hn.1.2.1 (fun i hi => (ht i (by omega)).symm) 100 0 0 (mem 2) (mem 392) ⟨hn.2.2.2.2.2.1, fun _ _ => rfl⟩
    have hm1 : ∀ k, 371 ≤ k → m1 k = mem k := by
      intro k hk
      rcases Nat.eq_zero_or_pos (zr_goc (nI N) (mem 370) n.toNatClampNeg 100 0 (mem 2) 0).2 with z | z
      · rw [g0 z, az_w_ne _ (by omega)]
      · obtain ⟨ma, hA, _, _, e⟩ := g1 z
        rw [e, az_w_ne _ (by omega)]
        exact (zc_act_get hT hA).1 k (by omega) (by omega)
    have e392 := hm1 392 (by decide)
    have e391 := hm1 391 (by decide)
    have e394 := hm1 394 (by decide)
    refine s_X8_roads (d := d + 27) (by rw [e392]; exact hn.1.2.1) hN (by unfold zm_H; rw [e391]; exact hI.2.2.1) (by rw [e391]; exact h5) hU (fun w => absurd q w) (fun _ m2 j0 j1 hF => ⟨by rw [e392, e394, hzr.1], ?_⟩)
    rw [e392, e394] at j0 j1
    rcases Nat.eq_zero_or_pos (zr_goc (nI N) (mem 370) n.toNatClampNeg 100 0 (mem 2) 0).2 with z | z
    · obtain ⟨x1, x2⟩ := j0 (by rw [← hzr.1]; exact z)
      have em := g0 z
      refine ⟨N, T, C, 0, zI_tape hI (fun k y1 y2 y3 y4 y5 y6 => ?_) (fun j hj => ?_) hF ?_ ?_ (by omega) (fun i hi => absurd hi (by omega))⟩
      · rw [x1 k y3 y5 y6, em, az_w_ne _ y1]
      · rw [x2, if_neg hj, e391]
      · rw [x2, if_pos rfl]; rfl
      · rw [x1 369 (by decide) (by decide) (by decide), em, az_w_same]; simp [upd]; rfl
    · obtain ⟨ma, hA, b2, b3, em⟩ := g1 z
      obtain ⟨y1, y2⟩ := j1 (by rw [← hzr.1]; exact z)
      have hI0 : zI (az_w (az_w mem 369 1 0) 391 5 0) N T C 0 := by
        refine zI_tape hI (fun k y1 _ y3 _ _ _ => by rw [az_w_ne _ y3, az_w_ne _ y1]) (fun j hj => ?_) ?_ ?_ ?_ (by omega) (fun i hi => absurd hi (by omega))
        · rw [az_w_same, upd_ne hj, az_w_ne _ (by decide)]
        · exact zF_congr (by rw [az_w_ne _ (by decide), az_w_ne _ (by decide)]) (by rw [az_w_ne _ (by decide), az_w_ne _ (by decide)]) (by rw [az_w_ne _ (by decide), az_w_ne _ (by decide)]) hF0
        · rw [az_w_same, upd_eq]; rfl
        · rw [az_w_ne _ (by decide), az_w_same, upd_eq]; rfl
      have hA0 := zc_act_w (k0 := 391) (j := 5) (v := 0) hT (by decide) (zc_act_w (k0 := 369) (j := 1) (v := 0) hT (by decide) hA)
      rw [← em] at hA0
      refine ⟨N, _, _, 0, zI_act hI0 hA0 y1 hF ?_⟩
      have hkeep : ∀ k, 1 ≤ k → k ≤ 6 → az_w m1 391 5 0 k = ma k := fun k h1 h2 => by rw [az_w_ne _ (by omega), em, az_w_ne _ (by omega)]
      refine zN_len (mem := mem) (S := mem 392) hn (fun k h1 h2 h3 => by rw [hkeep k h1 h2]; exact b3 k h1 h2 h3) (fun i hi => by rw [y2]; exact hzr.2.2 i hi) ?_
      obtain ⟨L, l1, l2, l3⟩ := hzr.2.1
      refine ⟨L, fun i hi => ?_, l2, l3⟩
      rw [hkeep 2 (by decide) (by decide), b2, y2]
      exact l1 i hi
theorem ok_undo {n : Int32} : z_Ok X d mX7_undo mX8_undo [.inl n] := by
  rintro mem ⟨N, T, C, U, hI⟩
  obtain ⟨hn, hH, hmH, i4, i5, ⟨i6, i6', hF0⟩, i7, h5, h9, hU, ht⟩ := id hI
  have hT := hH.2.1
  have hC := hH.2.2.2
  by_cases q : 0 ≤ n ∧ n ≤ nI C
  · obtain ⟨K, eK, hK⟩ := zi_num (by omega) q.1 q.2
    have hs60 : (T + 60 - K) % 60 < 60 := Nat.mod_lt _ (by decide)
    refine s_X7_undo (d := d + 26) (K := K) hH (fun _ => eK) hK (i5 _ hs60) (fun w => absurd q w) (fun _ k0 => ⟨_, rfl, ?_⟩) (fun _ kp m1 g1 g2 g3 g4 => ⟨_, rfl, ?_⟩)
    · subst k0
      refine s_X8_undo (d := d + 27) (N' := N) (K := 0) hn.1.2.1 hn.1.2.2.2 hmH (fun _ => eK) (by omega) (fun w => absurd rfl w) (fun _ => rfl) hn.1.2.2.2 (fun w => absurd q w) (fun _ m2 j1 j2 j3 hF => ⟨rfl, N, T, C, U, ?_⟩)
      have j2' : ∀ j, m2 391 j = mem 391 j := fun j => by
        rw [j2]
        by_cases e3 : j = 3
        · rw [if_pos e3, e3, hmH.1]; congr 1; omega
        · rw [if_neg e3]
          by_cases e2 : j = 2
          · rw [if_pos e2, e2, hmH.2.2.1]; rfl
          · rw [if_neg e2]
      refine ⟨?_, ?_, ?_, fun k hkC => ?_, fun i hi => ?_, ⟨?_, ?_, hF⟩, ?_, ?_, ?_, hU, fun i hi => ?_⟩
      · exact zN_congr (fun j _ => by rw [j1 1 (by decide) (by decide) (by decide) (by decide)]) (fun i _ => by rw [j1 2 (by decide) (by decide) (by decide) (by decide)]) (fun q i _ _ _ => by rw [j1 (1 + q) (by omega) (by omega) (by omega) (by omega)]) (fun k hk => by rw [j3 k hk, if_pos rfl]) hn
      · unfold zc_H; rw [j1 7 (by decide) (by decide) (by decide) (by decide)]; exact hH
      · unfold zm_H; rw [j2', j2']; exact hmH
      · obtain ⟨n', hz⟩ := i4 k hkC
        have hm : (T + 60 - (k + 1)) % 60 < 60 := Nat.mod_lt _ (by decide)
        exact ⟨n', zN_congr (fun j _ => by rw [j1 _ (by omega) (by omega) (by omega) (by omega)]) (fun i _ => by rw [j1 _ (by omega) (by omega) (by omega) (by omega)]) (fun q i _ _ _ => by rw [j1 _ (by omega) (by omega) (by omega) (by omega)]) (fun k _ => by rw [j1 393 (by decide) (by decide) (by decide) (by decide)]) hz⟩
      · unfold zc_Z; rw [j1 _ (by omega) (by omega) (by omega) (by omega)]; exact i5 i hi
      · rw [j1 0 (by decide) (by decide) (by decide) (by decide)]; exact i6
      · intro w
        rw [j1 0 (by decide) (by decide) (by decide) (by decide)] at w
        exact zC_congr (fun k hh => j1 k (by omega) (by omega) (by omega) (by omega)) (i6' w)
      · rw [j2', j1 0 (by decide) (by decide) (by decide) (by decide)]; exact i7
      · rw [j2']; exact h5
      · rw [j1 369 (by decide) (by decide) (by decide) (by decide)]; exact h9
      · rw [j1 394 (by decide) (by decide) (by decide) (by decide), j1 370 (by decide) (by decide) (by decide) (by decide)]; exact ht i hi
    · have m1k : ∀ k, 8 ≤ k → m1 k = mem k := fun k hk => g1 k (by omega) (by omega) (by omega)
      have e391 := m1k 391 (by decide)
      obtain ⟨N', hN'⟩ := i4 (K - 1) (by omega)
      have eK1 : K - 1 + 1 = K := by omega
      rw [eK1] at hN'
      refine s_X8_undo (d := d + 27) (N' := N') (K := K) (by rw [m1k 392 (by decide)]; exact hn.1.2.1) hn.1.2.2.2 (by unfold zm_H; rw [e391]; exact hmH) (fun _ => eK) hK (fun _ => by rw [m1k 393 (by decide)]; exact hN'.1.2.1) (fun w => absurd w (by omega)) hN'.1.2.2.2 (fun w => absurd q w) (fun _ m2 j1 j2 j3 hF => ⟨rfl, N', (T + 60 - K) % 60, C - K, U, ?_⟩)
      have m2k : ∀ k, 8 ≤ k → k ≠ 391 → k ≠ 392 → k ≠ 395 → k ≠ 396 → m2 k = mem k := fun k h1 h2 h3 h4 h5 => by rw [j1 k h2 h3 h4 h5, m1k k h1]
      refine ⟨?_, ⟨?_, hs60, ?_, by omega⟩, ⟨?_, hs60, ?_, by omega⟩, fun k hkC => ?_, fun i hi => ?_, ⟨?_, ?_, hF⟩, ?_, ?_, ?_, hU, fun i hi => ?_⟩
      · refine zN_congr (fun j hj => ?_) (fun i hi => ?_) (fun q' i h1 h2 hi => ?_) (fun k hk => ?_) hN'
        · rw [j1 1 (by decide) (by decide) (by decide) (by decide)]; exact g4.1 j hj
        · rw [j1 (1 + 1) (by decide) (by decide) (by decide) (by decide)]; exact g4.2.1 i hi
        · rw [j1 (1 + q') (by omega) (by omega) (by omega) (by omega)]; exact g4.2.2 q' i h1 h2 hi
        · rw [j3 k hk, if_neg (by omega), m1k 393 (by decide)]
      · rw [j1 7 (by decide) (by decide) (by decide) (by decide), g3]; simp
      · rw [j1 7 (by decide) (by decide) (by decide) (by decide), g3]; simp
      · rw [j2]; simp
      · rw [j2]; simp
      · obtain ⟨n', hz⟩ := i4 (k + K) (by omega)
        have hm : (T + 60 - (k + K + 1)) % 60 < 60 := Nat.mod_lt _ (by decide)
        have f1 : ((T + 60 - K) % 60 + 60 - (k + 1)) % 60 = (T + 60 - (k + K + 1)) % 60 := by omega
        have f2 : ((T + 60 - K) % 60 + 60 - k) % 60 = (T + 60 - (k + K)) % 60 := by omega
        rw [f1, f2]
        exact ⟨n', zN_congr (fun j _ => by rw [m2k _ (by omega) (by omega) (by omega) (by omega) (by omega)]) (fun i _ => by rw [m2k _ (by omega) (by omega) (by omega) (by omega) (by omega)]) (fun q' i _ _ _ => by rw [m2k _ (by omega) (by omega) (by omega) (by omega) (by omega)]) (fun k _ => by rw [m2k 393 (by decide) (by decide) (by decide) (by decide) (by decide)]) hz⟩
      · unfold zc_Z; rw [m2k _ (by omega) (by omega) (by omega) (by omega) (by omega)]; exact i5 i hi
      · rw [j1 0 (by decide) (by decide) (by decide) (by decide), g2]; simp
      · rw [j1 0 (by decide) (by decide) (by decide) (by decide), g2]; simp
      · rw [j2, j1 0 (by decide) (by decide) (by decide) (by decide), g2, e391]; simp [i7]
      · rw [j2, e391]; simp [h5]
      · rw [m2k 369 (by decide) (by decide) (by decide) (by decide) (by decide)]; exact h9
      · rw [m2k 394 (by decide) (by decide) (by decide) (by decide) (by decide), m2k 370 (by decide) (by decide) (by decide) (by decide) (by decide)]; exact ht i hi
  · refine s_X7_undo (d := d + 26) (K := 0) hH (fun w => absurd w q) (by omega) (i5 _ (Nat.mod_lt _ (by decide))) (fun _ => ⟨_, rfl, ?_⟩) (fun w => absurd w q) (fun w => absurd w q)
    exact s_X8_undo (d := d + 27) (N' := N) (K := 0) hn.1.2.1 hn.1.2.2.2 hmH (fun w => absurd w q) (by omega) (fun w => absurd rfl w) (fun _ => rfl) hn.1.2.2.2 (fun _ => ⟨rfl, N, T, C, U, hI⟩) (fun w => absurd w q)
end DC

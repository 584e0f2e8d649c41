/-! acts, second half -/
section DB
variable {X : az_X} {d : Nat}
theorem ok_reach {p v : Int32} : z_Ok X d mX7_reach mX8_reach [.inl p, .inl v] := by
  rintro mem ⟨N, T, C, U, hI⟩
  have hn := hI.1
  have hT := hI.2.1.2.1
  refine s_X7_reach (d := d + 25) hn.1.1 hn.1.2.2.2 hI.2.1 (zN_Z hn) (fun e => ⟨_, rfl, ?_⟩) (fun hc m1 hA h3 hk => ⟨_, rfl, ?_⟩)
  · exact s_X8_reach (d := d + 27) hn.1.2.1 hn.1.2.2.2 hI.2.2.1 (fun _ => ⟨rfl, N, T, C, U, hI⟩) (fun q => absurd q e)
  · obtain ⟨a1, a2, a3, a4⟩ := zc_act_get hT hA
    have e392 : m1 392 = mem 392 := a1 392 (by omega) (by omega)
    have e391 : m1 391 = mem 391 := a1 391 (by omega) (by omega)
    refine s_X8_reach (d := d + 27) (by rw [e392]; exact hn.1.2.1) hn.1.2.2.2 (by unfold zm_H; rw [e391]; exact hI.2.2.1) (fun q => absurd hc q) (fun _ m2 hB hS hF => ⟨rfl, N, _, _, U, zI_act hI hA hB hF ?_⟩)
    obtain ⟨x1, x2⟩ := zi_of (N := N) (by have := hn.1.2.2.2; omega) hc.1
    rw [hS, e392]
    obtain ⟨⟨c1, c2, c3, c4⟩, ⟨b1, b2, b3⟩, ⟨o1, o2, o3, o4⟩, ⟨d1, d2⟩, w, l, r, pp, cc⟩ := hn
    have hne : ∀ i, i ≠ 263 + p.toNatClampNeg → upd (mem 392) (263 + p.toNatClampNeg) v i = mem 392 i := fun i h => upd_ne h
    have e1 := hk 1 (by decide) (by decide) (by decide)
    refine ⟨⟨by rw [e1]; exact c1, by rw [hne 0 (by omega)]; exact c2, c3, c4⟩, ⟨by rw [e1, hne 1 (by omega)]; exact b1, by rw [hne 1 (by omega)]; exact b2, by rw [e1, hne 2 (by omega)]; exact b3⟩, ⟨by rw [e1, hne 3 (by omega)]; exact o1, by rw [hne 3 (by omega)]; exact o2, by rw [e1, hne 4 (by omega)]; exact o3, by rw [hne 4 (by omega)]; exact o4⟩, ⟨by rw [e1, hne 5 (by omega)]; exact d1, by rw [hne 5 (by omega)]; exact d2⟩, zNw_cg (by rw [e1]) (hk 6 (by decide) (by decide) (by decide)) (hne 6 (by omega)) (fun i _ _ => hne i (by omega)) w, zNl_cg (hk 2 (by decide) (by decide) (by decide)) (fun i _ _ => hne i (by omega)) l, fun i hi => ?_, zNp_cg (hk 4 (by decide) (by decide) (by decide)) (fun i _ _ => hne i (by omega)) pp, zNc_cg (hk 5 (by decide) (by decide) (by decide)) (fun i _ _ => hne i (by omega)) cc⟩
    show m1 3 i = _
    rw [h3]
    by_cases e : i = p.toNatClampNeg
    · rw [e, upd_eq, upd_eq]
    · rw [upd_ne e, upd_ne (by omega)]; exact r i hi
theorem ok_price {p v : Int32} : z_Ok X d mX7_price mX8_price [.inl p, .inl v] := by
  rintro mem ⟨N, T, C, U, hI⟩
  have hn := hI.1
  have hT := hI.2.1.2.1
  have hF0 := hI.2.2.2.2.2.1.2.2
  refine s_X7_price (d := d + 25) hn.1.1 hn.1.2.2.2 hI.2.1 (zN_Z hn) (fun e => ⟨_, rfl, ?_⟩) (fun hc m1 hA h3 hk => ⟨_, rfl, ?_⟩)
  · exact s_X8_price (d := d + 28) hn.1.2.1 hn.1.2.2.2 hI.2.2.1 hF0 (fun _ => ⟨rfl, N, T, C, U, hI⟩) (fun q => absurd q e)
  · obtain ⟨a1, a2, a3, a4⟩ := zc_act_get hT hA
    have e392 : m1 392 = mem 392 := a1 392 (by omega) (by omega)
    have e391 : m1 391 = mem 391 := a1 391 (by omega) (by omega)
    refine s_X8_price (d := d + 28) (by rw [e392]; exact hn.1.2.1) hn.1.2.2.2 (by unfold zm_H; rw [e391]; exact hI.2.2.1) (zF_congr e392 (a1 395 (by omega) (by omega)) (a1 396 (by omega) (by omega)) hF0) (fun q => absurd hc q) (fun _ m2 hB hS hF => ⟨rfl, N, _, _, U, zI_act hI hA hB hF ?_⟩)
    obtain ⟨x1, x2⟩ := zi_of (N := N) (by have := hn.1.2.2.2; omega) hc.1
    obtain ⟨w9, ew, hw1, hw⟩ := zi_num1 (M := 1000) (by decide) hc.2.1 hc.2.2
    rw [hS, e392]
    obtain ⟨⟨c1, c2, c3, c4⟩, ⟨b1, b2, b3⟩, ⟨o1, o2, o3, o4⟩, ⟨d1, d2⟩, w, l, r, ⟨pp, g⟩, cc⟩ := hn
    have hne : ∀ i, i ≠ 279 + p.toNatClampNeg → upd (mem 392) (279 + p.toNatClampNeg) v i = mem 392 i := fun i h => upd_ne h
    have e1 := hk 1 (by decide) (by decide) (by decide)
    refine ⟨⟨by rw [e1]; exact c1, by rw [hne 0 (by omega)]; exact c2, c3, c4⟩, ⟨by rw [e1, hne 1 (by omega)]; exact b1, by rw [hne 1 (by omega)]; exact b2, by rw [e1, hne 2 (by omega)]; exact b3⟩, ⟨by rw [e1, hne 3 (by omega)]; exact o1, by rw [hne 3 (by omega)]; exact o2, by rw [e1, hne 4 (by omega)]; exact o3, by rw [hne 4 (by omega)]; exact o4⟩, ⟨by rw [e1, hne 5 (by omega)]; exact d1, by rw [hne 5 (by omega)]; exact d2⟩, zNw_cg (by rw [e1]) (hk 6 (by decide) (by decide) (by decide)) (hne 6 (by omega)) (fun i _ _ => hne i (by omega)) w, zNl_cg (hk 2 (by decide) (by decide) (by decide)) (fun i _ _ => hne i (by omega)) l, zNr_cg (hk 3 (by decide) (by decide) (by decide)) (fun i _ _ => hne i (by omega)) r, ⟨fun q => if q = p.toNatClampNeg then w9 else pp q, fun i hi => ?_⟩, zNc_cg (hk 5 (by decide) (by decide) (by decide)) (fun i _ _ => hne i (by omega)) cc⟩
    have := g i hi
    show m1 4 i = _ ∧ _
    rw [h3]
    by_cases e : i = p.toNatClampNeg
    · subst e
      simp only [if_true]
      rw [upd_eq, upd_eq]
      exact ⟨ew, hw1, hw, fun _ => ew, fun q => absurd q (by omega)⟩
    · simp only [if_neg e]
      rw [upd_ne e, upd_ne (by omega)]; exact this
theorem ok_chance {p v : Int32} : z_Ok X d mX7_chance mX8_chance [.inl p, .inl v] := by
  rintro mem ⟨N, T, C, U, hI⟩
  have hn := hI.1
  have hT := hI.2.1.2.1
  have hF0 := hI.2.2.2.2.2.1.2.2
  refine s_X7_chance (d := d + 25) hn.1.1 hn.1.2.2.2 hI.2.1 (zN_Z hn) (fun e => ⟨_, rfl, ?_⟩) (fun hc m1 hA h3 hk => ⟨_, rfl, ?_⟩)
  · exact s_X8_chance (d := d + 28) hn.1.2.1 hn.1.2.2.2 hI.2.2.1 hF0 (fun _ => ⟨rfl, N, T, C, U, hI⟩) (fun q => absurd q e)
  · obtain ⟨a1, a2, a3, a4⟩ := zc_act_get hT hA
    have e392 : m1 392 = mem 392 := a1 392 (by omega) (by omega)
    have e391 : m1 391 = mem 391 := a1 391 (by omega) (by omega)
    refine s_X8_chance (d := d + 28) (by rw [e392]; exact hn.1.2.1) hn.1.2.2.2 (by unfold zm_H; rw [e391]; exact hI.2.2.1) (zF_congr e392 (a1 395 (by omega) (by omega)) (a1 396 (by omega) (by omega)) hF0) (fun q => absurd hc q) (fun _ m2 hB hS hF => ⟨rfl, N, _, _, U, zI_act hI hA hB hF ?_⟩)
    obtain ⟨x1, x2⟩ := zi_of (N := N) (by have := hn.1.2.2.2; omega) hc.1
    obtain ⟨w9, ew, hw⟩ := zi_num (M := 100) (by decide) hc.2.1 hc.2.2
    rw [hS, e392]
    obtain ⟨⟨c1, c2, c3, c4⟩, ⟨b1, b2, b3⟩, ⟨o1, o2, o3, o4⟩, ⟨d1, d2⟩, w, l, r, pp, ⟨cc, g⟩⟩ := hn
    have hne : ∀ i, i ≠ 295 + p.toNatClampNeg → upd (mem 392) (295 + p.toNatClampNeg) v i = mem 392 i := fun i h => upd_ne h
    have e1 := hk 1 (by decide) (by decide) (by decide)
    refine ⟨⟨by rw [e1]; exact c1, by rw [hne 0 (by omega)]; exact c2, c3, c4⟩, ⟨by rw [e1, hne 1 (by omega)]; exact b1, by rw [hne 1 (by omega)]; exact b2, by rw [e1, hne 2 (by omega)]; exact b3⟩, ⟨by rw [e1, hne 3 (by omega)]; exact o1, by rw [hne 3 (by omega)]; exact o2, by rw [e1, hne 4 (by omega)]; exact o3, by rw [hne 4 (by omega)]; exact o4⟩, ⟨by rw [e1, hne 5 (by omega)]; exact d1, by rw [hne 5 (by omega)]; exact d2⟩, zNw_cg (by rw [e1]) (hk 6 (by decide) (by decide) (by decide)) (hne 6 (by omega)) (fun i _ _ => hne i (by omega)) w, zNl_cg (hk 2 (by decide) (by decide) (by decide)) (fun i _ _ => hne i (by omega)) l, zNr_cg (hk 3 (by decide) (by decide) (by decide)) (fun i _ _ => hne i (by omega)) r, zNp_cg (hk 4 (by decide) (by decide) (by decide)) (fun i _ _ => hne i (by omega)) pp, ⟨fun q => if q = p.toNatClampNeg then w9 else cc q, fun i hi => ?_⟩⟩
    have := g i hi
    show m1 5 i = _ ∧ _
    rw [h3]
    by_cases e : i = p.toNatClampNeg
    · subst e
      simp only [if_true]
      rw [upd_eq, upd_eq]
      exact ⟨ew, hw, fun _ => ew, fun q => absurd q (by omega)⟩
    · simp only [if_neg e]
      rw [upd_ne e, upd_ne (by omega)]; exact this
/-- the net's own ints alone have changed: what is left of it -/
theorem zN_own {mem m1 : az_M} {S S' : Nat → Int32} {N : Nat} (h : zN 1 mem S N) (hm : ∀ k, 2 ≤ k → k ≤ 6 → m1 k = mem k) (h0 : m1 1 0 = mem 1 0) (h6 : m1 1 6 = mem 1 6) (hS : ∀ i, (i = 0 ∨ 6 ≤ i) → S' i = S i) (hA : m1 1 1 = S' 1 ∧ (∃ k, k ≤ 4 ∧ S' 1 = nI k) ∧ m1 1 2 = S' 2) (hB : m1 1 3 = S' 3 ∧ (∃ f, f ≤ 3 ∧ S' 3 = nI f) ∧ m1 1 4 = S' 4 ∧ (S' 4 = 0 ∨ S' 4 = 1)) (hC : m1 1 5 = S' 5 ∧ (S' 5 = 0 ∨ S' 5 = 1)) : zN 1 m1 S' N := by
  obtain ⟨⟨a1, a2, a3, a4⟩, _, _, _, w, l, r, p, c⟩ := h
  exact ⟨⟨by rw [h0]; exact a1, by rw [hS 0 (by omega)]; exact a2, a3, a4⟩, hA, hB, hC, zNw_cg h6 (hm 6 (by decide) (by decide)) (hS 6 (by omega)) (fun i _ _ => hS i (by omega)) w, zNl_cg (hm 2 (by decide) (by decide)) (fun i _ _ => hS i (by omega)) l, zNr_cg (hm 3 (by decide) (by decide)) (fun i _ _ => hS i (by omega)) r, zNp_cg (hm 4 (by decide) (by decide)) (fun i _ _ => hS i (by omega)) p, zNc_cg (hm 5 (by decide) (by decide)) (fun i _ _ => hS i (by omega)) c⟩
theorem ok_rule {k r : Int32} : z_Ok X d mX7_rule mX8_rule [.inl k, .inl r] := by
  rintro mem ⟨N, T, C, U, hI⟩
  have hn := hI.1
  have hT := hI.2.1.2.1
  refine s_X7_rule (d := d + 25) hI.2.1 (zN_Z hn) (fun e => ⟨_, rfl, ?_⟩) (fun hc m1 hA h1 hk => ⟨_, rfl, ?_⟩)
  · exact s_X8_rule (d := d + 27) hn.1.2.1 hn.1.2.2.2 hI.2.2.1 (fun _ => ⟨rfl, N, T, C, U, hI⟩) (fun q => absurd q e)
  · obtain ⟨a1, a2, a3, a4⟩ := zc_act_get hT hA
    have e392 : m1 392 = mem 392 := a1 392 (by omega) (by omega)
    have e391 : m1 391 = mem 391 := a1 391 (by omega) (by omega)
    refine s_X8_rule (d := d + 27) (by rw [e392]; exact hn.1.2.1) hn.1.2.2.2 (by unfold zm_H; rw [e391]; exact hI.2.2.1) (fun q => absurd hc q) (fun _ m2 hB hS hF => ⟨rfl, N, _, _, U, zI_act hI hA hB hF ?_⟩)
    obtain ⟨w9, ew, hw⟩ := zi_num (M := 4) (by decide) hc.1 hc.2.1
    rw [hS, e392]
    obtain ⟨_, _, ⟨o1, o2, o3, o4⟩, ⟨d1, d2⟩, _⟩ := id hn
    have hne : ∀ i, i ≠ 1 → i ≠ 2 → upd (upd (mem 392) 1 k) 2 r i = mem 392 i := fun i h h' => by rw [upd_ne h', upd_ne h]
    have hm : ∀ j, j ≠ 1 → j ≠ 2 → m1 1 j = mem 1 j := fun j h h' => by rw [h1, upd_ne h', upd_ne h]
    refine zN_own hn hk (hm 0 (by decide) (by decide)) (hm 6 (by decide) (by decide)) (fun i hi => hne i (by omega) (by omega)) ⟨?_, ⟨w9, hw, ?_⟩, ?_⟩ ⟨?_, ?_, ?_, ?_⟩ ⟨?_, ?_⟩
    · rw [h1, upd_ne (by decide), upd_eq, upd_ne (by decide), upd_eq]
    · rw [upd_ne (by decide), upd_eq]; exact ew
    · rw [h1, upd_eq, upd_eq]
    · rw [hm 3 (by decide) (by decide), hne 3 (by decide) (by decide)]; exact o1
    · rw [hne 3 (by decide) (by decide)]; exact o2
    · rw [hm 4 (by decide) (by decide), hne 4 (by decide) (by decide)]; exact o3
    · rw [hne 4 (by decide) (by decide)]; exact o4
    · rw [hm 5 (by decide) (by decide), hne 5 (by decide) (by decide)]; exact d1
    · rw [hne 5 (by decide) (by decide)]; exact d2
theorem ok_may {f l : Int32} (hl : l = 0 ∨ l = 1) : z_Ok X d mX7_may mX8_may [.inl f, .inl l] := by
  rintro mem ⟨N, T, C, U, hI⟩
  have hn := hI.1
  have hT := hI.2.1.2.1
  have hF0 := hI.2.2.2.2.2.1.2.2
  refine s_X7_may (d := d + 25) hl hI.2.1 (zN_Z hn) (fun e => ⟨_, rfl, ?_⟩) (fun hc m1 hA h1 hk => ⟨_, rfl, ?_⟩)
  · exact s_X8_may (d := d + 28) hl hn.1.2.1 hn.1.2.2.2 hI.2.2.1 hF0 (fun _ => ⟨rfl, N, T, C, U, hI⟩) (fun q => absurd q e)
  · obtain ⟨a1, a2, a3, a4⟩ := zc_act_get hT hA
    have e392 : m1 392 = mem 392 := a1 392 (by omega) (by omega)
    have e391 : m1 391 = mem 391 := a1 391 (by omega) (by omega)
    refine s_X8_may (d := d + 28) hl (by rw [e392]; exact hn.1.2.1) hn.1.2.2.2 (by unfold zm_H; rw [e391]; exact hI.2.2.1) (zF_congr e392 (a1 395 (by omega) (by omega)) (a1 396 (by omega) (by omega)) hF0) (fun q => absurd hc q) (fun _ m2 hB hS hF => ⟨rfl, N, _, _, U, zI_act hI hA hB hF ?_⟩)
    obtain ⟨w9, ew, hw⟩ := zi_num (M := 3) (by decide) hc.1 hc.2
    rw [hS, e392]
    obtain ⟨_, ⟨b1, b2, b3⟩, _, ⟨d1, d2⟩, _⟩ := id hn
    have hne : ∀ i, i ≠ 3 → i ≠ 4 → upd (upd (mem 392) 3 f) 4 l i = mem 392 i := fun i h h' => by rw [upd_ne h', upd_ne h]
    have hm : ∀ j, j ≠ 3 → j ≠ 4 → m1 1 j = mem 1 j := fun j h h' => by rw [h1, upd_ne h', upd_ne h]
    refine zN_own hn hk (hm 0 (by decide) (by decide)) (hm 6 (by decide) (by decide)) (fun i hi => hne i (by omega) (by omega)) ⟨?_, ?_, ?_⟩ ⟨?_, ⟨w9, hw, ?_⟩, ?_, ?_⟩ ⟨?_, ?_⟩
    · rw [hm 1 (by decide) (by decide), hne 1 (by decide) (by decide)]; exact b1
    · rw [hne 1 (by decide) (by decide)]; exact b2
    · rw [hm 2 (by decide) (by decide), hne 2 (by decide) (by decide)]; exact b3
    · rw [h1, upd_ne (by decide), upd_eq, upd_ne (by decide), upd_eq]
    · rw [upd_ne (by decide), upd_eq]; exact ew
    · rw [h1, upd_eq, upd_eq]
    · rw [upd_eq]; exact hl
    · rw [hm 5 (by decide) (by decide), hne 5 (by decide) (by decide)]; exact d1
    · rw [hne 5 (by decide) (by decide)]; exact d2
theorem ok_want {l : Int32} (hl : l = 0 ∨ l = 1) : z_Ok0 X d mX7_want mX8_want [.inl l] := by
  rintro mem ⟨N, T, C, U, hI⟩
  have hn := hI.1
  have hT := hI.2.1.2.1
  have hF0 := hI.2.2.2.2.2.1.2.2
  refine s_X7_want (d := d + 25) hl hI.2.1 (zN_Z hn) (fun m1 hA h1 hk => ⟨rfl, ?_⟩)
  obtain ⟨a1, a2, a3, a4⟩ := zc_act_get hT hA
  have e392 : m1 392 = mem 392 := a1 392 (by omega) (by omega)
  have e391 : m1 391 = mem 391 := a1 391 (by omega) (by omega)
  refine s_X8_want (d := d + 28) hl (by rw [e392]; exact hn.1.2.1) hn.1.2.2.2 (by unfold zm_H; rw [e391]; exact hI.2.2.1) (zF_congr e392 (a1 395 (by omega) (by omega)) (a1 396 (by omega) (by omega)) hF0) (fun m2 hB hS hF => ⟨rfl, N, _, _, U, zI_act hI hA hB hF ?_⟩)
  rw [hS, e392]
  obtain ⟨_, ⟨b1, b2, b3⟩, ⟨o1, o2, o3, o4⟩, _, _⟩ := id hn
  have hne : ∀ i, i ≠ 5 → upd (mem 392) 5 l i = mem 392 i := fun i h => upd_ne h
  have hm : ∀ j, j ≠ 5 → m1 1 j = mem 1 j := fun j h => by rw [h1, upd_ne h]
  refine zN_own hn hk (hm 0 (by decide)) (hm 6 (by decide)) (fun i hi => hne i (by omega)) ⟨?_, ?_, ?_⟩ ⟨?_, ?_, ?_, ?_⟩ ⟨?_, ?_⟩
  · rw [hm 1 (by decide), hne 1 (by decide)]; exact b1
  · rw [hne 1 (by decide)]; exact b2
  · rw [hm 2 (by decide), hne 2 (by decide)]; exact b3
  · rw [hm 3 (by decide), hne 3 (by decide)]; exact o1
  · rw [hne 3 (by decide)]; exact o2
  · rw [hm 4 (by decide), hne 4 (by decide)]; exact o3
  · rw [hne 4 (by decide)]; exact o4
  · rw [h1, upd_eq, upd_eq]
  · rw [upd_eq]; exact hl
end DB

/-! questions: the class's answers are the reference's -/
theorem zJ_q {mem m1 m2 : az_M} {N T C U : Nat} (hI : zI mem N T C U) (hf : zSf mem m1 N) (hk : ∀ k, k ≠ 0 → k ≠ 391 → (k < 379 ∨ (390 < k ∧ k < 397)) → m2 k = m1 k) (h0 : ∀ j, j ≠ 8 → m2 0 j = m1 0 j) (h1 : ∀ j, j ≠ 6 → m2 391 j = m1 391 j) (h6 : m2 391 6 = m2 0 8) : zJ m2 := by
  have e7 : m2 0 7 = 0 := by rw [h0 7 (by decide), hf.2.1, if_pos rfl]
  refine ⟨N, T, C, U, zI_q hI (fun k k0 k1 k2 => ?_) (Or.inl e7) (fun _ => ?_) (fun j hj => ?_) h6⟩
  · rw [hk k k0 k1 (by omega), hf.1 k k0 (by omega)]
  · exact zC_congr (fun k hh => hk k (by omega) (by omega) (by omega)) hf.2.2.1
  · rw [h1 j hj, hf.1 391 (by decide) (by omega)]
/-- the class has looked, nothing else -/
theorem zJ_f {mem m1 m2 : az_M} {N T C U : Nat} (hI : zI mem N T C U) (hf : zSf mem m1 N) (hk : ∀ k, (k < 379 ∨ (390 < k ∧ k < 397)) → m2 k = m1 k) : zJ m2 := by
  refine zJ_q hI hf (fun k _ _ hh => hk k hh) (fun j _ => by rw [hk 0 (by omega)]) (fun j _ => by rw [hk 391 (by omega)]) ?_
  rw [hk 391 (by omega), hk 0 (by omega), hf.1 391 (by decide) (by omega), hf.2.1, if_neg (by decide)]
  exact hI.2.2.2.2.2.2.1
theorem zJ_0 {mem m2 : az_M} {N T C U : Nat} (hI : zI mem N T C U) (hk : ∀ k, k < 397 → m2 k = mem k) : zJ m2 := by
  refine ⟨N, T, C, U, zI_q hI (fun k _ _ hh => hk k (by omega)) ?_ (fun q => ?_) (fun j _ => by rw [hk 391 (by omega)]) ?_⟩
  · rw [hk 0 (by omega)]; exact hI.2.2.2.2.2.1.1
  · rw [hk 0 (by omega)] at q; exact zC_congr (fun k hh => hk k (by omega)) (hI.2.2.2.2.2.1.2.1 q)
  · rw [hk 391 (by omega), hk 0 (by omega)]; exact hI.2.2.2.2.2.2.1
theorem zneed {S : Nat → Int32} (h3 : ∃ f, f ≤ 3 ∧ S 3 = nI f) (h4 : S 4 = 0 ∨ S 4 = 1) : ∃ nd, zm_need (S 3) (S 4) = nI nd ∧ nd ≤ 7 := by
  obtain ⟨f, hf, e⟩ := h3
  unfold zm_need
  rw [e]
  rcases h4 with g | g
  · rw [g, if_neg (by decide), show (1 : Int32) = nI 1 from rfl, pk_mul, nI_add]; exact ⟨_, rfl, by omega⟩
  · rw [g, if_pos rfl, show (1 : Int32) = nI 1 from rfl, show (2 : Int32) = nI 2 from rfl, pk_mul, nI_add]; exact ⟨_, rfl, by omega⟩
theorem zI_len {mem : az_M} {N T C U : Nat} (hI : zI mem N T C U) : ∀ i, i < 256 → mem 2 i = zm_len (mem 392) i := by
  obtain ⟨L, f1, _, _⟩ := hI.1.2.2.2.2.2.1
  intro i hi
  have := f1 i hi
  unfold zm_len
  rw [this.2.1]; exact this.1
theorem zI_G {mem : az_M} {N T C U : Nat} (hI : zI mem N T C U) : zl_G (zm_len (mem 392)) N := by
  obtain ⟨L, f1, f2, f3⟩ := hI.1.2.2.2.2.2.1
  have hN := hI.1.1.2.2.2
  refine ⟨fun a b ha hb => ?_, fun a ha => ?_⟩
  · unfold zm_bf zm_len
    rw [(f1 (16 * a + b) (by omega)).2.1, (f1 (16 * b + a) (by omega)).2.1, f2 a b (by omega) (by omega)]
  · unfold zm_bf zm_len
    rw [(f1 (16 * a + a) (by omega)).2.1, f3 a (by omega)]; rfl
theorem zI_bf {mem : az_M} {N T C U a b : Nat} (hI : zI mem N T C U) (ha : a < 16) (hb : b < 16) : zm_bf (mem 2) a b = zm_bf (zm_len (mem 392)) a b := by unfold zm_bf; rw [zI_len hI _ (by omega)]
/-- sight's rows of parting marks and of yes beside the reference's -/
theorem zI_P {mem m1 : az_M} {N T C U : Nat} (hI : zI mem N T C U) (hf : zSf mem m1 N) : (∀ a b, a < b → b < N → m1 375 (16 * a + b) = zm_P (mem 396) N (16 * a + b)) ∧ ∀ p, p < N → m1 376 p = zm_Y (mem 392 1) (mem 396) N p := by
  obtain ⟨_, han, _⟩ := zI_fresh hI hf
  have hN := hI.1.1.2.2.2
  have hC := hf.2.2.1
  refine ⟨fun a b ha hb => ?_, fun p hp => ?_⟩
  · rw [hC.2.2.2.2.1 a b ha hb, zm_P_at (by omega)]
    exact zm_congr N (zm_pf_congr han (by omega) hb)
  · rw [hC.2.2.2.2.2.1 p hp, hf.1 1 (by decide) (by omega), hI.1.2.1.1]
    unfold zm_Y
    exact zm_congr N (zm_yf_congr han hp)
section DD
variable {X : az_X} {d : Nat}
theorem ok_way {a b : Int32} : z_Ok X d mX7_way mX8_way [.inl a, .inl b] := by
  rintro mem ⟨N, T, C, U, hI⟩
  have hS := zI_S hI
  have hN := hS.2.1
  refine s_X7_way (d := d + 26) hS (fun q => ⟨_, rfl, ?_⟩) (fun q m1 hf => ⟨_, rfl, ?_⟩)
  · exact s_X8_way (d := d + 28) hI.1.1.2.1 hN ⟨by rw [if_neg q], N, T, C, U, hI⟩
  · refine s_X8_way (d := d + 28) (by rw [hf.1 392 (by decide) (by omega)]; exact hI.1.1.2.1) hN ⟨?_, zJ_f hI hf (fun _ _ => rfl)⟩
    rw [if_pos q, hf.1 395 (by decide) (by omega), (zI_fresh hI hf).1 _ _ (zi_of (N := N) (by omega) q.1).1 (zi_of (N := N) (by omega) q.2).1]
theorem ok_answer {a b : Int32} : z_Ok X d mX7_answer mX8_answer [.inl a, .inl b] := by
  rintro mem ⟨N, T, C, U, hI⟩
  have hS := zI_S hI
  have hN := hS.2.1
  refine s_X7_answer (d := d + 26) hS (fun q => ⟨_, rfl, ?_⟩) (fun q m1 hf => ⟨_, rfl, ?_⟩)
  · exact s_X8_answer (d := d + 28) hI.1.1.2.1 hN ⟨by rw [if_neg q], N, T, C, U, hI⟩
  · refine s_X8_answer (d := d + 28) (by rw [hf.1 392 (by decide) (by omega)]; exact hI.1.1.2.1) hN ⟨?_, zJ_f hI hf (fun _ _ => rfl)⟩
    rw [if_pos q, hf.1 396 (by decide) (by omega), (zI_fresh hI hf).2.1 _ _ (zi_of (N := N) (by omega) q.1).1 (zi_of (N := N) (by omega) q.2).1]
theorem ok_of {p what : Int32} : z_Ok X d mX7_of mX8_of [.inl p, .inl what] := by
  rintro mem ⟨N, T, C, U, hI⟩
  have hS := zI_S hI
  have hN := hS.2.1
  refine s_X7_of (d := d + 26) hS (fun m1 hm h5 => ⟨_, rfl, ?_⟩)
  have e392 : m1 392 = mem 392 := by rcases hm with e | hf; rw [e]; exact hf.1 392 (by decide) (by omega)
  have e395 : m1 395 = mem 395 := by rcases hm with e | hf; rw [e]; exact hf.1 395 (by decide) (by omega)
  refine s_X8_of (d := d + 28) (by rw [e392]; exact hI.1.1.2.1) hN ⟨?_, ?_⟩
  · rw [e392, e395]
    unfold zm_of
    by_cases q : 0 ≤ p ∧ p < nI N
    · rw [if_pos q, if_pos q]
      have hp := (zi_of (N := N) (by omega) q).1
      have hbf : zm_mask (zm_bf (mem 2) p.toNatClampNeg) N = zm_mask (zm_bf (zm_len (mem 392)) p.toNatClampNeg) N := zm_congr N (fun i hi => zI_bf hI (by omega) (by omega))
      obtain ⟨cp, g1⟩ := hI.1.2.2.2.2.2.2.2.1
      obtain ⟨cc, g2⟩ := hI.1.2.2.2.2.2.2.2.2
      have r1 : mem 3 p.toNatClampNeg = mem 392 (263 + p.toNatClampNeg) := hI.1.2.2.2.2.2.2.1 _ (by omega)
      have r2 : mem 4 p.toNatClampNeg = mem 392 (279 + p.toNatClampNeg) := by
        have := g1 p.toNatClampNeg (by omega)
        rw [this.2.2.2.1 hp]; exact this.1
      have r3 : mem 5 p.toNatClampNeg = mem 392 (295 + p.toNatClampNeg) := by
        have := g2 p.toNatClampNeg (by omega)
        rw [this.2.2.1 hp]; exact this.1
      rw [hbf, r1, r2, r3]
      by_cases w5 : what = 5
      · have hf : zSf mem m1 N := (h5 w5).resolve_right (fun w => w q)
        have : zm_reach (m1 373) N p.toNatClampNeg = zm_reach (mem 395) N p.toNatClampNeg := zm_sum_congr N (fun i hi => by rw [(zI_fresh hI hf).1 _ i hp hi])
        rw [this]
      · rw [if_neg w5, if_neg w5]
    · rw [if_neg q, if_neg q]
  · rcases hm with e | hf
    · rw [e]; exact ⟨N, T, C, U, hI⟩
    · exact zJ_f hI hf (fun _ _ => rfl)
theorem ok_parts {x a b : Int32} : z_Ok X d mX7_parts mX8_parts [.inl x, .inl a, .inl b] := by
  rintro mem ⟨N, T, C, U, hI⟩
  have hS := zI_S hI
  have hN := hS.2.1
  refine s_X7_parts (d := d + 26) hS (fun q => ⟨_, rfl, ?_⟩) (fun q m1 hf => ⟨_, rfl, ?_⟩)
  · exact s_X8_parts (d := d + 27) hI.1.1.2.1 hN ⟨by rw [if_neg q], N, T, C, U, hI⟩
  · refine s_X8_parts (d := d + 27) (by rw [hf.1 392 (by decide) (by omega)]; exact hI.1.1.2.1) hN ⟨?_, zJ_f hI hf (fun _ _ => rfl)⟩
    obtain ⟨ha, ea⟩ := zi_of (N := N) (by omega) q.2.1
    obtain ⟨hb, eb⟩ := zi_of (N := N) (by omega) q.2.2.1
    have hne : a.toNatClampNeg ≠ b.toNatClampNeg := fun e => q.2.2.2 (by rw [ea, eb, e])
    rw [if_pos q, hf.1 396 (by decide) (by omega), Int32.and_comm]
    have hP := (zI_P hI hf).1
    by_cases c : a.toNatClampNeg < b.toNatClampNeg
    · rw [if_pos c, hP _ _ c hb, zm_P_at (by omega)]
    · rw [if_neg c, hP _ _ (by omega) ha, zm_P_at (by omega), zm_pf_symm]
theorem ok_clash {x : Int32} : z_Ok X d mX7_clash mX8_clash [.inl x] := by
  rintro mem ⟨N, T, C, U, hI⟩
  have hS := zI_S hI
  have hN := hS.2.1
  refine s_X7_clash (d := d + 26) hS (zN_Z hI.1) (fun q => ⟨_, rfl, ?_⟩) (fun q m1 hf => ⟨_, rfl, ?_⟩)
  · exact s_X8_clash (d := d + 26) hI.1.1.2.1 hN (fun m2 hk => ⟨by rw [if_neg q], zJ_0 hI (fun k hh => hk k (by omega) (by omega))⟩)
  · refine s_X8_clash (d := d + 26) (by rw [hf.1 392 (by decide) (by omega)]; exact hI.1.1.2.1) hN (fun m2 hk => ⟨?_, zJ_f hI hf (fun k hh => hk k (by omega) (by omega))⟩)
    obtain ⟨hP, hY⟩ := zI_P hI hf
    rw [if_pos q, hf.1 392 (by decide) (by omega), hf.1 396 (by decide) (by omega), hI.1.2.2.2.1.1, hI.1.2.2.1.1, hI.1.2.2.1.2.2.1, zl_clc_eq hN hI.1.2.2.2.1.2 hP hY]
theorem ok_twins {k : Int32} : z_Ok X d mX7_twins mX8_twins [.inl k] := by
  rintro mem ⟨N, T, C, U, hI⟩
  have hS := zI_S hI
  have hN := hS.2.1
  refine s_X7_twins (d := d + 26) hS (fun m1 hf => ⟨_, rfl, ?_⟩)
  refine s_X8_twins (d := d + 26) (by rw [hf.1 392 (by decide) (by omega)]; exact hI.1.1.2.1) hN ⟨?_, zJ_f hI hf (fun _ _ => rfl)⟩
  rw [hf.1 396 (by decide) (by omega)]
  by_cases c : k < 0
  · rw [if_pos c]
    have := zk_pr_neg (f := zt_tc (m1 375)) c hN N 0 0 (by omega)
    rw [show (0 : Int32) = nI 0 from rfl, this]; rfl
  · have hh : ∀ i j, i < j → j < N → zt_tc (m1 375) i j = zt_tw (mem 396) N i j := fun i j h1 h2 => by
      unfold zt_tc zt_tw
      rw [(zI_P hI hf).1 i j h1 h2, zm_P_at (by omega)]
    rw [if_neg c, zk_pr_congr N 0 0 (by omega) hh]
theorem ok_set : z_Ok X d mX7_set mX8_set [] := by
  rintro mem ⟨N, T, C, U, hI⟩
  refine s_X7_set ⟨_, rfl, ?_⟩
  exact s_X8_set ⟨by rw [hI.2.2.2.2.2.2.1], N, T, C, U, hI⟩
theorem ok_shown : z_Ok X d mX7_shown mX8_shown [] := by
  rintro mem ⟨N, T, C, U, hI⟩
  have hS := zI_S hI
  have hN := hS.2.1
  refine s_X7_shown (d := d + 26) hS (fun m1 hf => ⟨_, rfl, ?_⟩)
  refine s_X8_shown (d := d + 26) (by rw [hf.1 392 (by decide) (by omega)]; exact hI.1.1.2.1) hN (fun m2 hk => ⟨?_, zJ_f hI hf (fun k hh => hk k (by omega))⟩)
  rw [hf.1 396 (by decide) (by omega)]
  unfold zp_list
  rw [zp_pr_congr (zI_P hI hf).1 N 0 _ (by omega)]
theorem ok_pair {k : Int32} : z_Ok X d mX7_pair mX8_pair [.inl k] := by
  rintro mem ⟨N, T, C, U, hI⟩
  have hS := zI_S hI
  have hN := hS.2.1
  refine s_X7_pair (d := d + 26) hS (fun m1 hf => ⟨_, rfl, ?_⟩)
  refine s_X8_pair (d := d + 26) (by rw [hf.1 392 (by decide) (by omega)]; exact hI.1.1.2.1) hN (fun m2 hk => ⟨?_, zJ_f hI hf (fun k hh => hk k (by omega))⟩)
  rw [hf.1 396 (by decide) (by omega)]
  unfold zp_list
  rw [zp_pr_congr (zI_P hI hf).1 N 0 _ (by omega)]
theorem ok_about {what : Int32} : z_Ok X d mX7_about mX8_about [.inl what] := by
  rintro mem ⟨N, T, C, U, hI⟩
  have hS := zI_S hI
  have hN := hS.2.1
  obtain ⟨wd, w1, w2, w3, w4, w5⟩ := hI.1.2.2.2.2.1
  refine s_X7_about (d := d + 27) hS.1 hN (zN_Z hI.1) w2 w1 ⟨_, rfl, ?_⟩
  refine s_X8_about (d := d + 28) hI.1.1.2.1 hN ⟨?_, N, T, C, U, hI⟩
  unfold zm_abc zm_about
  have h5 : (if mem 1 5 = 0 then (0 : Int32) else 1) = mem 392 5 := by
    rw [hI.1.2.2.2.1.1]
    rcases hI.1.2.2.2.1.2 with e | e <;> rw [e] <;> rfl
  have g1 : mem 1 1 = mem 392 1 := hI.1.2.1.1
  have g2 : mem 1 2 = mem 392 2 := hI.1.2.1.2.2
  have g3 : mem 1 3 = mem 392 3 := hI.1.2.2.1.1
  have g4 : mem 1 4 = mem 392 4 := hI.1.2.2.1.2.2.1
  have g7 : mem 7 2 = mem 391 2 := by have a := hI.2.1.2.2.1; have b := hI.2.2.1.2.2.1; rw [a, b]
  have g8 : mem 369 1 = mem 391 5 := by have a := hI.2.2.2.2.2.2.2.1; have b := hI.2.2.2.2.2.2.2.2.1; rw [a, b]
  have ge := zm_ends_congr hN (zI_len hI)
  rw [h5, ge, g1, g2, g3, g4, g7, g8, ← w3]
theorem ok_fits : z_Ok X d mX7_fits mX8_fits [] := by
  rintro mem ⟨N, T, C, U, hI⟩
  have hS := zI_S hI
  have hN := hS.2.1
  obtain ⟨wd, w1, w2, w3, w4, w5⟩ := hI.1.2.2.2.2.1
  refine s_X7_fits (d := d + 24) hS hI.1.1.2.2.1 w2 w1 (fun m1 hf => ⟨_, rfl, ?_⟩)
  refine s_X8_fits (d := d + 27) (by rw [hf.1 392 (by decide) (by omega)]; exact hI.1.1.2.1) hN ⟨?_, zJ_f hI hf (fun _ _ => rfl)⟩
  rw [hf.1 392 (by decide) (by omega), hf.1 396 (by decide) (by omega)]
  have e : zm_sum (fun p => if zw_fitc wd (mem 6) (m1 374) (mem 1 4) (mem 1 3) N p = true then (1 : Int32) else 0) N = zm_sum (fun p => if zw_fit (mem 392) (mem 396) N p = true then (1 : Int32) else 0) N := zm_sum_congr N (fun p hp => by rw [zw_fitc_eq hN w4 w5 (zI_fresh hI hf).2.1 hI.1.2.2.1.2.2.1 hI.1.2.2.1.2.2.2 hI.1.2.2.1.1 hp])
  rw [e]
theorem ok_where {k : Int32} : z_Ok X d mX7_where mX8_where [.inl k] := by
  rintro mem ⟨N, T, C, U, hI⟩
  have hS := zI_S hI
  have hN := hS.2.1
  obtain ⟨wd, w1, w2, w3, w4, w5⟩ := hI.1.2.2.2.2.1
  refine s_X7_where (d := d + 24) hS hI.1.1.2.2.1 w2 w1 (fun m1 hf => ⟨_, rfl, ?_⟩)
  refine s_X8_where (d := d + 27) (by rw [hf.1 392 (by decide) (by omega)]; exact hI.1.1.2.1) hN ⟨?_, zJ_f hI hf (fun _ _ => rfl)⟩
  rw [hf.1 392 (by decide) (by omega), hf.1 396 (by decide) (by omega)]
  by_cases c : k < 0
  · rw [if_pos c]
    obtain ⟨c', e, _⟩ := zk_in_neg (f := zw_fitc wd (mem 6) (m1 374) (mem 1 4) (mem 1 3) N) c N 0 0 (by omega)
    rw [show (0 : Int32) = nI 0 from rfl, e]; rfl
  · rw [if_neg c, zk_in_congr (g := zw_fit (mem 392) (mem 396) N) N 0 0 (fun i _ hi => zw_fitc_eq hN w4 w5 (zI_fresh hI hf).2.1 hI.1.2.2.1.2.2.1 hI.1.2.2.1.2.2.2 hI.1.2.2.1.1 (by omega))]
theorem ok_against {a : Int32} : z_Ok X d mX7_against mX8_against [.inl a] := by
  rintro mem ⟨N, T, C, U, hI⟩
  have hS := zI_S hI
  have hN := hS.2.1
  obtain ⟨wd, w1, w2, w3, w4, w5⟩ := hI.1.2.2.2.2.1
  refine s_X7_against (d := d + 25) hS w2 w1 (fun q => ⟨_, rfl, ?_⟩) (fun q m1 hf => ⟨_, rfl, ?_⟩)
  · exact s_X8_against (d := d + 28) hI.1.1.2.1 hN ⟨by rw [if_neg q], N, T, C, U, hI⟩
  · refine s_X8_against (d := d + 28) (by rw [hf.1 392 (by decide) (by omega)]; exact hI.1.1.2.1) hN ⟨?_, zJ_f hI hf (fun _ _ => rfl)⟩
    rw [if_pos q, hf.1 392 (by decide) (by omega), hf.1 396 (by decide) (by omega), zw_agc_eq hN w4 w5 (zI_fresh hI hf).2.1 (zi_of (N := N) (by omega) q).1]
theorem ok_greedy : z_Ok X d mX7_greedy mX8_greedy [] := by
  rintro mem ⟨N, T, C, U, hI⟩
  have hS := zI_S hI
  have hN := hS.2.1
  refine s_X7_greedy (d := d + 25) hS (zN_Z hI.1) (fun m1 m2 hf h0 h8 => ⟨_, rfl, ?_⟩)
  have e392 : m2 392 = mem 392 := by rw [h0 392 (by decide), hf.1 392 (by decide) (by omega)]
  have e396 : m2 396 = mem 396 := by rw [h0 396 (by decide), hf.1 396 (by decide) (by omega)]
  have e391 : m2 391 = m1 391 := h0 391 (by decide)
  refine s_X8_greedy (d := d + 26) (by rw [e392]; exact hI.1.1.2.1) hN (fun m3 P hk hP h6 => ?_)
  rw [e396] at hP
  rw [e392] at h6 ⊢
  have hPP : ∀ a b, a < b → b < N → P (16 * a + b) = m1 375 (16 * a + b) := fun a b h1 h2 => by rw [hP a b h1 h2, (zI_P hI hf).1 a b h1 h2]
  have hw := zg_w_y (P := P) (nd := zm_need (mem 392 3) (mem 392 4)) hN N 0 (Nat.two_pow_pos N)
  rw [show nI 0 = (0 : Int32) from rfl] at hw
  rw [hw] at h6 ⊢
  rw [hI.1.2.2.1.1, hI.1.2.2.1.2.2.1] at h8 ⊢
  rw [zy_w_congr hPP, zg_l_congr hPP] at h6 ⊢
  refine ⟨rfl, zJ_q hI hf (fun k k0 k1 kk => ?_) (fun j hj => ?_) (fun j hj => ?_) ?_⟩
  · rw [hk k k1 (by omega) (by omega), h0 k k0]
  · rw [hk 0 (by decide) (by decide) (by decide), h8, if_neg (fun q => hj q.1)]
  · rw [h6, if_neg (fun q => hj q.1), e391]
  · rw [h6, hk 0 (by decide) (by decide) (by decide), h8, e391, hf.1 391 (by decide) (by omega), hf.2.1 8, if_neg (show ¬ 8 = 7 by decide), hI.2.2.2.2.2.2.1]
    by_cases c : zg_l (m1 375) (zy_w (m1 375) (zm_need (mem 392 3) (mem 392 4)) N N 0) (zm_need (mem 392 3) (mem 392 4)) N ≤ 0
    · rw [if_pos ⟨rfl, c⟩, if_pos ⟨rfl, c⟩]
    · rw [if_neg (fun q => c q.2), if_neg (fun q => c q.2)]
theorem ok_least : z_Ok X d mX7_least mX8_least [] := by
  rintro mem ⟨N, T, C, U, hI⟩
  have hS := zI_S hI
  have hN := hS.2.1
  have hp := zi_pow hN
  obtain ⟨nd, hnd, hnd7⟩ := zneed hI.1.2.2.1.2.1 hI.1.2.2.1.2.2.2
  refine s_X7_least (d := d + 10) hS (zN_Z hI.1) (by rw [hI.1.2.2.1.1, hI.1.2.2.1.2.2.1]; exact hnd) hnd7 (fun m1 m2 B Se Cn hf hk h8 hZ => ⟨_, rfl, ?_⟩)
  have e392 : m2 392 = mem 392 := by rw [hk 392 (by decide) (by omega), hf.1 392 (by decide) (by omega)]
  have e396 : m2 396 = mem 396 := by rw [hk 396 (by decide) (by omega), hf.1 396 (by decide) (by omega)]
  have e391 : m2 391 = mem 391 := by rw [hk 391 (by decide) (by omega), hf.1 391 (by decide) (by omega)]
  rw [hI.1.2.1.1, hI.1.2.2.2.1.1] at hZ
  have hb := zb_best_n (pr := 0) hN hnd hnd7 hI.1.2.2.2.1.2 (zI_fresh hI hf).2.1 (fun s hs => ⟨by unfold zb_cost; rw [if_pos rfl, zm_many_n (by omega), zh_cs_one hN hs], zh_cs_le hN (fun _ _ => by omega)⟩) hZ
  refine s_X8_least (d := d + 25) (by rw [e392]; exact hI.1.1.2.1) hN (fun m3 j1 j2 => ?_)
  rw [e392, e396] at j2 ⊢
  have key : ∀ (hv : m3 391 6 = m3 0 8), zJ m3 := fun hv => zJ_q hI hf (fun k k0 k1 kk => by rw [j1 k k1 (by omega) (by omega), hk k k0 (by omega)]) (fun j hj => by rw [j1 0 (by decide) (by decide) (by decide), h8, if_neg (fun q => hj q.1)]) (fun j hj => by rw [j2, if_neg (fun q => hj q.1), e391, hf.1 391 (by decide) (by omega)]) hv
  rcases hb with ⟨c0, eb⟩ | ⟨c0, eb, eb2, hSe, eB, _⟩
  · rw [eb, if_neg (by decide), if_pos c0]
    refine ⟨rfl, key ?_⟩
    rw [j2, eb, if_neg (fun q => absurd q.2 (by decide)), j1 0 (by decide) (by decide) (by decide), h8, if_neg (fun q => q.2 c0), e391, hf.2.1, if_neg (by decide)]
    exact hI.2.2.2.2.2.2.1
  · rw [if_pos eb2, if_neg c0]
    refine ⟨?_, key ?_⟩
    · rw [eb, zm_many_n (by omega), ← zh_cs_one hN hSe, eB]
    · rw [j2, if_pos ⟨rfl, eb2⟩, j1 0 (by decide) (by decide) (by decide), h8, if_pos ⟨rfl, c0⟩, eb]
theorem ok_cheapest : z_Ok X d mX7_cheapest mX8_cheapest [] := by
  rintro mem ⟨N, T, C, U, hI⟩
  have hS := zI_S hI
  have hN := hS.2.1
  have hp := zi_pow hN
  obtain ⟨nd, hnd, hnd7⟩ := zneed hI.1.2.2.1.2.1 hI.1.2.2.1.2.2.2
  obtain ⟨cp, g1⟩ := hI.1.2.2.2.2.2.2.2.1
  refine s_X7_cheapest (d := d + 10) (c := cp) hS (zN_Z hI.1) (by rw [hI.1.2.2.1.1, hI.1.2.2.1.2.2.1]; exact hnd) hnd7 (fun p hpN => ⟨(g1 p (by omega)).1, (g1 p (by omega)).2.1, (g1 p (by omega)).2.2.1⟩) (fun m1 m2 B Se Cn hf hk h8 hZ => ⟨_, rfl, ?_⟩)
  have e392 : m2 392 = mem 392 := by rw [hk 392 (by decide) (by omega), hf.1 392 (by decide) (by omega)]
  have e396 : m2 396 = mem 396 := by rw [hk 396 (by decide) (by omega), hf.1 396 (by decide) (by omega)]
  have e391 : m2 391 = mem 391 := by rw [hk 391 (by decide) (by omega), hf.1 391 (by decide) (by omega)]
  rw [hI.1.2.1.1, hI.1.2.2.2.1.1] at hZ
  have hpr : ∀ s, s < 65536 → zm_price (mem 392) N (nI s) = nI (zh_cs cp N s) := fun s hs => zm_price_n hN hs (fun p hpN => (g1 p (by omega)).2.2.2.1 hpN)
  have hb := zb_best_n (pr := 1) hN hnd hnd7 hI.1.2.2.2.1.2 (zI_fresh hI hf).2.1 (fun s hs => ⟨by unfold zb_cost; rw [if_neg (by decide), hpr s (by omega)], zh_cs_le hN (fun p hpN => (g1 p (by omega)).2.2.1)⟩) hZ
  refine s_X8_cheapest (d := d + 25) (by rw [e392]; exact hI.1.1.2.1) hN (fun m3 j1 j2 => ?_)
  rw [e392, e396] at j2 ⊢
  have key : ∀ (hv : m3 391 6 = m3 0 8), zJ m3 := fun hv => zJ_q hI hf (fun k k0 k1 kk => by rw [j1 k k1 (by omega) (by omega), hk k k0 (by omega)]) (fun j hj => by rw [j1 0 (by decide) (by decide) (by decide), h8, if_neg (fun q => hj q.1)]) (fun j hj => by rw [j2, if_neg (fun q => hj q.1), e391, hf.1 391 (by decide) (by omega)]) hv
  rcases hb with ⟨c0, eb⟩ | ⟨c0, eb, eb2, hSe, eB, _⟩
  · rw [eb, if_neg (by decide), if_pos c0]
    refine ⟨rfl, key ?_⟩
    rw [j2, eb, if_neg (fun q => absurd q.2 (by decide)), j1 0 (by decide) (by decide) (by decide), h8, if_neg (fun q => q.2 c0), e391, hf.2.1, if_neg (by decide)]
    exact hI.2.2.2.2.2.2.1
  · rw [if_pos eb2, if_neg c0]
    refine ⟨?_, key ?_⟩
    · rw [eb, hpr Se (by omega), eB]
    · rw [j2, if_pos ⟨rfl, eb2⟩, j1 0 (by decide) (by decide) (by decide), h8, if_pos ⟨rfl, c0⟩, eb]
theorem ok_every : z_Ok X d mX7_every mX8_every [] := by
  rintro mem ⟨N, T, C, U, hI⟩
  have hS := zI_S hI
  have hN := hS.2.1
  have hp := zi_pow hN
  obtain ⟨nd, hnd, hnd7⟩ := zneed hI.1.2.2.1.2.1 hI.1.2.2.1.2.2.2
  refine s_X7_every (d := d + 10) hS (zN_Z hI.1) (by rw [hI.1.2.2.1.1, hI.1.2.2.1.2.2.1]; exact hnd) hnd7 (fun m1 m2 B Se Cn hf hk hZ => ⟨_, rfl, ?_⟩)
  have e392 : m2 392 = mem 392 := by rw [hk 392 (by omega), hf.1 392 (by decide) (by omega)]
  have e396 : m2 396 = mem 396 := by rw [hk 396 (by omega), hf.1 396 (by decide) (by omega)]
  rw [hI.1.2.1.1, hI.1.2.2.2.1.1] at hZ
  have han := (zI_fresh hI hf).2.1
  have hb := zb_best_n (pr := 0) hN hnd hnd7 hI.1.2.2.2.1.2 han (fun s hs => ⟨by unfold zb_cost; rw [if_pos rfl, zm_many_n (by omega), zh_cs_one hN hs], zh_cs_le hN (fun _ _ => by omega)⟩) hZ
  refine s_X8_every (d := d + 25) (by rw [e392]; exact hI.1.1.2.1) hN (fun m3 j1 => ⟨?_, zJ_f hI hf (fun k kk => by rw [j1 k (by omega) (by omega), hk k (by omega)])⟩)
  rw [e392, e396]
  rcases hb with ⟨c0, eb⟩ | ⟨c0, eb, eb2, hSe, eB, eC⟩
  · rw [eb, if_neg (by decide), c0]; rfl
  · rw [if_pos eb2, eb, eC]
    have := zc_in_ct (f := fun k => if zm_many (nI k) = zm_many (nI Se) ∧ zc_cl (mem 392) (mem 396) N k < 0 then 1 else 0) (q := fun s => zh_mt (m1 374) (mem 392 1) N (mem 392 5) nd s && decide (zh_cs (fun _ => 1) N s = zh_cs (fun _ => 1) N Se)) (2 ^ N) 0 0 (fun i _ hi => ?_)
    · have this2 : zc_in (fun k => if zm_many (nI k) = zm_many (nI Se) ∧ zc_cl (mem 392) (mem 396) N k < 0 then 1 else 0) (2 ^ N) 0 0 = _ := this
      rw [this2, Nat.zero_add, fb_ct_cong (fun i _ => by rw [Nat.zero_add])]
    · have hi' : i < 2 ^ N := by omega
      have h1 := zh_mt_cl (s := i) hN hnd hnd7 hI.1.2.2.2.1.2 han hi'
      rw [zm_many_n (by omega), zm_many_n (by omega), zh_cs_one hN hi', zh_cs_one hN hSe]
      have h2 : nI (zn_pc i) = nI (zn_pc Se) ↔ zn_pc i = zn_pc Se := nI_eq (by have := zn_pc_le i; omega) (by have := zn_pc_le Se; omega)
      rw [Int32.not_le] at h1
      by_cases c1 : zc_cl (mem 392) (mem 396) N i < 0
      · have m1t := h1.mpr c1
        by_cases c2 : zn_pc i = zn_pc Se
        · rw [if_pos ⟨h2.mpr c2, c1⟩, if_pos (by rw [m1t, decide_eq_true c2]; rfl)]
        · rw [if_neg (fun q => c2 (h2.mp q.1)), if_neg (by rw [decide_eq_false c2, Bool.and_false]; decide)]
      · rw [if_neg (fun q => c1 q.2), if_neg (fun q => by rw [Bool.and_eq_true] at q; exact c1 (h1.mp q.1))]
theorem zI_cc {mem : az_M} {N T C U : Nat} (hI : zI mem N T C U) : ∃ cc : Nat → Nat, (∀ p, p < N → mem 5 p = nI (cc p) ∧ cc p ≤ 100) ∧ ∀ p, p < N → mem 392 (295 + p) = nI (cc p) := by
  obtain ⟨cc, g⟩ := hI.1.2.2.2.2.2.2.2.2
  have hN := hI.1.1.2.2.2
  exact ⟨cc, fun p hp => ⟨(g p (by omega)).1, (g p (by omega)).2.1⟩, fun p hp => (g p (by omega)).2.2.1 hp⟩
theorem ok_worst {x : Int32} : z_Ok X d mX7_worst mX8_worst [.inl x] := by
  rintro mem ⟨N, T, C, U, hI⟩
  have hS := zI_S hI
  have hN := hS.2.1
  obtain ⟨cc, g1, g2⟩ := zI_cc hI
  refine s_X7_worst (d := d + 4) (S := mem 392) (an := mem 396) (cc := cc) hS g1 g2 (fun m1 hf => (zI_fresh hI hf).2.1) (fun q => ⟨_, rfl, ?_⟩) (fun q m1 m2 hf hk hne => ⟨_, rfl, ?_⟩)
  · exact s_X8_worst (d := d + 23) hI.1.1.2.1 hN (fun m3 j => ⟨by rw [if_neg q], zJ_0 hI (fun k kk => j k (by omega) (by omega) (by omega))⟩)
  · have e392 : m2 392 = mem 392 := by rw [hk 392 (by omega), hf.1 392 (by decide) (by omega)]
    have e396 : m2 396 = mem 396 := by rw [hk 396 (by omega), hf.1 396 (by decide) (by omega)]
    exact s_X8_worst (d := d + 23) (by rw [e392]; exact hI.1.1.2.1) hN (fun m3 j => ⟨by rw [e392, e396, if_pos q, if_neg hne], zJ_f hI hf (fun k kk => by rw [j k (by omega) (by omega) (by omega), hk k (by omega)])⟩)
theorem ok_mean {x : Int32} : z_Ok X d mX7_mean mX8_mean [.inl x] := by
  rintro mem ⟨N, T, C, U, hI⟩
  have hS := zI_S hI
  have hN := hS.2.1
  obtain ⟨cc, g1, g2⟩ := zI_cc hI
  refine s_X7_mean (d := d + 4) (S := mem 392) (an := mem 396) (cc := cc) hS g1 g2 (fun m1 hf => (zI_fresh hI hf).2.1) (fun q => ⟨_, rfl, ?_⟩) (fun q m1 m2 hf hk => ⟨_, rfl, ?_⟩)
  · exact s_X8_mean (d := d + 23) hI.1.1.2.1 hN (fun m3 j => ⟨by rw [if_neg q], zJ_0 hI (fun k kk => j k (by omega) (by omega) (by omega))⟩)
  · have e392 : m2 392 = mem 392 := by rw [hk 392 (by omega), hf.1 392 (by decide) (by omega)]
    have e396 : m2 396 = mem 396 := by rw [hk 396 (by omega), hf.1 396 (by decide) (by omega)]
    exact s_X8_mean (d := d + 23) (by rw [e392]; exact hI.1.1.2.1) hN (fun m3 j => ⟨by rw [e392, e396, if_pos q], zJ_f hI hf (fun k kk => by rw [j k (by omega) (by omega) (by omega), hk k (by omega)])⟩)
theorem ok_next {x : Int32} : z_Ok X d mX7_next mX8_next [.inl x] := by
  rintro mem ⟨N, T, C, U, hI⟩
  have hS := zI_S hI
  have hN := hS.2.1
  obtain ⟨cc, g1, g2⟩ := zI_cc hI
  refine s_X7_next (d := d + 3) (S := mem 392) (an := mem 396) (cc := cc) hS g1 g2 (fun m1 hf => (zI_fresh hI hf).2.1) (fun q => ⟨_, rfl, ?_⟩) (fun q m1 m2 hf hk => ⟨_, rfl, ?_⟩)
  · exact s_X8_next (d := d + 23) hI.1.1.2.1 hN (fun m3 j => ⟨by rw [if_neg q], zJ_0 hI (fun k kk => j k (by omega) (by omega) (by omega))⟩)
  · have e392 : m2 392 = mem 392 := by rw [hk 392 (by omega), hf.1 392 (by decide) (by omega)]
    have e396 : m2 396 = mem 396 := by rw [hk 396 (by omega), hf.1 396 (by decide) (by omega)]
    exact s_X8_next (d := d + 23) (by rw [e392]; exact hI.1.1.2.1) hN (fun m3 j => ⟨by rw [e392, e396, if_pos q], zJ_f hI hf (fun k kk => by rw [j k (by omega) (by omega) (by omega), hk k (by omega)])⟩)
theorem ok_seek {x : Int32} : z_Ok X d mX7_seek mX8_seek [.inl x] := by
  rintro mem ⟨N, T, C, U, hI⟩
  have hS := zI_S hI
  have hN := hS.2.1
  refine s_X7_seek (d := d + 26) hS (fun q => ⟨_, rfl, ?_⟩) (fun q m1 m2 R hf hk hR => ⟨_, rfl, ?_⟩)
  · exact s_X8_seek (d := d + 26) hI.1.1.2.1 hN (fun m3 old j => ⟨by rw [if_neg q], zJ_0 hI (fun k kk => j k (by omega))⟩)
  · have e392 : m2 392 = mem 392 := by rw [hk 392 (by decide) (by decide), hf.1 392 (by decide) (by omega)]
    have e396 : m2 396 = mem 396 := by rw [hk 396 (by decide) (by decide), hf.1 396 (by decide) (by omega)]
    refine s_X8_seek (d := d + 26) (by rw [e392]; exact hI.1.1.2.1) hN (fun m3 old j => ⟨?_, zJ_f hI hf (fun k kk => by rw [j k (by omega), hk k (by omega) (by omega)])⟩)
    rw [e392, e396, if_pos q, zq_seek q.1 (zi_of (N := 2 ^ N) (Nat.lt_of_le_of_lt (zi_pow hN) (by decide)) q.2).1 (zI_fresh hI hf).2.1 (zI_len hI) hR]
theorem ok_tree : z_Ok X d mX7_tree mX8_tree [] := by
  rintro mem ⟨N, T, C, U, hI⟩
  have hS := zI_S hI
  have hN := hS.2.1
  have h1N := hI.1.1.2.2.1
  have hG := zI_G hI
  have hG2 : zl_G (mem 2) N := ⟨fun a b ha hb => by rw [zI_bf hI (by omega) (by omega), zI_bf hI (by omega) (by omega)]; exact hG.1 a b ha hb, fun a ha => by rw [zI_bf hI (by omega) (by omega)]; exact hG.2 a ha⟩
  refine s_X7_tree (d := d + 26) hS h1N hG2 (fun m1 hf => ⟨_, rfl, ?_⟩)
  have e392 : m1 392 = mem 392 := hf.1 392 (by decide) (by omega)
  have e395 : m1 395 = mem 395 := hf.1 395 (by decide) (by omega)
  refine s_X8_tree (d := d + 27) (by rw [e392]; exact hI.1.1.2.1) hN h1N (by rw [e392]; exact hG) ⟨?_, zJ_f hI hf (fun _ _ => rfl)⟩
  obtain ⟨f1, f2, f3⟩ := zI_fresh hI hf
  have hb : ∀ p, p < 16 → zn_bs (mem 2) N p = zn_bs (zm_len (mem 392)) N p := fun p hp => zn_bs_congr hN hp (zI_len hI)
  rw [e392, e395, zm_ends_congr hN (zI_len hI), zt_lv_congr hN hb, zt_ko_congr hb N hN]
  have hcon : zm_reach (mem 395) N 0 = nI N → ∀ V : Nat → Bool, (∀ a b, a < N → b < N → zm_bf (zm_len (mem 392)) a b = true → V a = V b) → ∀ b, b < N → V 0 = V b := by
    intro hr V hV b hbN
    refine f3 V (fun a b ha hb hab => hV a b ha hb (by rw [← zI_bf hI (by omega) (by omega)]; exact hab)) 0 b (by omega) hbN ?_
    unfold zm_reach at hr
    have hct : zm_sum (fun q => if mem 395 (16 * 0 + q) < 1000000 then (1 : Int32) else 0) N = nI (fb_ct (fun q => decide (mem 395 (16 * 0 + q) < 1000000)) N) := by
      rw [← zm_sum_ct]
      exact zm_sum_congr N (fun i _ => by simp)
    rw [hct] at hr
    have := fb_ct_all.mp ((nI_eq (by have := fb_ct_le (fun q => decide (mem 395 (16 * 0 + q) < 1000000)) N; omega) (by omega)).mp hr) b hbN
    exact of_decide_eq_true this
  have hw : ∀ b, b < N → m1 373 b = mem 395 b := fun b hbN => by have := f1 0 b (by omega) hbN; rw [show 16 * 0 + b = b by omega] at this; exact this
  rw [zt_tree_eq (len' := mem 2) hN h1N hG hw hcon]
end DD

/-! what holds between the calls: the class's world beside the reference's -/
def zNw (b : Nat) (mem : az_M) (S : Nat → Int32) : Prop := ∃ wd : Nat, wd < 65536 ∧ mem b 6 = nI wd ∧ S 6 = nI (zn_pc wd) ∧ (∀ m, m < 16 → S (311 + m) = if wd.testBit m then 1 else 0) ∧ ∀ m, m < 16 → wd.testBit m = true → S (327 + m) = mem (b + 5) m
def zNl (b : Nat) (mem : az_M) (S : Nat → Int32) : Prop := ∃ L : Nat → Nat, (∀ i, i < 256 → mem (b + 1) i = nI (L i) ∧ S (7 + i) = nI (L i) ∧ L i ≤ 1000) ∧ (∀ a c, a < 16 → c < 16 → L (16 * a + c) = L (16 * c + a)) ∧ ∀ a, a < 16 → L (16 * a + a) = 0
def zNp (b : Nat) (mem : az_M) (S : Nat → Int32) (n : Nat) : Prop := ∃ c : Nat → Nat, ∀ p, p < 16 → mem (b + 3) p = nI (c p) ∧ 1 ≤ c p ∧ c p ≤ 1000 ∧ (p < n → S (279 + p) = nI (c p)) ∧ (n ≤ p → c p = 1)
def zNc (b : Nat) (mem : az_M) (S : Nat → Int32) (n : Nat) : Prop := ∃ c : Nat → Nat, ∀ p, p < 16 → mem (b + 4) p = nI (c p) ∧ c p ≤ 100 ∧ (p < n → S (295 + p) = nI (c p)) ∧ (n ≤ p → c p = 1)
/-- the net at b is the reference's row S, of n posts -/
def zN (b : Nat) (mem : az_M) (S : Nat → Int32) (n : Nat) : Prop :=
  (mem b 0 = nI n ∧ S 0 = nI n ∧ 1 ≤ n ∧ n ≤ 16) ∧ (mem b 1 = S 1 ∧ (∃ k, k ≤ 4 ∧ S 1 = nI k) ∧ mem b 2 = S 2) ∧ (mem b 3 = S 3 ∧ (∃ f, f ≤ 3 ∧ S 3 = nI f) ∧ mem b 4 = S 4 ∧ (S 4 = 0 ∨ S 4 = 1)) ∧ (mem b 5 = S 5 ∧ (S 5 = 0 ∨ S 5 = 1)) ∧ zNw b mem S ∧ zNl b mem S ∧ (∀ i, i < 16 → mem (b + 2) i = S (263 + i)) ∧ zNp b mem S n ∧ zNc b mem S n
theorem zN_congr {b b' n : Nat} {mem m' : az_M} {S S' : Nat → Int32} (h0 : ∀ j, j < 7 → m' b' j = mem b j) (h1 : ∀ i, i < 256 → m' (b' + 1) i = mem (b + 1) i) (h2 : ∀ q i, 2 ≤ q → q < 6 → i < 16 → m' (b' + q) i = mem (b + q) i) (hS : ∀ k, k < 600 → S' k = S k) (h : zN b mem S n) : zN b' m' S' n := by
  obtain ⟨⟨a1, a2, a3, a4⟩, ⟨b1, b2, b3⟩, ⟨c1, c2, c3, c4⟩, ⟨d1, d2⟩, ⟨wd, e1, e2, e3, e4, e5⟩, ⟨L, f1, f2, f3⟩, g, ⟨cp, i1⟩, ⟨cc, j1⟩⟩ := h
  refine ⟨⟨?_, ?_, a3, a4⟩, ⟨?_, ?_, ?_⟩, ⟨?_, ?_, ?_, ?_⟩, ⟨?_, ?_⟩, ⟨wd, e1, ?_, ?_, fun m hm => ?_, fun m hm hb => ?_⟩, ⟨L, fun i hi => ?_, f2, f3⟩, fun i hi => ?_, ⟨cp, fun p hp => ?_⟩, ⟨cc, fun p hp => ?_⟩⟩
  · rw [h0 0 (by omega)]; exact a1
  · rw [hS 0 (by omega)]; exact a2
  · rw [h0 1 (by omega), hS 1 (by omega)]; exact b1
  · rw [hS 1 (by omega)]; exact b2
  · rw [h0 2 (by omega), hS 2 (by omega)]; exact b3
  · rw [h0 3 (by omega), hS 3 (by omega)]; exact c1
  · rw [hS 3 (by omega)]; exact c2
  · rw [h0 4 (by omega), hS 4 (by omega)]; exact c3
  · rw [hS 4 (by omega)]; exact c4
  · rw [h0 5 (by omega), hS 5 (by omega)]; exact d1
  · rw [hS 5 (by omega)]; exact d2
  · rw [h0 6 (by omega)]; exact e2
  · rw [hS 6 (by omega)]; exact e3
  · rw [hS _ (by omega)]; exact e4 m hm
  · rw [hS _ (by omega), h2 5 m (by omega) (by omega) hm]; exact e5 m hm hb
  · rw [h1 i hi, hS _ (by omega)]; exact f1 i hi
  · rw [h2 2 i (by omega) (by omega) hi, hS _ (by omega)]; exact g i hi
  · rw [h2 3 p (by omega) (by omega) hp]
    have := i1 p hp
    exact ⟨this.1, this.2.1, this.2.2.1, fun q => by rw [hS _ (by omega)]; exact this.2.2.2.1 q, this.2.2.2.2⟩
  · rw [h2 4 p (by omega) (by omega) hp]
    have := j1 p hp
    exact ⟨this.1, this.2.1, fun q => by rw [hS _ (by omega)]; exact this.2.2.1 q, this.2.2.2⟩
def zI (mem : az_M) (N T C U : Nat) : Prop :=
  zN 1 mem (mem 392) N ∧ zc_H mem T C ∧ zm_H mem T C ∧ (∀ k, k < C → ∃ n, zN (9 + 6 * ((T + 60 - (k + 1)) % 60)) mem (fun i => mem 393 (600 * ((T + 60 - k) % 60) + i)) n) ∧ (∀ i, i < 60 → zc_Z mem (9 + 6 * i)) ∧ ((mem 0 7 = 0 ∨ mem 0 7 = 1) ∧ (mem 0 7 = 0 → zC mem N) ∧ zF mem N) ∧ (mem 391 6 = mem 0 8 ∧ mem 391 5 = nI U ∧ mem 369 1 = nI U ∧ U ≤ 400 ∧ ∀ i, i < U → mem 394 i = mem 370 i)
def zJ (mem : az_M) : Prop := ∃ N T C U, zI mem N T C U
theorem zN_Z {b n : Nat} {mem : az_M} {S : Nat → Int32} (h : zN b mem S n) : zc_Z mem b := ⟨by rw [h.2.2.1.2.2.1]; exact h.2.2.1.2.2.2, by rw [h.2.2.2.1.1]; exact h.2.2.2.1.2⟩
theorem zI_S {mem : az_M} {N T C U : Nat} (h : zI mem N T C U) : zS mem N := ⟨h.1.1.1, h.1.1.2.2.2, h.2.2.2.2.2.1.1, h.2.2.2.2.2.1.2.1⟩
theorem zC_congr {m1 m2 : az_M} {N : Nat} (hk : ∀ k, (1 ≤ k ∧ k ≤ 3) ∨ (371 ≤ k ∧ k ≤ 378) → m2 k = m1 k) (h : zC m1 N) : zC m2 N := by
  have e1 := hk 1 (by omega)
  have e2 := hk 2 (by omega)
  have e3 := hk 3 (by omega)
  have f1 := hk 371 (by omega)
  have f2 := hk 372 (by omega)
  have f3 := hk 373 (by omega)
  have f4 := hk 374 (by omega)
  have f5 := hk 375 (by omega)
  have f6 := hk 376 (by omega)
  have f7 := hk 377 (by omega)
  have f8 := hk 378 (by omega)
  unfold zC zC_an at h ⊢
  rw [e1, e2, e3, f1, f2, f3, f4, f5, f6, f7, f8]
  exact h
theorem zF_congr {m1 m2 : az_M} {N : Nat} (h2 : m2 392 = m1 392) (h5 : m2 395 = m1 395) (h6 : m2 396 = m1 396) (h : zF m1 N) : zF m2 N := by
  unfold zF at h ⊢
  rw [h2, h5, h6]
  exact h
/-- behind a question nothing has changed but sight, what is looked up, and the set that was told -/
theorem zI_q {mem m2 : az_M} {N T C U : Nat} (h : zI mem N T C U) (hk : ∀ k, k ≠ 0 → k ≠ 391 → (k < 371 ∨ (390 < k ∧ k < 397)) → m2 k = mem k) (h0 : m2 0 7 = 0 ∨ m2 0 7 = 1) (hC : m2 0 7 = 0 → zC m2 N) (h1 : ∀ j, j ≠ 6 → m2 391 j = mem 391 j) (h6 : m2 391 6 = m2 0 8) : zI m2 N T C U := by
  obtain ⟨i1, i2, i3, i4, i5, ⟨_, _, i6⟩, _, i7, i8, i9, i10⟩ := h
  refine ⟨?_, ?_, ?_, fun k hkC => ?_, fun i hi => ?_, ⟨h0, hC, ?_⟩, h6, ?_, ?_, i9, fun i hi => ?_⟩
  · exact zN_congr (fun j _ => by rw [hk 1 (by decide) (by decide) (by omega)]) (fun i _ => by rw [hk 2 (by decide) (by decide) (by omega)]) (fun q i _ _ _ => by rw [hk (1 + q) (by omega) (by omega) (by omega)]) (fun k _ => by rw [hk 392 (by decide) (by decide) (by omega)]) i1
  · unfold zc_H; rw [hk 7 (by decide) (by decide) (by omega)]; exact i2
  · unfold zm_H; rw [h1 3 (by decide), h1 2 (by decide)]; exact i3
  · obtain ⟨n, hn⟩ := i4 k hkC
    have hm : (T + 60 - (k + 1)) % 60 < 60 := Nat.mod_lt _ (by decide)
    exact ⟨n, zN_congr (fun j _ => by rw [hk _ (by omega) (by omega) (by omega)]) (fun i _ => by rw [hk _ (by omega) (by omega) (by omega)]) (fun q i _ _ _ => by rw [hk _ (by omega) (by omega) (by omega)]) (fun k _ => by rw [hk 393 (by decide) (by decide) (by omega)]) hn⟩
  · unfold zc_Z; rw [hk _ (by omega) (by omega) (by omega)]; exact i5 i hi
  · exact zF_congr (hk 392 (by decide) (by decide) (by omega)) (hk 395 (by decide) (by decide) (by omega)) (hk 396 (by decide) (by decide) (by omega)) i6
  · rw [h1 5 (by decide)]; exact i7
  · rw [hk 369 (by decide) (by decide) (by omega)]; exact i8
  · rw [hk 394 (by decide) (by decide) (by omega), hk 370 (by decide) (by decide) (by omega)]; exact i10 i hi
/-- what freshSight leaves is the reference's -/
theorem zI_fresh {mem m1 : az_M} {N T C U : Nat} (h : zI mem N T C U) (hf : zSf mem m1 N) : (∀ a b, a < N → b < N → m1 373 (16 * a + b) = mem 395 (16 * a + b)) ∧ (∀ a b, a < N → b < N → m1 374 (16 * a + b) = mem 396 (16 * a + b)) ∧ ∀ V : Nat → Bool, (∀ a b, a < N → b < N → zm_bf (mem 2) a b = true → V a = V b) → ∀ a b, a < N → b < N → mem 395 (16 * a + b) < 1000000 → V a = V b := by
  obtain ⟨⟨⟨_, _, n1, n16⟩, ⟨k1, k2, k3⟩, _, _, _, ⟨L, f1, f2, f3⟩, g, _, _⟩, _, _, _, _, ⟨_, _, ⟨old2, w1⟩, w2⟩, _⟩ := h
  have hC := hf.2.2.1
  have e1 := hf.1 1 (by decide) (by omega)
  have e2 := hf.1 2 (by decide) (by omega)
  have e3 := hf.1 3 (by decide) (by omega)
  obtain ⟨old, hw⟩ := hC.2.2.1
  rw [e2] at hw
  have key : ∀ V : Nat → Bool, (∀ a b, a < N → b < N → zm_bf (mem 2) a b = true → V a = V b) → ∃ f, zy_R N V (m1 373) (mem 395) f := by
    intro V hV
    rw [hw, w1]
    exact zy_ways n16 f1 (fun a b ha hb hL => hV a b ha hb (by
      unfold zm_bf
      rw [(f1 (16 * a + b) (by omega)).1]
      exact decide_eq_true (nI_lt (a := 0) hL (by have := (f1 (16 * a + b) (by omega)).2.2; omega))))
  obtain ⟨f, hR⟩ := key (fun _ => true) (fun _ _ _ _ _ => rfl)
  have way : ∀ a b, a < N → b < N → m1 373 (16 * a + b) = mem 395 (16 * a + b) := fun a b ha hb => by
    have := hR.1 a b ha hb
    rw [this.1, this.2.1]
  refine ⟨way, fun a b ha hb => ?_, fun V hV a b ha hb hlt => ?_⟩
  · rw [hC.2.2.2.1 a b ha hb, w2 a b ha hb]
    unfold zC_an
    rw [e1, e2, e3]
    refine zy_says k1 k2 k3 (g a (by omega)) ?_ (way a b ha hb)
    have := f1 (16 * a + b) (by omega)
    show mem 2 (16 * a + b) = mem 392 (7 + (16 * a + b))
    rw [this.2.1]; exact this.1
  · obtain ⟨f', hR'⟩ := key V hV
    have := hR'.1 a b ha hb
    refine this.2.2.2 ?_
    rw [this.2.1] at hlt
    exact (nI_ltI (b := 1000000) (by omega) (by decide)).mp hlt
theorem zc_act_get {T C : Nat} {mem m1 : az_M} (hT : T < 60) (h : zc_act T C mem m1) : (∀ k, 8 ≤ k → (k < 9 + 6 * T ∨ 9 + 6 * T + 6 ≤ k) → m1 k = mem k) ∧ (∀ j, m1 0 j = if j = 7 then 1 else mem 0 j) ∧ (∀ j, m1 7 j = if j = 1 then nI ((T + 1) % 60) else if j = 2 then nI (if C < 60 then C + 1 else C) else mem 7 j) ∧ zc_as (9 + 6 * T) 1 mem m1 := by
  obtain ⟨ma, ⟨mb, ⟨b1, b2, b3⟩, rfl⟩, a2⟩ := h
  refine ⟨fun k h1 h2 => ?_, fun j => ?_, fun j => ?_, fun j hj => ?_, fun i hi => ?_, fun q i h1 h2 hi => ?_⟩
  · rw [a2 k (by omega), az_w_ne _ (by omega)]; exact b1 k (by omega) h2
  · rw [a2 0 (by omega), az_w_same]; unfold upd; rw [b1 0 (by decide) (by omega)]
  · rw [a2 7 (by omega), az_w_ne _ (by decide)]; exact b2 j
  · rw [a2 _ (by omega), az_w_ne _ (by omega)]; exact b3.1 j hj
  · rw [a2 _ (by omega), az_w_ne _ (by omega)]; exact b3.2.1 i hi
  · rw [a2 _ (by omega), az_w_ne _ (by omega)]; exact b3.2.2 q i h1 h2 hi
/-- behind an act both have kept the old, and the new is as the act says -/
theorem zI_act {mem m1 m2 : az_M} {N N' T C U : Nat} (h : zI mem N T C U) (hA : zc_act T C mem m1) (hB : zm_act T C m1 m2) (hF : zF m2 N') (hn : zN 1 m1 (m2 392) N') : zI m2 N' ((T + 1) % 60) (if C < 60 then C + 1 else C) U := by
  obtain ⟨i1, i2, i3, i4, i5, _, i6, i7, i8, i9, i10⟩ := h
  have hT := i2.2.1
  have hCb := i2.2.2.2
  obtain ⟨a1, a2, a3, a4⟩ := zc_act_get hT hA
  obtain ⟨mc, ⟨c1, c2, c3, c4⟩, c5⟩ := hB
  have hi : ∀ k, k ≠ 391 → k ≠ 392 → k ≠ 393 → k ≠ 395 → k ≠ 396 → m2 k = m1 k := fun k h1 h2 h3 h5 h6 => by rw [c5 k h2 h5 h6, c1 k h1 h3]
  have e391 : ∀ j, m2 391 j = if j = 3 then nI ((T + 1) % 60) else if j = 2 then nI (if C < 60 then C + 1 else C) else mem 391 j := fun j => by
    rw [c5 391 (by decide) (by decide) (by decide), c2 j, a1 391 (by omega) (by omega)]
  have hm60 : (T + 1) % 60 < 60 := Nat.mod_lt _ (by decide)
  have hC' : (if C < 60 then C + 1 else C) ≤ 60 := by split <;> omega
  refine ⟨?_, ⟨?_, hm60, ?_, hC'⟩, ⟨?_, hm60, ?_, hC'⟩, fun k hk => ?_, fun i hi60 => ?_, ⟨?_, ?_, hF⟩, ?_, ?_, ?_, i9, fun i hiU => ?_⟩
  · exact zN_congr (fun j _ => by rw [hi 1 (by decide) (by decide) (by decide) (by decide) (by decide)]) (fun i _ => by rw [hi 2 (by decide) (by decide) (by decide) (by decide) (by decide)]) (fun q i _ _ _ => by rw [hi (1 + q) (by omega) (by omega) (by omega) (by omega) (by omega)]) (fun k _ => rfl) hn
  · rw [hi 7 (by decide) (by decide) (by decide) (by decide) (by decide), a3]; simp
  · rw [hi 7 (by decide) (by decide) (by decide) (by decide) (by decide), a3]; simp
  · rw [e391]; simp
  · rw [e391]; simp
  · have hs : ((T + 1) % 60 + 60 - (k + 1)) % 60 < 60 := Nat.mod_lt _ (by decide)
    have hr : ((T + 1) % 60 + 60 - k) % 60 < 60 := Nat.mod_lt _ (by decide)
    by_cases k0 : k = 0
    · subst k0
      have e1 : ((T + 1) % 60 + 60 - (0 + 1)) % 60 = T := by omega
      have e2 : ((T + 1) % 60 + 60 - 0) % 60 = (T + 1) % 60 := by omega
      rw [e1, e2]
      refine ⟨N, zN_congr (fun j hj => ?_) (fun i hi2 => ?_) (fun q i h1 h2 hi2 => ?_) (fun k hk6 => ?_) i1⟩
      · rw [hi _ (by omega) (by omega) (by omega) (by omega) (by omega)]; exact a4.1 j hj
      · rw [hi _ (by omega) (by omega) (by omega) (by omega) (by omega)]; exact a4.2.1 i hi2
      · rw [hi _ (by omega) (by omega) (by omega) (by omega) (by omega)]; exact a4.2.2 q i h1 h2 hi2
      · rw [c5 393 (by decide) (by decide) (by decide), c3 k hk6, a1 392 (by omega) (by omega)]
    · have hk2 : k - 1 < C := by
        revert hk; split <;> omega
      obtain ⟨n, hz⟩ := i4 (k - 1) hk2
      have e1 : ((T + 1) % 60 + 60 - (k + 1)) % 60 = (T + 60 - (k - 1 + 1)) % 60 := by omega
      have e2 : ((T + 1) % 60 + 60 - k) % 60 = (T + 60 - (k - 1)) % 60 := by omega
      have g1 : (T + 60 - (k - 1 + 1)) % 60 ≠ T := by omega
      have g2 : (T + 60 - (k - 1)) % 60 ≠ (T + 1) % 60 := by omega
      rw [e1] at hs
      rw [e2] at hr
      rw [e1, e2]
      refine ⟨n, zN_congr (fun j hj => ?_) (fun i hi2 => ?_) (fun q i h1 h2 hi2 => ?_) (fun k' hk6 => ?_) hz⟩
      · rw [hi _ (by omega) (by omega) (by omega) (by omega) (by omega), a1 _ (by omega) (by omega)]
      · rw [hi _ (by omega) (by omega) (by omega) (by omega) (by omega), a1 _ (by omega) (by omega)]
      · rw [hi _ (by omega) (by omega) (by omega) (by omega) (by omega), a1 _ (by omega) (by omega)]
      · rw [c5 393 (by decide) (by decide) (by decide), c4 _ k' hr g2 hk6, a1 393 (by omega) (by omega)]
  · by_cases e : i = T
    · subst e
      have hz := zN_Z i1
      unfold zc_Z at hz ⊢
      rw [hi _ (by omega) (by omega) (by omega) (by omega) (by omega), a4.1 4 (by omega), a4.1 5 (by omega)]
      exact hz
    · have := i5 i hi60
      unfold zc_Z at this ⊢
      rw [hi _ (by omega) (by omega) (by omega) (by omega) (by omega), a1 _ (by omega) (by omega)]
      exact this
  · rw [hi 0 (by decide) (by decide) (by decide) (by decide) (by decide), a2]; simp
  · rw [hi 0 (by decide) (by decide) (by decide) (by decide) (by decide), a2]
    simp
  · rw [e391, hi 0 (by decide) (by decide) (by decide) (by decide) (by decide), a2]; simp [i6]
  · rw [e391]; simp [i7]
  · rw [hi 369 (by decide) (by decide) (by decide) (by decide) (by decide), a1 369 (by omega) (by omega)]; exact i8
  · rw [hi 394 (by decide) (by decide) (by decide) (by decide) (by decide), hi 370 (by decide) (by decide) (by decide) (by decide) (by decide), a1 394 (by omega) (by omega), a1 370 (by omega) (by omega)]; exact i10 i hiU

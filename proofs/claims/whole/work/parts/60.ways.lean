/-! the ways of the class and those of the reference -/
def zy_u (f : Nat → Nat) (i v : Nat) (j : Nat) : Nat := if j = i then v else f j
/-- both rows hold f; V parts no two posts between which there is a way -/
def zy_R (N : Nat) (V : Nat → Bool) (w1 w2 : Nat → Int32) (f : Nat → Nat) : Prop := (∀ a b, a < N → b < N → w1 (16 * a + b) = nI (f (16 * a + b)) ∧ w2 (16 * a + b) = nI (f (16 * a + b)) ∧ f (16 * a + b) ≤ 1000000 ∧ (f (16 * a + b) < 1000000 → V a = V b)) ∧ ∀ a, a < N → f (16 * a + a) = 0
theorem zy_ix {a b c d : Nat} (hb : b < 16) (hd : d < 16) : 16 * a + b = 16 * c + d ↔ a = c ∧ b = d := by omega
theorem zy_upd {N : Nat} {V : Nat → Bool} {w1 w2 : Nat → Int32} {f : Nat → Nat} {a k b : Nat} (hN : N ≤ 16) (ha : a < N) (hk : k < N) (hb : b < N) (h : zy_R N V w1 w2 f) (hlt : f (16 * a + k) + f (16 * k + b) < f (16 * a + b)) : zy_R N V (upd w1 (16 * a + b) (nI (f (16 * a + k) + f (16 * k + b)))) (upd w2 (16 * a + b) (nI (f (16 * a + k) + f (16 * k + b)))) (zy_u f (16 * a + b) (f (16 * a + k) + f (16 * k + b))) := by
  obtain ⟨h1, h2⟩ := h
  have hab := h1 a b ha hb
  refine ⟨fun i j hi hj => ?_, fun i hi => ?_⟩
  · unfold upd zy_u
    by_cases e : 16 * i + j = 16 * a + b
    · rw [if_pos e, if_pos e, if_pos e]
      obtain ⟨rfl, rfl⟩ := (zy_ix (by omega) (by omega)).mp e
      refine ⟨rfl, rfl, by omega, fun _ => ?_⟩
      rw [(h1 i k hi hk).2.2.2 (by omega), (h1 k j hk hj).2.2.2 (by omega)]
    · rw [if_neg e, if_neg e, if_neg e]; exact h1 i j hi hj
  · unfold zy_u
    by_cases e : 16 * i + i = 16 * a + b
    · obtain ⟨rfl, rfl⟩ := (zy_ix (by omega) (by omega)).mp e
      have := h2 i hi
      omega
    · rw [if_neg e]; exact h2 i hi
theorem zy_b {N : Nat} {V : Nat → Bool} {a k F : Nat} (hN : N ≤ 16) (ha : a < N) (hk : k < N) (hF : F < 1000000) : ∀ (n b : Nat) (w1 w2 : Nat → Int32) (f : Nat → Nat), b + n = N → zy_R N V w1 w2 f → f (16 * a + k) = F → ∃ f', zy_R N V (zx_b a k (nI F) n b w1) (zw_b a k n b w2) f'
  | 0, b, w1, w2, f, _, h, _ => ⟨f, h⟩
  | n + 1, b, w1, w2, f, hb, h, hf => by
    have hbN : b < N := by omega
    have hkb := h.1 k b hk hbN
    have hab := h.1 a b ha hbN
    have hak := h.1 a k ha hk
    rw [zx_b, zw_b, zw_st]
    rw [hkb.1, hab.1, hak.2.1, hkb.2.1, hab.2.1, hf, nI_add]
    by_cases c : F + f (16 * k + b) < f (16 * a + b)
    · rw [if_pos (nI_lt c (by omega)), if_pos (nI_lt c (by omega))]
      have hu := zy_upd hN ha hk hbN h (by rw [hf]; exact c)
      rw [hf] at hu
      refine zy_b hN ha hk hF n (b + 1) _ _ _ (by omega) hu ?_
      unfold zy_u
      rw [if_neg, hf]
      intro e
      have e2 := (zy_ix (by omega) (by omega)).mp e
      have := h.2 k hk
      rw [← e2.2, this, hf] at c
      omega
    · rw [if_neg (fun q => c ((nI_ltI (by omega) (by omega)).mp q)), if_neg (fun q => c ((nI_ltI (by omega) (by omega)).mp q))]
      exact zy_b hN ha hk hF n (b + 1) w1 w2 f (by omega) h hf
theorem zy_far {N : Nat} {V : Nat → Bool} {a k : Nat} (ha : a < N) (hk : k < N) : ∀ (n b : Nat) (w1 w2 : Nat → Int32) (f : Nat → Nat), b + n = N → zy_R N V w1 w2 f → f (16 * a + k) = 1000000 → zw_b a k n b w2 = w2
  | 0, b, w1, w2, f, _, h, _ => rfl
  | n + 1, b, w1, w2, f, hb, h, hf => by
    have hbN : b < N := by omega
    have hkb := h.1 k b hk hbN
    have hab := h.1 a b ha hbN
    have hak := h.1 a k ha hk
    rw [zw_b, zw_st, hak.2.1, hkb.2.1, hab.2.1, hf, nI_add, if_neg (fun q => by have := (nI_ltI (by omega) (by omega)).mp q; omega)]
    exact zy_far ha hk n (b + 1) w1 w2 f (by omega) h hf
theorem zy_sh {N : Nat} {V : Nat → Bool} {a k : Nat} (hN : N ≤ 16) (ha : a < N) (hk : k < N) {w1 w2 : Nat → Int32} {f : Nat → Nat} (h : zy_R N V w1 w2 f) : ∃ f', zy_R N V (zx_sh N a k w1) (zw_b a k N 0 w2) f' := by
  have hak := h.1 a k ha hk
  unfold zx_sh
  rw [hak.1]
  by_cases c : f (16 * a + k) < 1000000
  · have q : nI (f (16 * a + k)) < 1000000 := nI_lt (b := 1000000) c (by decide)
    rw [if_pos q]
    exact zy_b hN ha hk c N 0 w1 w2 f (by omega) h rfl
  · have q : ¬ nI (f (16 * a + k)) < 1000000 := fun q => c ((nI_ltI (b := 1000000) (by omega) (by decide)).mp q)
    rw [if_neg q, zy_far ha hk N 0 w1 w2 f (by omega) h (by omega)]
    exact ⟨f, h⟩
theorem zy_a {N : Nat} {V : Nat → Bool} {k : Nat} (hN : N ≤ 16) (hk : k < N) : ∀ (n a : Nat) (w1 w2 : Nat → Int32) (f : Nat → Nat), a + n = N → zy_R N V w1 w2 f → ∃ f', zy_R N V (zx_a N k n a w1) (zw_a N k n a w2) f'
  | 0, a, w1, w2, f, _, h => ⟨f, h⟩
  | n + 1, a, w1, w2, f, ha, h => by
    rw [zx_a, zw_a]
    obtain ⟨f', h'⟩ := zy_sh hN (by omega : a < N) hk h
    exact zy_a hN hk n (a + 1) _ _ f' (by omega) h'
theorem zy_k {N : Nat} {V : Nat → Bool} (hN : N ≤ 16) : ∀ (n k : Nat) (w1 w2 : Nat → Int32) (f : Nat → Nat), k + n = N → zy_R N V w1 w2 f → ∃ f', zy_R N V (zx_k N n k w1) (zw_k N n k w2) f'
  | 0, k, w1, w2, f, _, h => ⟨f, h⟩
  | n + 1, k, w1, w2, f, hk, h => by
    rw [zx_k, zw_k]
    obtain ⟨f', h'⟩ := zy_a hN (by omega : k < N) N 0 w1 w2 f (by omega) h
    exact zy_k hN n (k + 1) _ _ f' (by omega) h'
theorem zy_ways {N : Nat} {V : Nat → Bool} {len len2 old old2 : Nat → Int32} {L : Nat → Nat} (hN : N ≤ 16) (h1 : ∀ i, i < 256 → len i = nI (L i) ∧ len2 i = nI (L i) ∧ L i ≤ 1000) (hV : ∀ a b, a < N → b < N → 0 < L (16 * a + b) → V a = V b) : ∃ f, zy_R N V (zx_k N N 0 (zx_00 N len old)) (zw_k N N 0 (zw_00 len2 old2)) f := by
  refine zy_k hN N 0 _ _ (fun i => if i / 16 = i % 16 then 0 else if 0 < L i then L i else 1000000) (by omega) ⟨fun a b ha hb => ?_, fun a ha => ?_⟩
  · have hi : 16 * a + b < 256 := by omega
    have e1 : (16 * a + b) / 16 = a := by omega
    have e2 : (16 * a + b) % 16 = b := by omega
    obtain ⟨l1, l2, l3⟩ := h1 _ hi
    have key : ∀ ln : Nat → Int32, ln (16 * a + b) = nI (L (16 * a + b)) → zw_0 ln (16 * a + b) = nI (if a = b then 0 else if 0 < L (16 * a + b) then L (16 * a + b) else 1000000) := by
      intro ln hl
      unfold zw_0
      rw [e1, e2, hl]
      by_cases c : a = b
      · rw [if_pos c, if_pos c]; rfl
      · rw [if_neg c, if_neg c]
        by_cases g : 0 < L (16 * a + b)
        · have q : (0 : Int32) < nI (L (16 * a + b)) := nI_lt (a := 0) g (by omega)
          rw [if_pos q, if_pos g]
        · have q : ¬ (0 : Int32) < nI (L (16 * a + b)) := fun q => g ((nI_ltI (a := 0) (by decide) (by omega)).mp q)
          rw [if_neg q, if_neg g]; rfl
    dsimp only
    rw [e1, e2]
    refine ⟨?_, ?_, ?_, ?_⟩
    · unfold zx_00; rw [e1, e2, if_pos ⟨ha, hb⟩]; exact key len l1
    · unfold zw_00; rw [if_pos hi]; exact key len2 l2
    · split
      · omega
      · split <;> omega
    · split
      · next c => intro _; rw [c]
      · split
        · next g => exact fun _ => hV a b ha hb g
        · intro q; omega
  · dsimp only
    rw [if_pos (by omega)]
theorem zy_says {S w w' : Nat → Int32} {k wi re : Int32} {len : Nat → Int32} {m p : Nat} (hk : k = S 1) (hk4 : ∃ q, q ≤ 4 ∧ S 1 = nI q) (hw : wi = S 2) (hr : re = S (263 + m)) (hl : len (16 * m + p) = zm_len S (16 * m + p)) (hway : w' (16 * m + p) = w (16 * m + p)) : zx_says k wi re (w' (16 * m + p)) (zm_bf len m p) (decide (m = p)) = zs_says S w m p := by
  subst hk hw hr
  obtain ⟨q, hq, e⟩ := hk4
  unfold zx_says zs_says zm_bf
  rw [hway, hl, e]
  have hc : q = 0 ∨ q = 1 ∨ q = 2 ∨ q = 3 ∨ q = 4 := by omega
  rcases hc with rfl | rfl | rfl | rfl | rfl
  · rw [show nI 0 = (0 : Int32) from rfl]
    simp only [show ((0 : Int32) = 0) = True from by simp, show ((0 : Int32) = 1) = False from by simp, show ((0 : Int32) = 2) = False from by simp, show ((0 : Int32) = 3) = False from by simp, show ((0 : Int32) = 4) = False from by simp]
    try simp only [if_true, if_false]
    first | rfl | done | (by_cases c : m = p <;> by_cases g : 0 < zm_len S (16 * m + p) <;> simp [c, g])
  · rw [show nI 1 = (1 : Int32) from rfl]
    simp only [show ((1 : Int32) = 0) = False from by simp, show ((1 : Int32) = 1) = True from by simp, show ((1 : Int32) = 2) = False from by simp, show ((1 : Int32) = 3) = False from by simp, show ((1 : Int32) = 4) = False from by simp]
    try simp only [if_true, if_false]
    first | rfl | done | (by_cases c : m = p <;> by_cases g : 0 < zm_len S (16 * m + p) <;> simp [c, g])
  · rw [show nI 2 = (2 : Int32) from rfl]
    simp only [show ((2 : Int32) = 0) = False from by simp, show ((2 : Int32) = 1) = False from by simp, show ((2 : Int32) = 2) = True from by simp, show ((2 : Int32) = 3) = False from by simp, show ((2 : Int32) = 4) = False from by simp]
    try simp only [if_true, if_false]
    first | rfl | done | (by_cases c : m = p <;> by_cases g : 0 < zm_len S (16 * m + p) <;> simp [c, g])
  · rw [show nI 3 = (3 : Int32) from rfl]
    simp only [show ((3 : Int32) = 0) = False from by simp, show ((3 : Int32) = 1) = False from by simp, show ((3 : Int32) = 2) = False from by simp, show ((3 : Int32) = 3) = True from by simp, show ((3 : Int32) = 4) = False from by simp]
    try simp only [if_true, if_false]
    first | rfl | done | (by_cases c : m = p <;> by_cases g : 0 < zm_len S (16 * m + p) <;> simp [c, g])
  · rw [show nI 4 = (4 : Int32) from rfl]
    simp only [show ((4 : Int32) = 0) = False from by simp, show ((4 : Int32) = 1) = False from by simp, show ((4 : Int32) = 2) = False from by simp, show ((4 : Int32) = 3) = False from by simp, show ((4 : Int32) = 4) = True from by simp]
    try simp only [if_true, if_false]
    first | rfl | done | (by_cases c : m = p <;> by_cases g : 0 < zm_len S (16 * m + p) <;> simp [c, g])

theorem az_pc {X : az_X} {d : Nat} {M : az_Me} {pc : Nat} {L : List (Option az_V)} {st : List az_V} {mem : az_M} {Q : Option az_V → az_M → Prop} (p : Nat) (h : p = pc) (k : az_Ev X d M p L st mem Q) : az_Ev X d M pc L st mem Q := by subst h; exact k
/-! pure words for loops: what is left of a loop, by the number of rounds left -/
theorem zs_sub {i N : Nat} (h : i < N) : N - i = (N - (i + 1)) + 1 := by omega
/-- the first place from b on, among k -/
def zf_in (f : Nat → Bool) : Nat → Nat → Option Nat
  | 0, _ => none
  | k + 1, b => if f b then some b else zf_in f k (b + 1)
theorem zf_in_t {f : Nat → Bool} {b k : Nat} (h : f b = true) : zf_in f (k + 1) b = some b := by rw [zf_in, if_pos h]
theorem zf_in_f {f : Nat → Bool} {b k : Nat} (h : f b = false) : zf_in f (k + 1) b = zf_in f k (b + 1) := by rw [zf_in, if_neg (by rw [h]; decide)]
theorem zf_in_congr {f g : Nat → Bool} : ∀ (k b : Nat), (∀ i, b ≤ i → i < b + k → f i = g i) → zf_in f k b = zf_in g k b
  | 0, _, _ => rfl
  | k + 1, b, h => by rw [zf_in, zf_in, h b (Nat.le_refl _) (by omega), zf_in_congr k (b + 1) (fun i h1 h2 => h i (by omega) (by omega))]
theorem zf_in_spec {f : Nat → Bool} : ∀ (k b : Nat), (match zf_in f k b with
    | some i => b ≤ i ∧ i < b + k ∧ f i = true ∧ ∀ j, b ≤ j → j < i → f j = false
    | none => ∀ j, b ≤ j → j < b + k → f j = false)
  | 0, b => fun j h1 h2 => absurd h1 (by omega)
  | k + 1, b => by
    by_cases h : f b = true
    · rw [zf_in_t h]; exact ⟨Nat.le_refl _, by omega, h, fun j h1 h2 => absurd h1 (by omega)⟩
    · have hf : f b = false := by simpa using h
      rw [zf_in_f hf]
      have ih := zf_in_spec (f := f) k (b + 1)
      cases hz : zf_in f k (b + 1) with
      | none =>
        rw [hz] at ih
        intro j h1 h2
        rcases Nat.lt_or_ge b j with q | q
        · exact ih j q (by omega)
        · have : j = b := by omega
          subst this; exact hf
      | some i =>
        rw [hz] at ih
        refine ⟨by omega, by omega, ih.2.2.1, fun j h1 h2 => ?_⟩
        rcases Nat.lt_or_ge b j with q | q
        · exact ih.2.2.2 j q h2
        · have : j = b := by omega
          subst this; exact hf
/-- the first pair a, b (a less than b) in order -/
def zf_pr (f : Nat → Nat → Bool) (N : Nat) : Nat → Nat → Option (Nat × Nat)
  | 0, _ => none
  | k + 1, a => match zf_in (f a) (N - (a + 1)) (a + 1) with
    | some b => some (a, b)
    | none => zf_pr f N k (a + 1)
theorem zf_pr_t {f : Nat → Nat → Bool} {N a b k : Nat} (h : zf_in (f a) (N - (a + 1)) (a + 1) = some b) : zf_pr f N (k + 1) a = some (a, b) := by rw [zf_pr, h]
theorem zf_pr_f {f : Nat → Nat → Bool} {N a k : Nat} (h : zf_in (f a) (N - (a + 1)) (a + 1) = none) : zf_pr f N (k + 1) a = zf_pr f N k (a + 1) := by rw [zf_pr, h]
theorem zf_pr_congr {f g : Nat → Nat → Bool} {N : Nat} : ∀ (k a : Nat), a + k ≤ N → (∀ i j, i < j → j < N → f i j = g i j) → zf_pr f N k a = zf_pr g N k a
  | 0, _, _, _ => rfl
  | k + 1, a, hk, h => by
    rw [zf_pr, zf_pr, zf_in_congr (f := f a) (g := g a) (N - (a + 1)) (a + 1) (fun i h1 h2 => h a i (by omega) (by omega)), zf_pr_congr k (a + 1) (by omega) h]
/-- sums of a function, from i on, k of them, onto c -/
def zc_in (f : Nat → Int32) : Nat → Nat → Int32 → Int32
  | 0, _, c => c
  | k + 1, b, c => zc_in f k (b + 1) (c + f b)
def zc_pr (f : Nat → Nat → Int32) (N : Nat) : Nat → Nat → Int32 → Int32
  | 0, _, c => c
  | k + 1, a, c => zc_pr f N k (a + 1) (zc_in (f a) (N - (a + 1)) (a + 1) c)
theorem zc_in_congr {f g : Nat → Int32} : ∀ (k b : Nat) (c : Int32), (∀ i, b ≤ i → i < b + k → f i = g i) → zc_in f k b c = zc_in g k b c
  | 0, _, _, _ => rfl
  | k + 1, b, c, h => by rw [zc_in, zc_in, h b (Nat.le_refl _) (by omega), zc_in_congr k (b + 1) _ (fun i h1 h2 => h i (by omega) (by omega))]
theorem zc_pr_congr {f g : Nat → Nat → Int32} {N : Nat} : ∀ (k a : Nat) (c : Int32), a + k ≤ N → (∀ i j, i < j → j < N → f i j = g i j) → zc_pr f N k a c = zc_pr g N k a c
  | 0, _, _, _, _ => rfl
  | k + 1, a, c, hk, h => by
    rw [zc_pr, zc_pr, zc_in_congr (f := f a) (g := g a) (N - (a + 1)) (a + 1) c (fun i h1 h2 => h a i (by omega) (by omega)), zc_pr_congr k (a + 1) _ (by omega) h]
/-- the k-th place: .inl it, or .inr how many there were -/
def zk_in (f : Nat → Bool) (k : Int32) : Nat → Nat → Int32 → Nat ⊕ Int32
  | 0, _, c => .inr c
  | n + 1, b, c => if f b then (if c = k then .inl b else zk_in f k n (b + 1) (c + 1)) else zk_in f k n (b + 1) c
def zk_pr (f : Nat → Nat → Bool) (k : Int32) (N : Nat) : Nat → Nat → Int32 → Option (Nat × Nat)
  | 0, _, _ => none
  | n + 1, a, c => match zk_in (f a) k (N - (a + 1)) (a + 1) c with
    | .inl b => some (a, b)
    | .inr c' => zk_pr f k N n (a + 1) c'
theorem zk_in_tt {f : Nat → Bool} {k c : Int32} {n b : Nat} (h : f b = true) (hc : c = k) : zk_in f k (n + 1) b c = .inl b := by rw [zk_in, if_pos h, if_pos hc]
theorem zk_in_tf {f : Nat → Bool} {k c : Int32} {n b : Nat} (h : f b = true) (hc : ¬ c = k) : zk_in f k (n + 1) b c = zk_in f k n (b + 1) (c + 1) := by rw [zk_in, if_pos h, if_neg hc]
theorem zk_in_f {f : Nat → Bool} {k c : Int32} {n b : Nat} (h : f b = false) : zk_in f k (n + 1) b c = zk_in f k n (b + 1) c := by rw [zk_in, if_neg (by rw [h]; decide)]
theorem zk_in_congr {f g : Nat → Bool} {k : Int32} : ∀ (n b : Nat) (c : Int32), (∀ i, b ≤ i → i < b + n → f i = g i) → zk_in f k n b c = zk_in g k n b c
  | 0, _, _, _ => rfl
  | n + 1, b, c, h => by
    rw [zk_in, zk_in, h b (Nat.le_refl _) (by omega), zk_in_congr n (b + 1) c (fun i h1 h2 => h i (by omega) (by omega)), zk_in_congr n (b + 1) (c + 1) (fun i h1 h2 => h i (by omega) (by omega))]
theorem zk_pr_congr {f g : Nat → Nat → Bool} {k : Int32} {N : Nat} : ∀ (n a : Nat) (c : Int32), a + n ≤ N → (∀ i j, i < j → j < N → f i j = g i j) → zk_pr f k N n a c = zk_pr g k N n a c
  | 0, _, _, _, _ => rfl
  | n + 1, a, c, hk, h => by
    rw [zk_pr, zk_pr, zk_in_congr (f := f a) (g := g a) (N - (a + 1)) (a + 1) c (fun i h1 h2 => h a i (by omega) (by omega))]
    cases zk_in (g a) k (N - (a + 1)) (a + 1) c with
    | inl b => rfl
    | inr c' => exact zk_pr_congr n (a + 1) c' (by omega) h
def zr_pr (r : Option (Nat × Nat)) : Int32 := match r with
  | some ab => nI (16 * ab.1 + ab.2)
  | none => -1
def zr_in (r : Option Nat) : Int32 := match r with
  | some b => nI b
  | none => -1

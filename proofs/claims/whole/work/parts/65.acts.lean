/-! acts: the class's answers are the reference's -/
def z_Ok (X : az_X) (d : Nat) (M1 M2 : az_Me) (args : List az_V) : Prop := ∀ mem, zJ mem → az_Sp X (d + 30) M1 (.inr 0 :: args) mem (fun r m1 => ∃ v, r = some (.inl v) ∧ az_Sp X (d + 30) M2 (.inr 391 :: args) m1 (fun r2 m2 => r2 = some (.inl v) ∧ zJ m2))
def z_Ok0 (X : az_X) (d : Nat) (M1 M2 : az_Me) (args : List az_V) : Prop := ∀ mem, zJ mem → az_Sp X (d + 30) M1 (.inr 0 :: args) mem (fun r m1 => r = none ∧ az_Sp X (d + 30) M2 (.inr 391 :: args) m1 (fun r2 m2 => r2 = none ∧ zJ m2))
theorem zNw_cg {mem m1 : az_M} {S S' : Nat → Int32} (h6 : m1 1 6 = mem 1 6) (hw : m1 6 = mem 6) (hS6 : S' 6 = S 6) (hS : ∀ i, 311 ≤ i → i < 343 → S' i = S i) (h : zNw 1 mem S) : zNw 1 m1 S' := by
  obtain ⟨wd, e1, e2, e3, e4, e5⟩ := h
  refine ⟨wd, e1, by rw [h6]; exact e2, by rw [hS6]; exact e3, fun m hm => by rw [hS _ (by omega) (by omega)]; exact e4 m hm, fun m hm hb => ?_⟩
  rw [hS _ (by omega) (by omega), e5 m hm hb]
  show mem 6 m = m1 6 m
  rw [hw]
theorem zNl_cg {mem m1 : az_M} {S S' : Nat → Int32} (hm : m1 2 = mem 2) (hS : ∀ i, 7 ≤ i → i < 263 → S' i = S i) (h : zNl 1 mem S) : zNl 1 m1 S' := by
  obtain ⟨L, f1, f2, f3⟩ := h
  refine ⟨L, fun i hi => ?_, f2, f3⟩
  rw [hS _ (by omega) (by omega)]
  show m1 2 i = _ ∧ _
  rw [hm]; exact f1 i hi
theorem zNp_cg {mem m1 : az_M} {S S' : Nat → Int32} {n : Nat} (hm : m1 4 = mem 4) (hS : ∀ i, 279 ≤ i → i < 295 → S' i = S i) (h : zNp 1 mem S n) : zNp 1 m1 S' n := by
  obtain ⟨c, f⟩ := h
  refine ⟨c, fun p hp => ?_⟩
  have := f p hp
  show m1 4 p = _ ∧ _
  rw [hm]
  exact ⟨this.1, this.2.1, this.2.2.1, fun q => by rw [hS _ (by omega) (by omega)]; exact this.2.2.2.1 q, this.2.2.2.2⟩
theorem zNc_cg {mem m1 : az_M} {S S' : Nat → Int32} {n : Nat} (hm : m1 5 = mem 5) (hS : ∀ i, 295 ≤ i → i < 311 → S' i = S i) (h : zNc 1 mem S n) : zNc 1 m1 S' n := by
  obtain ⟨c, f⟩ := h
  refine ⟨c, fun p hp => ?_⟩
  have := f p hp
  show m1 5 p = _ ∧ _
  rw [hm]
  exact ⟨this.1, this.2.1, fun q => by rw [hS _ (by omega) (by omega)]; exact this.2.2.1 q, this.2.2.2⟩
theorem zNr_cg {mem m1 : az_M} {S S' : Nat → Int32} (hm : m1 3 = mem 3) (hS : ∀ i, 263 ≤ i → i < 279 → S' i = S i) (h : ∀ i, i < 16 → mem (1 + 2) i = S (263 + i)) : ∀ i, i < 16 → m1 (1 + 2) i = S' (263 + i) := fun i hi => by
  rw [hS _ (by omega) (by omega), ← h i hi]
  show m1 3 i = mem 3 i
  rw [hm]
/-- the lengths alone have changed -/
theorem zN_len {mem m1 : az_M} {S S' : Nat → Int32} {N : Nat} (h : zN 1 mem S N) (hm : ∀ k, 1 ≤ k → k ≤ 6 → k ≠ 2 → m1 k = mem k) (hS : ∀ i, (i < 7 ∨ 263 ≤ i) → S' i = S i) (hl : zNl 1 m1 S') : zN 1 m1 S' N := by
  obtain ⟨⟨a1, a2, a3, a4⟩, ⟨b1, b2, b3⟩, ⟨c1, c2, c3, c4⟩, ⟨d1, d2⟩, w, _, r, p, c⟩ := h
  have e1 := hm 1 (by decide) (by decide) (by decide)
  refine ⟨⟨by rw [e1]; exact a1, by rw [hS 0 (by omega)]; exact a2, a3, a4⟩, ⟨by rw [e1, hS 1 (by omega)]; exact b1, by rw [hS 1 (by omega)]; exact b2, by rw [e1, hS 2 (by omega)]; exact b3⟩, ⟨by rw [e1, hS 3 (by omega)]; exact c1, by rw [hS 3 (by omega)]; exact c2, by rw [e1, hS 4 (by omega)]; exact c3, by rw [hS 4 (by omega)]; exact c4⟩, ⟨by rw [e1, hS 5 (by omega)]; exact d1, by rw [hS 5 (by omega)]; exact d2⟩, zNw_cg (by rw [e1]) (hm 6 (by decide) (by decide) (by decide)) (hS 6 (by omega)) (fun i _ _ => hS i (by omega)) w, hl, zNr_cg (hm 3 (by decide) (by decide) (by decide)) (fun i _ _ => hS i (by omega)) r, zNp_cg (hm 4 (by decide) (by decide) (by decide)) (fun i _ _ => hS i (by omega)) p, zNc_cg (hm 5 (by decide) (by decide) (by decide)) (fun i _ _ => hS i (by omega)) c⟩
/-- laying a road in both -/
theorem zl_lay {L : Nat → Nat} {Lc S : Nat → Int32} {A B w : Nat} (hA : A < 16) (hB : B < 16) (hAB : A ≠ B) (hw : w ≤ 1000) (f1 : ∀ i, i < 256 → Lc i = nI (L i) ∧ S (7 + i) = nI (L i) ∧ L i ≤ 1000) (f2 : ∀ a c, a < 16 → c < 16 → L (16 * a + c) = L (16 * c + a)) (f3 : ∀ a, a < 16 → L (16 * a + a) = 0) : ∃ L' : Nat → Nat, (∀ i, i < 256 → upd (upd Lc (16 * A + B) (nI w)) (16 * B + A) (nI w) i = nI (L' i) ∧ upd (upd S (7 + (16 * A + B)) (nI w)) (7 + (16 * B + A)) (nI w) (7 + i) = nI (L' i) ∧ L' i ≤ 1000) ∧ (∀ a c, a < 16 → c < 16 → L' (16 * a + c) = L' (16 * c + a)) ∧ ∀ a, a < 16 → L' (16 * a + a) = 0 := by
  refine ⟨fun i => if i = 16 * A + B ∨ i = 16 * B + A then w else L i, fun i hi => ?_, fun a c ha hc => ?_, fun a ha => ?_⟩
  · have := f1 i hi
    unfold upd
    dsimp only
    by_cases c1 : i = 16 * B + A
    · rw [if_pos c1, if_pos (by omega : 7 + i = 7 + (16 * B + A)), if_pos (Or.inr c1 : i = 16 * A + B ∨ i = 16 * B + A)]; exact ⟨rfl, rfl, hw⟩
    · rw [if_neg c1, if_neg (by omega : ¬ 7 + i = 7 + (16 * B + A))]
      by_cases c2 : i = 16 * A + B
      · rw [if_pos c2, if_pos (by omega : 7 + i = 7 + (16 * A + B)), if_pos (Or.inl c2 : i = 16 * A + B ∨ i = 16 * B + A)]; exact ⟨rfl, rfl, hw⟩
      · rw [if_neg c2, if_neg (by omega : ¬ 7 + i = 7 + (16 * A + B)), if_neg (by omega)]; exact this
  · have : (16 * a + c = 16 * A + B ∨ 16 * a + c = 16 * B + A) ↔ (16 * c + a = 16 * A + B ∨ 16 * c + a = 16 * B + A) := by omega
    simp only [this, f2 a c ha hc]
  · dsimp only
    rw [if_neg (by omega)]; exact f3 a ha
theorem zrd_iff {n0 : Int32} {Lc S : Nat → Int32} {L : Nat → Nat} {N : Nat} {a b v : Int32} (hN : N ≤ 16) (h0 : n0 = nI N) (hS0 : S 0 = nI N) (f1 : ∀ i, i < 256 → Lc i = nI (L i) ∧ S (7 + i) = nI (L i) ∧ L i ≤ 1000) : zc_rd n0 Lc a b v ↔ zm_rd S a b v := by
  unfold zc_rd zm_rd
  rw [h0, hS0]
  have key : (0 ≤ a ∧ a < nI N) → (0 ≤ b ∧ b < nI N) → ((¬ 0 < Lc (16 * a.toNatClampNeg + b.toNatClampNeg)) ↔ zm_len S (16 * a.toNatClampNeg + b.toNatClampNeg) = 0) := by
    intro ha hb
    have h1 := (zi_of (N := N) (by omega) ha).1
    have h2 := (zi_of (N := N) (by omega) hb).1
    obtain ⟨g1, g2, g3⟩ := f1 (16 * a.toNatClampNeg + b.toNatClampNeg) (by omega)
    unfold zm_len
    rw [g1, g2]
    have x1 : (0 : Int32) < nI (L (16 * a.toNatClampNeg + b.toNatClampNeg)) ↔ 0 < L (16 * a.toNatClampNeg + b.toNatClampNeg) := nI_ltI (a := 0) (by decide) (by omega)
    have x2 : nI (L (16 * a.toNatClampNeg + b.toNatClampNeg)) = 0 ↔ L (16 * a.toNatClampNeg + b.toNatClampNeg) = 0 := nI_eq (b := 0) (by omega) (by decide)
    rw [x1, x2]; omega
  constructor
  · rintro ⟨q1, q2, q3, q4, q5, q6⟩; exact ⟨q1, q2, q3, q4, q5, (key q1 q2).mp q6⟩
  · rintro ⟨q1, q2, q3, q4, q5, q6⟩; exact ⟨q1, q2, q3, q4, q5, (key q1 q2).mpr q6⟩
/-- an int within bounds is a number -/
theorem zi_num {v : Int32} {M : Nat} (hM : M < 2 ^ 31) (h0 : 0 ≤ v) (h1 : v ≤ nI M) : ∃ w, v = nI w ∧ w ≤ M := by
  by_cases e : M + 1 < 2 ^ 31
  · have hlt : v < nI (M + 1) := Int32.lt_of_le_of_lt h1 (nI_lt (by omega) e)
    have := zi_of e ⟨h0, hlt⟩
    exact ⟨_, this.2, by omega⟩
  · have : M = 2 ^ 31 - 1 := by omega
    by_cases c : v = nI M
    · exact ⟨M, c, Nat.le_refl _⟩
    · have hlt : v < nI M := fa_le_ne h1 c
      have := zi_of hM ⟨h0, hlt⟩
      exact ⟨_, this.2, by omega⟩
theorem zi_num1 {v : Int32} {M : Nat} (hM : M < 2 ^ 31) (h0 : 1 ≤ v) (h1 : v ≤ nI M) : ∃ w, v = nI w ∧ 1 ≤ w ∧ w ≤ M := by
  obtain ⟨w, e, hw⟩ := zi_num hM (Int32.le_trans (by decide) h0) h1
  refine ⟨w, e, ?_, hw⟩
  rw [e] at h0
  exact (nI_leI (a := 1) (by decide) (by omega)).mp h0
section DA
variable {X : az_X} {d : Nat}
theorem ok_post : z_Ok X d mX7_post mX8_post [] := by
  rintro mem ⟨N, T, C, U, hI⟩
  have hn := hI.1
  have hT := hI.2.1.2.1
  refine s_X7_post (d := d + 25) hn.1.1 hn.1.2.2.2 hI.2.1 (zN_Z hn) (fun e => ⟨_, rfl, ?_⟩) (fun hlt m1 hA h1 h26 => ⟨_, rfl, ?_⟩)
  · exact s_X8_post (d := d + 27) hn.1.2.1 hn.1.2.2.2 hI.2.2.1 (fun _ => ⟨rfl, N, T, C, U, hI⟩) (fun q => absurd q (by omega))
  · obtain ⟨a1, a2, a3, a4⟩ := zc_act_get hT hA
    have e392 : m1 392 = mem 392 := a1 392 (by omega) (by omega)
    have e391 : m1 391 = mem 391 := a1 391 (by omega) (by omega)
    refine s_X8_post (d := d + 27) (by rw [e392]; exact hn.1.2.1) hn.1.2.2.2 (by unfold zm_H; rw [e391]; exact hI.2.2.1) (fun q => absurd q (by omega)) (fun _ m2 hB hS hF => ⟨rfl, N + 1, _, _, U, zI_act hI hA hB hF ?_⟩)
    rw [hS, e392]
    obtain ⟨⟨c1, c2, c3, c4⟩, ⟨b1, b2, b3⟩, ⟨o1, o2, o3, o4⟩, ⟨d1, d2⟩, w, l, r, ⟨p, p1⟩, ⟨c, g1⟩⟩ := hn
    have hne : ∀ i, i ≠ 0 → i ≠ 279 + N → i ≠ 295 + N → upd (upd (upd (mem 392) (279 + N) 1) (295 + N) 1) 0 (nI (N + 1)) i = mem 392 i := fun i x1 x2 x3 => by rw [upd_ne x1, upd_ne x3, upd_ne x2]
    have hne1 : ∀ j, j ≠ 0 → m1 1 j = mem 1 j := fun j hj => by rw [h1, upd_ne hj]
    refine ⟨⟨by rw [h1, upd_eq], by rw [upd_eq], by omega, by omega⟩, ⟨by rw [hne1 1 (by decide), hne 1 (by omega) (by omega) (by omega)]; exact b1, by rw [hne 1 (by omega) (by omega) (by omega)]; exact b2, by rw [hne1 2 (by decide), hne 2 (by omega) (by omega) (by omega)]; exact b3⟩, ⟨by rw [hne1 3 (by decide), hne 3 (by omega) (by omega) (by omega)]; exact o1, by rw [hne 3 (by omega) (by omega) (by omega)]; exact o2, by rw [hne1 4 (by decide), hne 4 (by omega) (by omega) (by omega)]; exact o3, by rw [hne 4 (by omega) (by omega) (by omega)]; exact o4⟩, ⟨by rw [hne1 5 (by decide), hne 5 (by omega) (by omega) (by omega)]; exact d1, by rw [hne 5 (by omega) (by omega) (by omega)]; exact d2⟩, zNw_cg (hne1 6 (by decide)) (h26 6 (by decide) (by decide)) (hne 6 (by omega) (by omega) (by omega)) (fun i _ _ => hne i (by omega) (by omega) (by omega)) w, zNl_cg (h26 2 (by decide) (by decide)) (fun i _ _ => hne i (by omega) (by omega) (by omega)) l, zNr_cg (h26 3 (by decide) (by decide)) (fun i _ _ => hne i (by omega) (by omega) (by omega)) r, ⟨p, fun q hq => ?_⟩, ⟨c, fun q hq => ?_⟩⟩
    · have := p1 q hq
      refine ⟨by rw [show (1 + 3) = 4 from rfl, h26 4 (by decide) (by decide)]; exact this.1, this.2.1, this.2.2.1, fun hqn => ?_, fun hqn => this.2.2.2.2 (by omega)⟩
      by_cases e : q = N
      · subst e
        rw [upd_ne (by omega), upd_ne (by omega), upd_eq, this.2.2.2.2 (Nat.le_refl _)]; rfl
      · rw [hne _ (by omega) (by omega) (by omega)]; exact this.2.2.2.1 (by omega)
    · have := g1 q hq
      refine ⟨by rw [show (1 + 4) = 5 from rfl, h26 5 (by decide) (by decide)]; exact this.1, this.2.1, fun hqn => ?_, fun hqn => this.2.2.2 (by omega)⟩
      by_cases e : q = N
      · subst e
        rw [upd_ne (by omega), upd_eq, this.2.2.2 (Nat.le_refl _)]; rfl
      · rw [hne _ (by omega) (by omega) (by omega)]; exact this.2.2.1 (by omega)
theorem ok_road {a b v : Int32} : z_Ok X d mX7_road mX8_road [.inl a, .inl b, .inl v] := by
  rintro mem ⟨N, T, C, U, hI⟩
  have hn := hI.1
  have hT := hI.2.1.2.1
  obtain ⟨L, f1, f2, f3⟩ := hn.2.2.2.2.2.1
  have hiff : zc_rd (mem 1 0) (mem 2) a b v ↔ zm_rd (mem 392) a b v := zrd_iff hn.1.2.2.2 hn.1.1 hn.1.2.1 f1
  refine s_X7_road (d := d + 25) hn.1.1 hn.1.2.2.2 hI.2.1 (zN_Z hn) (fun e => ⟨_, rfl, ?_⟩) (fun hc m1 hA h2 h16 => ⟨_, rfl, ?_⟩)
  · exact s_X8_road (d := d + 27) hn.1.2.1 hn.1.2.2.2 hI.2.2.1 (fun _ => ⟨rfl, N, T, C, U, hI⟩) (fun q => absurd (hiff.mpr q) e)
  · obtain ⟨a1, a2, a3, a4⟩ := zc_act_get hT hA
    have e392 : m1 392 = mem 392 := a1 392 (by omega) (by omega)
    have e391 : m1 391 = mem 391 := a1 391 (by omega) (by omega)
    refine s_X8_road (d := d + 27) (by rw [e392]; exact hn.1.2.1) hn.1.2.2.2 (by unfold zm_H; rw [e391]; exact hI.2.2.1) (fun q => absurd (by rw [e392]; exact hiff.mp hc) q) (fun _ m2 hB hS hF => ⟨rfl, N, _, _, U, zI_act hI hA hB hF ?_⟩)
    obtain ⟨q1, q2, q3, q4, q5, _⟩ := hc
    rw [hn.1.1] at q1 q2
    obtain ⟨x1, x2⟩ := zi_of (N := N) (by have := hn.1.2.2.2; omega) q1
    obtain ⟨y1, y2⟩ := zi_of (N := N) (by have := hn.1.2.2.2; omega) q2
    obtain ⟨w, ew, hw1, hw⟩ := zi_num1 (M := 1000) (by decide) q4 q5
    have hne : a.toNatClampNeg ≠ b.toNatClampNeg := fun e => q3 (by rw [x2, y2, e])
    have hN := hn.1.2.2.2
    rw [hS, e392]
    refine zN_len hn h16 (fun i hi => by rw [upd_ne (by omega), upd_ne (by omega)]) ?_
    obtain ⟨L', l1, l2, l3⟩ := zl_lay (A := a.toNatClampNeg) (B := b.toNatClampNeg) (w := w) (by omega) (by omega) hne hw f1 f2 f3
    refine ⟨L', fun i hi => ?_, l2, l3⟩
    rw [ew, show (1 + 1) = 2 from rfl, h2, ew]
    exact l1 i hi
theorem ok_cut {a b : Int32} : z_Ok X d mX7_cut mX8_cut [.inl a, .inl b] := by
  rintro mem ⟨N, T, C, U, hI⟩
  have hn := hI.1
  have hT := hI.2.1.2.1
  have hN := hn.1.2.2.2
  obtain ⟨L, f1, f2, f3⟩ := hn.2.2.2.2.2.1
  have hiff : zc_cut (mem 1 0) (mem 2) a b ↔ zm_cut (mem 392) a b := by
    unfold zc_cut zm_cut
    rw [hn.1.1, hn.1.2.1]
    have key : (0 ≤ a ∧ a < nI N) → (0 ≤ b ∧ b < nI N) → ((0 < mem 2 (16 * a.toNatClampNeg + b.toNatClampNeg)) ↔ zm_len (mem 392) (16 * a.toNatClampNeg + b.toNatClampNeg) ≠ 0) := by
      intro ha hb
      have h1 := (zi_of (N := N) (by omega) ha).1
      have h2 := (zi_of (N := N) (by omega) hb).1
      obtain ⟨g1, g2, g3⟩ := f1 (16 * a.toNatClampNeg + b.toNatClampNeg) (by omega)
      unfold zm_len
      have g1' : mem 2 (16 * a.toNatClampNeg + b.toNatClampNeg) = nI (L (16 * a.toNatClampNeg + b.toNatClampNeg)) := g1
      rw [g1', g2]
      have x1 : (0 : Int32) < nI (L (16 * a.toNatClampNeg + b.toNatClampNeg)) ↔ 0 < L (16 * a.toNatClampNeg + b.toNatClampNeg) := nI_ltI (a := 0) (by decide) (by omega)
      have x2 : nI (L (16 * a.toNatClampNeg + b.toNatClampNeg)) = 0 ↔ L (16 * a.toNatClampNeg + b.toNatClampNeg) = 0 := nI_eq (b := 0) (by omega) (by decide)
      rw [x1, ne_eq, x2]; omega
    constructor
    · rintro ⟨q1, q2, q6⟩; exact ⟨q1, q2, (key q1 q2).mp q6⟩
    · rintro ⟨q1, q2, q6⟩; exact ⟨q1, q2, (key q1 q2).mpr q6⟩
  refine s_X7_cut (d := d + 25) hn.1.1 hn.1.2.2.2 hI.2.1 (zN_Z hn) (fun e => ⟨_, rfl, ?_⟩) (fun hc m1 hA h2 h16 => ⟨_, rfl, ?_⟩)
  · exact s_X8_cut (d := d + 27) hn.1.2.1 hn.1.2.2.2 hI.2.2.1 (fun _ => ⟨rfl, N, T, C, U, hI⟩) (fun q => absurd (hiff.mpr q) e)
  · obtain ⟨a1, a2, a3, a4⟩ := zc_act_get hT hA
    have e392 : m1 392 = mem 392 := a1 392 (by omega) (by omega)
    have e391 : m1 391 = mem 391 := a1 391 (by omega) (by omega)
    refine s_X8_cut (d := d + 27) (by rw [e392]; exact hn.1.2.1) hn.1.2.2.2 (by unfold zm_H; rw [e391]; exact hI.2.2.1) (fun q => absurd (by rw [e392]; exact hiff.mp hc) q) (fun _ m2 hB hS hF => ⟨rfl, N, _, _, U, zI_act hI hA hB hF ?_⟩)
    obtain ⟨q1, q2, q6⟩ := hc
    rw [hn.1.1] at q1 q2
    obtain ⟨x1, x2⟩ := zi_of (N := N) (by omega) q1
    obtain ⟨y1, y2⟩ := zi_of (N := N) (by omega) q2
    have hne : a.toNatClampNeg ≠ b.toNatClampNeg := fun e => by
      rw [e] at q6
      have g1 : mem 2 (16 * b.toNatClampNeg + b.toNatClampNeg) = nI (L (16 * b.toNatClampNeg + b.toNatClampNeg)) := (f1 (16 * b.toNatClampNeg + b.toNatClampNeg) (by omega)).1
      rw [g1, f3 _ (by omega)] at q6
      exact absurd q6 (by decide)
    rw [hS, e392]
    refine zN_len hn h16 (fun i hi => by rw [upd_ne (by omega), upd_ne (by omega)]) ?_
    obtain ⟨L', l1, l2, l3⟩ := zl_lay (A := a.toNatClampNeg) (B := b.toNatClampNeg) (w := 0) (by omega) (by omega) hne (by omega) f1 f2 f3
    refine ⟨L', fun i hi => ?_, l2, l3⟩
    rw [show (1 + 1) = 2 from rfl, h2]
    exact l1 i hi
end DA

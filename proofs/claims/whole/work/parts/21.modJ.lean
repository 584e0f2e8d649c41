/-! the model's asking: fillOne, fill, worst, next, mean -/
def zn_sub (a b : Nat) : Prop := ∀ i, a.testBit i = true → b.testBit i = true
theorem zn_sub_le {a b : Nat} (h : zn_sub a b) : a ≤ b := by
  have : a &&& b = a := by
    apply Nat.eq_of_testBit_eq
    intro i
    rw [Nat.testBit_and]
    cases ha : a.testBit i with
    | false => rfl
    | true => rw [h i ha]; rfl
  rw [← this]; exact Nat.and_le_right
theorem zn_sub_trans {a b c : Nat} (h : zn_sub a b) (h2 : zn_sub b c) : zn_sub a c := fun i hi => h2 i (h i hi)
theorem zb_sub {s x : Nat} (hs : s < 2 ^ 31) (hx : x < 2 ^ 31) : (nI s &&& (nI x ^^^ (-1))) = 0 ↔ zn_sub s x := by
  have key : ∀ i, i < 32 → (nI s &&& (nI x ^^^ (-1))).toBitVec.getLsbD i = (s.testBit i && !x.testBit i) := by
    intro i hi
    have h1 : (nI s &&& (nI x ^^^ (-1))).toBitVec = (nI s).toBitVec &&& ((nI x).toBitVec ^^^ (-1 : Int32).toBitVec) := rfl
    have h2 : (-1 : Int32).toBitVec = BitVec.allOnes 32 := by decide
    have h3 : ∀ n, (nI n).toBitVec = BitVec.ofNat 32 n := fun n => rfl
    rw [h1, h2, h3, h3, BitVec.getLsbD_and, BitVec.getLsbD_xor, BitVec.getLsbD_allOnes, BitVec.getLsbD_ofNat, BitVec.getLsbD_ofNat]
    simp [hi]
  constructor
  · intro h i hi
    have hi32 : i < 32 := by
      rcases Nat.lt_or_ge i 31 with q | q
      · omega
      · rw [zn_high hs q] at hi; cases hi
    have k := key i hi32
    rw [h] at k
    have h0 : ((0 : Int32).toBitVec).getLsbD i = false := by
      have : (0 : Int32).toBitVec = 0#32 := rfl
      rw [this]; simp
    rw [h0, hi] at k
    simpa using k.symm
  · intro h
    apply Int32.toBitVec_inj.mp
    apply BitVec.eq_of_getLsbD_eq
    intro i hi
    rw [key i hi]
    have h0 : ((0 : Int32).toBitVec).getLsbD i = false := by
      have : (0 : Int32).toBitVec = 0#32 := rfl
      rw [this]; simp
    rw [h0]
    cases hsb : s.testBit i with
    | false => rfl
    | true => rw [h i hsb]; rfl
/-- what stays of s by m's answer for p -/
def zo_pt (an : Nat → Int32) (N s m p : Nat) : Nat := zn_mask (zs_f an s m p) N
theorem zo_pt_sub {an : Nat → Int32} {N s m p : Nat} : zn_sub (zo_pt an N s m p) s := by
  intro i hi
  unfold zo_pt at hi
  rw [zn_bit] at hi
  simp only [zs_f, Bool.and_eq_true] at hi
  exact hi.2.1
def zo_in (an W M : Nat → Int32) (N s m : Nat) : Nat → Nat → Int32 → Int32 → Nat → Bool → Int32 × Int32 × Bool
  | 0, _, w, v, _, al => (w, v, al)
  | n + 1, p, w, v, g, al => if s.testBit p = false ∨ g.testBit p = true then zo_in an W M N s m n (p + 1) w v g al
    else if (al || decide (zo_pt an N s m p = s)) = true then zo_in an W M N s m n (p + 1) w v (g ||| zo_pt an N s m p) true
    else zo_in an W M N s m n (p + 1) (if W (zo_pt an N s m p) ≤ w then w else W (zo_pt an N s m p)) (v + M (zo_pt an N s m p)) (g ||| zo_pt an N s m p) false
def zo_m (an W M : Nat → Int32) (N s : Nat) (wt : Int32) : Nat → Nat → Int32 × Int32 × Int32 → Int32 × Int32 × Int32
  | 0, _, c => c
  | n + 1, m, c => zo_m an W M N s wt n (m + 1) (if (zo_in an W M N s m N 0 0 wt 0 false).2.2 = true then c else
      (if (zo_in an W M N s m N 0 0 wt 0 false).1 + 1 < c.1 then (zo_in an W M N s m N 0 0 wt 0 false).1 + 1 else c.1,
       if (zo_in an W M N s m N 0 0 wt 0 false).2.1 < c.2.1 then (zo_in an W M N s m N 0 0 wt 0 false).2.1 else c.2.1,
       if (zo_in an W M N s m N 0 0 wt 0 false).1 + 1 < c.1 then nI m else c.2.2))
def zo_wt (S : Nat → Int32) (N s : Nat) : Int32 := zm_sum (fun p => if s.testBit p then S (295 + p) else 0) N
def zo_FO (S an : Nat → Int32) (N : Nat) (W M : Nat → Int32) (s : Nat) : Int32 × Int32 × Int32 := if zd_done an N s = true then (0, 0, -1) else zo_m an W M N s (zo_wt S N s) N 0 (1000000, 2147483647, -1)
theorem zo_in_congr {an W M W' M' : Nat → Int32} {N s m : Nat} (h : ∀ t, zn_sub t s → t ≠ s → W t = W' t ∧ M t = M' t) : ∀ (n p : Nat) (w v : Int32) (g : Nat) (al : Bool), zo_in an W M N s m n p w v g al = zo_in an W' M' N s m n p w v g al
  | 0, _, _, _, _, _ => rfl
  | n + 1, p, w, v, g, al => by
    rw [zo_in, zo_in, zo_in_congr h n, zo_in_congr h n, zo_in_congr h n]
    split
    · rfl
    · split
      · rfl
      · next hc =>
        have hne : zo_pt an N s m p ≠ s := by
          intro he; apply hc; rw [he]; simp
        rw [(h _ zo_pt_sub hne).1, (h _ zo_pt_sub hne).2]
theorem zo_m_congr {an W M W' M' : Nat → Int32} {N s : Nat} {wt : Int32} (h : ∀ t, zn_sub t s → t ≠ s → W t = W' t ∧ M t = M' t) : ∀ (n m : Nat) (c : Int32 × Int32 × Int32), zo_m an W M N s wt n m c = zo_m an W' M' N s wt n m c
  | 0, _, _ => rfl
  | n + 1, m, c => by rw [zo_m, zo_m, zo_m_congr h n, zo_in_congr h]
theorem zo_FO_congr {S an W M W' M' : Nat → Int32} {N s : Nat} (h : ∀ t, zn_sub t s → t ≠ s → W t = W' t ∧ M t = M' t) : zo_FO S an N W M s = zo_FO S an N W' M' s := by
  unfold zo_FO; rw [zo_m_congr h]
section MJ
variable {X : az_X} {d : Nat} {mem : az_M} {Q : Option az_V → az_M → Prop} {N : Nat}
theorem x_fo_p {s m : Nat} {wt : Int32} {W M : Nat → Int32} {L2 : Option az_V} (hn : mem 392 0 = nI N) (hN : N ≤ 16) (hs : s < 2 ^ N) (hm : m < N) (hW : ∀ t, zn_sub t s → t ≠ s → mem 400 t = W t ∧ mem 401 t = M t)
    (K : ∀ L6 L8 L9, az_Ev X (d + 5) mX8_fillOne 234 [some (.inr 391), some (.inl (nI s)), L2, some (.inl (nI m)), some (.inl (zo_in (mem 396) W M N s m N 0 0 wt 0 false).1), some (.inl (zo_in (mem 396) W M N s m N 0 0 wt 0 false).2.1), L6, some (.inl (if (zo_in (mem 396) W M N s m N 0 0 wt 0 false).2.2 then 1 else 0)), L8, L9] [] mem Q) (L9 : Option az_V) : az_Ev X (d + 5) mX8_fillOne 115 [some (.inr 391), some (.inl (nI s)), L2, some (.inl (nI m)), some (.inl 0), some (.inl wt), some (.inl 0), some (.inl 0), some (.inl 0), L9] [] mem Q := by
  have hp := zi_pow hN
  generalize hR : zo_in (mem 396) W M N s m N 0 0 wt 0 false = R at K
  refine az_up (fun p => ∀ (w v : Int32) (g : Nat) (al : Bool) L9, g < 2 ^ N → zo_in (mem 396) W M N s m (N - p) p w v g al = R → az_Ev X (d + 5) mX8_fillOne 115 [some (.inr 391), some (.inl (nI s)), L2, some (.inl (nI m)), some (.inl w), some (.inl v), some (.inl (nI g)), some (.inl (if al then 1 else 0)), some (.inl (nI p)), L9] [] mem Q) N 0 (by omega) (fun p _ hpN ih w v g al L9 hg h => ?_) (fun w v g al L9 hg h => ?_) 0 wt 0 false L9 (Nat.two_pow_pos N) hR
  · have hpt : zo_pt (mem 396) N s m p < 2 ^ N := zn_lt _ N
    have hg' : g ||| zo_pt (mem 396) N s m p < 2 ^ N := Nat.or_lt_two_pow hg hpt
    rw [zs_sub hpN, zo_in] at h
    have hall : ∀ (al' : Bool), al' = (al || decide (zo_pt (mem 396) N s m p = s)) → ¬ (s.testBit p = false ∨ g.testBit p = true) → az_Ev X (d + 5) mX8_fillOne 173 [some (.inr 391), some (.inl (nI s)), L2, some (.inl (nI m)), some (.inl w), some (.inl v), some (.inl (nI g)), some (.inl (if al then 1 else 0)), some (.inl (nI p)), some (.inl (nI (zo_pt (mem 396) N s m p)))] [.inl (if al' then 1 else 0)] mem Q := by
      intro al' hal hc
      rw [if_neg hc, ← hal] at h
      cases al' with
      | true =>
        rw [if_pos rfl] at h
        refine az_istore dX8_fillOne_173 (by decide) ?_
        dsimp only [List.set]
        refine az_iload dX8_fillOne_175 rfl ?_
        refine az_iload dX8_fillOne_177 rfl ?_
        refine az_ior dX8_fillOne_179 ?_
        refine az_istore dX8_fillOne_180 (by decide) ?_
        dsimp only [List.set]
        refine az_iload dX8_fillOne_182 rfl ?_
        refine az_ifeq (t := 190) dX8_fillOne_184 (by decide) (fun h184 => ?_) (fun h184 => ?_)
        · exact absurd h184 (by decide)
        refine az_goto (t := 228) dX8_fillOne_187 (by decide) ?_
        refine az_iinc (w := 1) dX8_fillOne_228 rfl (by decide) (by decide) ?_
        dsimp only [List.set]
        refine az_goto (t := 115) dX8_fillOne_231 (by decide) ?_
        rw [nI_1, fa_or]; exact ih _ _ _ true _ hg' h
      | false =>
        have hne : zo_pt (mem 396) N s m p ≠ s := by
          intro he; rw [he] at hal; simp at hal
        obtain ⟨eW, eM⟩ := hW _ zo_pt_sub hne
        rw [if_neg (by decide)] at h
        refine az_istore dX8_fillOne_173 (by decide) ?_
        dsimp only [List.set]
        refine az_iload dX8_fillOne_175 rfl ?_
        refine az_iload dX8_fillOne_177 rfl ?_
        refine az_ior dX8_fillOne_179 ?_
        refine az_istore dX8_fillOne_180 (by decide) ?_
        dsimp only [List.set]
        refine az_iload dX8_fillOne_182 rfl ?_
        refine az_ifeq (t := 190) dX8_fillOne_184 (by decide) (fun h184 => ?_) (fun h184 => ?_)
        rotate_left 1
        · exact absurd rfl h184
        refine az_aloadn dX8_fillOne_190 rfl ?_
        refine az_getr dX8_fillOne_191 flX8_36 sh_391 rfl ?_
        refine az_iload dX8_fillOne_194 rfl ?_
        refine az_iald (zo_pt (mem 396) N s m p) dX8_fillOne_196 sh_400 (by omega) (by decide) (by simp only [az_lit, nI_add, pk_mul, Nat.add_assoc]) ?_
        refine az_iload dX8_fillOne_197 rfl ?_
        refine az_icmple (t := 212) dX8_fillOne_199 (by decide) (fun h199 => ?_) (fun h199 => ?_)
        · rw [eW] at h199; rw [if_pos h199] at h
          refine az_iload dX8_fillOne_212 rfl ?_
          refine az_istore dX8_fillOne_214 (by decide) ?_
          dsimp only [List.set]
          refine az_iload dX8_fillOne_216 rfl ?_
          refine az_aloadn dX8_fillOne_218 rfl ?_
          refine az_getr dX8_fillOne_219 flX8_39 sh_391 rfl ?_
          refine az_iload dX8_fillOne_222 rfl ?_
          refine az_iald (zo_pt (mem 396) N s m p) dX8_fillOne_224 sh_401 (by omega) (by decide) (by simp only [az_lit, nI_add, pk_mul, Nat.add_assoc]) ?_
          refine az_iadd dX8_fillOne_225 ?_
          refine az_istore dX8_fillOne_226 (by decide) ?_
          dsimp only [List.set]
          refine az_iinc (w := 1) dX8_fillOne_228 rfl (by decide) (by decide) ?_
          dsimp only [List.set]
          refine az_goto (t := 115) dX8_fillOne_231 (by decide) ?_
          rw [nI_1, fa_or]
          first
          | (rw [eW, eM]; exact ih _ _ _ false _ hg' h)
          | (rw [eM]; exact ih _ _ _ false _ hg' h)
        · rw [eW] at h199; rw [if_neg h199] at h
          refine az_aloadn dX8_fillOne_202 rfl ?_
          refine az_getr dX8_fillOne_203 flX8_36 sh_391 rfl ?_
          refine az_iload dX8_fillOne_206 rfl ?_
          refine az_iald (zo_pt (mem 396) N s m p) dX8_fillOne_208 sh_400 (by omega) (by decide) (by simp only [az_lit, nI_add, pk_mul, Nat.add_assoc]) ?_
          refine az_goto (t := 214) dX8_fillOne_209 (by decide) ?_
          refine az_istore dX8_fillOne_214 (by decide) ?_
          dsimp only [List.set]
          refine az_iload dX8_fillOne_216 rfl ?_
          refine az_aloadn dX8_fillOne_218 rfl ?_
          refine az_getr dX8_fillOne_219 flX8_39 sh_391 rfl ?_
          refine az_iload dX8_fillOne_222 rfl ?_
          refine az_iald (zo_pt (mem 396) N s m p) dX8_fillOne_224 sh_401 (by omega) (by decide) (by simp only [az_lit, nI_add, pk_mul, Nat.add_assoc]) ?_
          refine az_iadd dX8_fillOne_225 ?_
          refine az_istore dX8_fillOne_226 (by decide) ?_
          dsimp only [List.set]
          refine az_iinc (w := 1) dX8_fillOne_228 rfl (by decide) (by decide) ?_
          dsimp only [List.set]
          refine az_goto (t := 115) dX8_fillOne_231 (by decide) ?_
          rw [nI_1, fa_or]
          first
          | (rw [eW, eM]; exact ih _ _ _ false _ hg' h)
          | (rw [eM]; exact ih _ _ _ false _ hg' h)
    refine az_iload dX8_fillOne_115 rfl ?_
    refine az_aloadn dX8_fillOne_117 rfl ?_
    refine az_inv0 (N := mX8_n) dX8_fillOne_118 lkX8_62 okX8_n sh_391 rfl (Nat.le_of_ble_eq_true rfl) ?_
    refine t_X8_n hn ?_
    try dsimp only [az_ps]
    refine az_icmpge (t := 234) dX8_fillOne_121 (by decide) (fun h121 => ?_) (fun h121 => ?_)
    · exact absurd h121 (nI_ge (by omega) (by omega))
    refine az_iloadn dX8_fillOne_124 rfl ?_
    refine az_iload dX8_fillOne_125 rfl ?_
    refine az_ishr dX8_fillOne_127 ?_
    refine az_iconst (v := 1) dX8_fillOne_128 (by decide) ?_
    refine az_iand dX8_fillOne_129 ?_
    refine az_ifeq (t := 228) dX8_fillOne_130 (by decide) (fun h130 => ?_) (fun h130 => ?_)
    · rw [zb_bit0 (by omega) (by omega)] at h130
      rw [if_pos (Or.inl h130)] at h
      refine az_iinc (w := 1) dX8_fillOne_228 rfl (by decide) (by decide) ?_
      dsimp only [List.set]
      refine az_goto (t := 115) dX8_fillOne_231 (by decide) ?_
      rw [nI_1]; exact ih _ _ _ _ _ hg h
    · rw [zb_bit0 (by omega) (by omega)] at h130
      refine az_iload dX8_fillOne_133 rfl ?_
      refine az_iload dX8_fillOne_135 rfl ?_
      refine az_ishr dX8_fillOne_137 ?_
      refine az_iconst (v := 1) dX8_fillOne_138 (by decide) ?_
      refine az_iand dX8_fillOne_139 ?_
      refine az_iconst (v := 1) dX8_fillOne_140 (by decide) ?_
      refine az_icmpne (t := 147) dX8_fillOne_141 (by decide) (fun h141 => ?_) (fun h141 => ?_)
      · rw [zb_bit1 (by omega) (by omega)] at h141
        have hc : ¬ (s.testBit p = false ∨ g.testBit p = true) := fun q => q.elim h130 h141
        refine az_aloadn dX8_fillOne_147 rfl ?_
        refine az_iloadn dX8_fillOne_148 rfl ?_
        refine az_iloadn dX8_fillOne_149 rfl ?_
        refine az_iload dX8_fillOne_150 rfl ?_
        refine az_inv3 (N := mX8_staying) dX8_fillOne_152 lkX8_162 okX8_staying sh_391 rfl (Nat.le_of_ble_eq_true rfl) ?_
        refine s_X8_staying hn hN (by omega) (by omega) (by omega) ?_
        rw [zm_mask_n _ N (by omega)]
        have ept : zn_mask (zs_f (mem 396) s m p) N = zo_pt (mem 396) N s m p := rfl
        rw [ept]
        try dsimp only [az_ps]
        refine az_istore dX8_fillOne_155 (by decide) ?_
        dsimp only [List.set]
        refine az_iload dX8_fillOne_157 rfl ?_
        refine az_ifne (t := 168) dX8_fillOne_159 (by decide) (fun h159 => ?_) (fun h159 => ?_)
        · have hal1 : al = true := by cases al; exact absurd rfl h159; rfl
          refine az_iconst (v := 1) dX8_fillOne_168 (by decide) ?_
          refine az_goto (t := 173) dX8_fillOne_169 (by decide) ?_
          first
          | exact hall true (by rw [hal1]; rfl) hc
          | exact hall true (by rw [heq]; simp) hc
          | exact hall false (by rw [hal0]; simp [hne]) hc
        · have hal0 : al = false := by cases al; rfl; exact absurd h159 (by decide)
          refine az_iload dX8_fillOne_162 rfl ?_
          refine az_iloadn dX8_fillOne_164 rfl ?_
          refine az_icmpne (t := 172) dX8_fillOne_165 (by decide) (fun h165 => ?_) (fun h165 => ?_)
          · have hne : ¬ zo_pt (mem 396) N s m p = s := fun q => h165 (by rw [q])
            refine az_iconst (v := 0) dX8_fillOne_172 (by decide) ?_
            first
            | exact hall true (by rw [hal1]; rfl) hc
            | exact hall true (by rw [heq]; simp) hc
            | exact hall false (by rw [hal0]; simp [hne]) hc
          · have heq : zo_pt (mem 396) N s m p = s := (nI_eq (by omega) (by omega)).mp h165
            refine az_iconst (v := 1) dX8_fillOne_168 (by decide) ?_
            refine az_goto (t := 173) dX8_fillOne_169 (by decide) ?_
            first
            | exact hall true (by rw [hal1]; rfl) hc
            | exact hall true (by rw [heq]; simp) hc
            | exact hall false (by rw [hal0]; simp [hne]) hc
      · rw [zb_bit1 (by omega) (by omega)] at h141
        rw [if_pos (Or.inr h141)] at h
        refine az_goto (t := 228) dX8_fillOne_144 (by decide) ?_
        refine az_iinc (w := 1) dX8_fillOne_228 rfl (by decide) (by decide) ?_
        dsimp only [List.set]
        refine az_goto (t := 115) dX8_fillOne_231 (by decide) ?_
        rw [nI_1]; exact ih _ _ _ _ _ hg h
  · rw [Nat.sub_self, zo_in] at h
    subst h
    refine az_iload dX8_fillOne_115 rfl ?_
    refine az_aloadn dX8_fillOne_117 rfl ?_
    refine az_inv0 (N := mX8_n) dX8_fillOne_118 lkX8_62 okX8_n sh_391 rfl (Nat.le_of_ble_eq_true rfl) ?_
    refine t_X8_n hn ?_
    try dsimp only [az_ps]
    refine az_icmpge (t := 234) dX8_fillOne_121 (by decide) (fun h121 => ?_) (fun h121 => ?_)
    rotate_left 1
    · exact absurd (Int32.le_refl _) h121
    exact K _ _ _
theorem s_X8_fillOne {s : Nat} (hn : mem 392 0 = nI N) (hN : N ≤ 16) (hs : s < 2 ^ N) (hQ : ∀ m', (∀ k, k ≠ 400 → k ≠ 401 → k ≠ 402 → m' k = mem k) → (∀ i, m' 400 i = if i = s then (zo_FO (mem 392) (mem 396) N (mem 400) (mem 401) s).1 else mem 400 i) → (∀ i, m' 401 i = if i = s then (zo_FO (mem 392) (mem 396) N (mem 400) (mem 401) s).2.1 else mem 401 i) → (∀ i, m' 402 i = if i = s then (zo_FO (mem 392) (mem 396) N (mem 400) (mem 401) s).2.2 else mem 402 i) → Q none m') : az_Sp X (d + 5) mX8_fillOne [.inr 391, .inl (nI s)] mem Q := by
  have hp := zi_pow hN
  unfold zo_FO at hQ
  refine az_body (by decide +kernel) (Nat.le_of_ble_eq_true rfl) ?_
  show az_Ev X _ mX8_fillOne 0 [some (.inr 391), some (.inl (nI s)), none, none, none, none, none, none, none, none] [] mem Q
  refine az_aloadn dX8_fillOne_0 rfl ?_
  refine az_getr dX8_fillOne_1 flX8_36 sh_391 rfl ?_
  refine az_iloadn dX8_fillOne_4 rfl ?_
  refine az_iconst (v := 0) dX8_fillOne_5 (by decide) ?_
  refine az_iast (s) dX8_fillOne_6 sh_400 (by omega) (by decide) (by simp only [az_lit, nI_add, pk_mul, Nat.add_assoc]) ?_
  refine az_aloadn dX8_fillOne_7 rfl ?_
  refine az_getr dX8_fillOne_8 flX8_39 sh_391 rfl ?_
  refine az_iloadn dX8_fillOne_11 rfl ?_
  refine az_iconst (v := 0) dX8_fillOne_12 (by decide) ?_
  refine az_iast (s) dX8_fillOne_13 sh_401 (by omega) (by decide) (by simp only [az_lit, nI_add, pk_mul, Nat.add_assoc]) ?_
  refine az_aloadn dX8_fillOne_14 rfl ?_
  refine az_getr dX8_fillOne_15 flX8_42 sh_391 rfl ?_
  refine az_iloadn dX8_fillOne_18 rfl ?_
  refine az_iconst (v := -1) dX8_fillOne_19 (by decide) ?_
  refine az_iast (s) dX8_fillOne_20 sh_402 (by omega) (by decide) (by simp only [az_lit, nI_add, pk_mul, Nat.add_assoc]) ?_
  refine az_aloadn dX8_fillOne_21 rfl ?_
  refine az_iloadn dX8_fillOne_22 rfl ?_
  refine az_inv1 (N := mX8_isDone) dX8_fillOne_23 lkX8_158 okX8_isDone sh_391 rfl (Nat.le_of_ble_eq_true rfl) ?_
  refine s_X8_isDone (N := N) (s := s) (by rw [az_w_ne _ (by decide), az_w_ne _ (by decide), az_w_ne _ (by decide)]; exact hn) hN (by omega) ?_
  rw [az_w_ne _ (by decide), az_w_ne _ (by decide), az_w_ne _ (by decide)]
  try dsimp only [az_ps]
  refine az_ifeq (t := 30) dX8_fillOne_26 (by decide) (fun h26 => ?_) (fun h26 => ?_)
  rotate_left 1
  · replace h26 := zb_n h26
    rw [if_pos h26] at hQ
    refine az_vret dX8_fillOne_29 rfl ?_
    refine hQ _ (fun k k1 k2 k3 => by rw [az_w_ne _ k3, az_w_ne _ k2, az_w_ne _ k1]) (fun i => ?_) (fun i => ?_) (fun i => ?_)
    · rw [az_w_ne _ (by decide), az_w_ne _ (by decide), az_w_same, zm_upd_eq]
    · rw [az_w_ne _ (by decide), az_w_same, zm_upd_eq, az_w_ne _ (by decide)]
    · rw [az_w_same, zm_upd_eq, az_w_ne _ (by decide), az_w_ne _ (by decide)]
  replace h26 := zb_z h26
  refine az_aloadn dX8_fillOne_30 rfl ?_
  refine az_getr dX8_fillOne_31 flX8_36 sh_391 rfl ?_
  refine az_iloadn dX8_fillOne_34 rfl ?_
  refine az_ldc dX8_fillOne_35 kcX8_74 ?_
  refine az_iast (s) dX8_fillOne_37 sh_400 (by omega) (by decide) (by simp only [az_lit, nI_add, pk_mul, Nat.add_assoc]) ?_
  refine az_aloadn dX8_fillOne_38 rfl ?_
  refine az_getr dX8_fillOne_39 flX8_39 sh_391 rfl ?_
  refine az_iloadn dX8_fillOne_42 rfl ?_
  refine az_ldc dX8_fillOne_43 kcX8_161 ?_
  refine az_iast (s) dX8_fillOne_45 sh_401 (by omega) (by decide) (by simp only [az_lit, nI_add, pk_mul, Nat.add_assoc]) ?_
  refine az_iconst (v := 0) dX8_fillOne_46 (by decide) ?_
  refine az_istoren dX8_fillOne_47 (by decide) ?_
  dsimp only [List.set]
  refine az_iconst (v := 0) dX8_fillOne_48 (by decide) ?_
  refine az_istoren dX8_fillOne_49 (by decide) ?_
  dsimp only [List.set]
  skip
  rw [if_neg h26] at hQ
  generalize hm0 : az_w (az_w (az_w (az_w (az_w mem 400 s 0) 401 s 0) 402 s (-1)) 400 s 1000000) 401 s 2147483647 = m0
  have f0 : ∀ k, k ≠ 400 → k ≠ 401 → k ≠ 402 → m0 k = mem k := fun k k1 k2 k3 => by rw [← hm0, az_w_ne _ k2, az_w_ne _ k1, az_w_ne _ k3, az_w_ne _ k2, az_w_ne _ k1]
  have g0 : ∀ i, m0 400 i = if i = s then 1000000 else mem 400 i := fun i => by
    rw [← hm0]; simp only [az_w_eq]; by_cases hi : i = s <;> simp [hi]
  have g1 : ∀ i, m0 401 i = if i = s then 2147483647 else mem 401 i := fun i => by
    rw [← hm0]; simp only [az_w_eq]; by_cases hi : i = s <;> simp [hi]
  have g2 : ∀ i, m0 402 i = if i = s then -1 else mem 402 i := fun i => by
    rw [← hm0]; simp only [az_w_eq]; by_cases hi : i = s <;> simp [hi]
  clear hm0
  have hn0 : m0 392 0 = nI N := by rw [f0 392 (by decide) (by decide) (by decide)]; exact hn
  refine az_up (fun i => az_Ev X (d + 5) mX8_fillOne 50 [some (.inr 391), some (.inl (nI s)), some (.inl (zo_wt (mem 392) i s)), some (.inl (nI i)), none, none, none, none, none, none] [] m0 Q) N 0 (by omega) (fun i _ hi ih => ?_) ?_
  · unfold zo_wt at ih ⊢
    rw [zm_sum] at ih
    refine az_iloadn dX8_fillOne_50 rfl ?_
    refine az_aloadn dX8_fillOne_51 rfl ?_
    refine az_inv0 (N := mX8_n) dX8_fillOne_52 lkX8_62 okX8_n sh_391 rfl (Nat.le_of_ble_eq_true rfl) ?_
    refine t_X8_n hn0 ?_
    try dsimp only [az_ps]
    refine az_icmpge (t := 90) dX8_fillOne_55 (by decide) (fun h55 => ?_) (fun h55 => ?_)
    · exact absurd h55 (nI_ge (by omega) (by omega))
    refine az_iloadn dX8_fillOne_58 rfl ?_
    refine az_iloadn dX8_fillOne_59 rfl ?_
    refine az_iloadn dX8_fillOne_60 rfl ?_
    refine az_ishr dX8_fillOne_61 ?_
    refine az_iconst (v := 1) dX8_fillOne_62 (by decide) ?_
    refine az_iand dX8_fillOne_63 ?_
    refine az_iconst (v := 1) dX8_fillOne_64 (by decide) ?_
    refine az_icmpne (t := 81) dX8_fillOne_65 (by decide) (fun h65 => ?_) (fun h65 => ?_)
    · rw [zb_bit1 (by omega) (by omega)] at h65
      rw [if_neg h65] at ih
      refine az_iconst (v := 0) dX8_fillOne_81 (by decide) ?_
      refine az_iadd dX8_fillOne_82 ?_
      refine az_istoren dX8_fillOne_83 (by decide) ?_
      dsimp only [List.set]
      refine az_iinc (w := 1) dX8_fillOne_84 rfl (by decide) (by decide) ?_
      dsimp only [List.set]
      refine az_goto (t := 50) dX8_fillOne_87 (by decide) ?_
      rw [nI_1]; exact ih
    · rw [zb_bit1 (by omega) (by omega)] at h65
      rw [if_pos h65] at ih
      refine az_aloadn dX8_fillOne_68 rfl ?_
      refine az_getr dX8_fillOne_69 flX8_7 sh_391 rfl ?_
      refine az_sipush (v := 295) dX8_fillOne_72 (by decide) ?_
      refine az_iloadn dX8_fillOne_75 rfl ?_
      refine az_iadd dX8_fillOne_76 ?_
      refine az_iald (295 + i) dX8_fillOne_77 sh_392 (by omega) (by decide) (by simp only [az_lit, nI_add, pk_mul, Nat.add_assoc]) ?_
      rw [f0 392 (by decide) (by decide) (by decide)]
      refine az_goto (t := 82) dX8_fillOne_78 (by decide) ?_
      refine az_iadd dX8_fillOne_82 ?_
      refine az_istoren dX8_fillOne_83 (by decide) ?_
      dsimp only [List.set]
      refine az_iinc (w := 1) dX8_fillOne_84 rfl (by decide) (by decide) ?_
      dsimp only [List.set]
      refine az_goto (t := 50) dX8_fillOne_87 (by decide) ?_
      rw [nI_1]; exact ih
  refine az_iloadn dX8_fillOne_50 rfl ?_
  refine az_aloadn dX8_fillOne_51 rfl ?_
  refine az_inv0 (N := mX8_n) dX8_fillOne_52 lkX8_62 okX8_n sh_391 rfl (Nat.le_of_ble_eq_true rfl) ?_
  refine t_X8_n hn0 ?_
  try dsimp only [az_ps]
  refine az_icmpge (t := 90) dX8_fillOne_55 (by decide) (fun h55 => ?_) (fun h55 => ?_)
  rotate_left 1
  · exact absurd (Int32.le_refl _) h55
  refine az_iconst (v := 0) dX8_fillOne_90 (by decide) ?_
  refine az_istoren dX8_fillOne_91 (by decide) ?_
  dsimp only [List.set]
  skip
  generalize hwt : zo_wt (mem 392) N s = wt at hQ ⊢
  generalize hR : zo_m (mem 396) (mem 400) (mem 401) N s wt N 0 (1000000, 2147483647, -1) = R at hQ
  refine az_up (fun m => ∀ (c : Int32 × Int32 × Int32) (m' : az_M) L4 L5 L6 L7 L8 L9, zo_m (mem 396) (mem 400) (mem 401) N s wt (N - m) m c = R → (∀ k, k ≠ 400 → k ≠ 401 → k ≠ 402 → m' k = mem k) → (∀ i, m' 400 i = if i = s then c.1 else mem 400 i) → (∀ i, m' 401 i = if i = s then c.2.1 else mem 401 i) → (∀ i, m' 402 i = if i = s then c.2.2 else mem 402 i) → az_Ev X (d + 5) mX8_fillOne 92 [some (.inr 391), some (.inl (nI s)), some (.inl wt), some (.inl (nI m)), L4, L5, L6, L7, L8, L9] [] m' Q) N 0 (by omega) (fun m _ hm ih c m' L4 L5 L6 L7 L8 L9 h f1 k0 k1 k2 => ?_) (fun c m' L4 L5 L6 L7 L8 L9 h f1 k0 k1 k2 => ?_) (1000000, 2147483647, -1) m0 none none none none none none hR f0 g0 g1 g2
  · have hn1 : m' 392 0 = nI N := by rw [f1 392 (by decide) (by decide) (by decide)]; exact hn
    have e6 : m' 396 = mem 396 := f1 396 (by decide) (by decide) (by decide)
    rw [zs_sub hm, zo_m] at h
    refine az_iloadn dX8_fillOne_92 rfl ?_
    refine az_aloadn dX8_fillOne_93 rfl ?_
    refine az_inv0 (N := mX8_n) dX8_fillOne_94 lkX8_62 okX8_n sh_391 rfl (Nat.le_of_ble_eq_true rfl) ?_
    refine t_X8_n hn1 ?_
    try dsimp only [az_ps]
    refine az_icmpge (t := 306) dX8_fillOne_97 (by decide) (fun h97 => ?_) (fun h97 => ?_)
    · exact absurd h97 (nI_ge (by omega) (by omega))
    refine az_iconst (v := 0) dX8_fillOne_100 (by decide) ?_
    refine az_istore dX8_fillOne_101 (by decide) ?_
    dsimp only [List.set]
    refine az_iloadn dX8_fillOne_103 rfl ?_
    refine az_istore dX8_fillOne_104 (by decide) ?_
    dsimp only [List.set]
    refine az_iconst (v := 0) dX8_fillOne_106 (by decide) ?_
    refine az_istore dX8_fillOne_107 (by decide) ?_
    dsimp only [List.set]
    refine az_iconst (v := 0) dX8_fillOne_109 (by decide) ?_
    refine az_istore dX8_fillOne_110 (by decide) ?_
    dsimp only [List.set]
    refine az_iconst (v := 0) dX8_fillOne_112 (by decide) ?_
    refine az_istore dX8_fillOne_113 (by decide) ?_
    dsimp only [List.set]
    skip
    refine x_fo_p (W := mem 400) (M := mem 401) hn1 hN hs hm (fun t _ ht => ⟨by rw [k0, if_neg ht], by rw [k1, if_neg ht]⟩) (fun L6 L8 L9 => ?_) _
    rw [e6]
    generalize zo_in (mem 396) (mem 400) (mem 401) N s m N 0 0 wt 0 false = r at h
    obtain ⟨w, v, al⟩ := r
    dsimp only at h ⊢
    cases al with
    | true =>
      rw [if_pos rfl] at h
      refine az_iload dX8_fillOne_234 rfl ?_
      refine az_ifeq (t := 242) dX8_fillOne_236 (by decide) (fun h236 => ?_) (fun h236 => ?_)
      · exact absurd h236 (by simp)
      refine az_goto (t := 300) dX8_fillOne_239 (by decide) ?_
      refine az_iinc (w := 1) dX8_fillOne_300 rfl (by decide) (by decide) ?_
      dsimp only [List.set]
      refine az_goto (t := 92) dX8_fillOne_303 (by decide) ?_
      rw [nI_1]; exact ih _ _ _ _ _ _ _ _ h f1 k0 k1 k2
    | false =>
      rw [if_neg (by decide)] at h
      have k0s : m' 400 s = c.1 := by rw [k0, if_pos rfl]
      have k1s : m' 401 s = c.2.1 := by rw [k1, if_pos rfl]
      have fin : ∀ (m2 : az_M) (cw cn : Int32), (cw = if w + 1 < c.1 then w + 1 else c.1) → (cn = if w + 1 < c.1 then nI m else c.2.2) → (∀ k, k ≠ 400 → k ≠ 401 → k ≠ 402 → m2 k = mem k) → (∀ i, m2 400 i = if i = s then cw else mem 400 i) → (∀ i, m2 401 i = if i = s then c.2.1 else mem 401 i) → (∀ i, m2 402 i = if i = s then cn else mem 402 i) → az_Ev X (d + 5) mX8_fillOne 272 [some (.inr 391), some (.inl (nI s)), some (.inl wt), some (.inl (nI m)), some (.inl w), some (.inl v), L6, some (.inl 0), L8, L9] [] m2 Q := by
        intro m2 cw cn e1 e2 f2 q0 q1 q2
        rw [← e1, ← e2] at h
        have q1s : m2 401 s = c.2.1 := by rw [q1, if_pos rfl]
        have last : ∀ x, x = (if v < c.2.1 then v else c.2.1) → az_Ev X (d + 5) mX8_fillOne 92 [some (.inr 391), some (.inl (nI s)), some (.inl wt), some (.inl (nI (m + 1))), some (.inl w), some (.inl v), L6, some (.inl 0), L8, L9] [] (az_w m2 401 s x) Q := by
          intro x hx
          rw [← hx] at h
          refine ih _ _ _ _ _ _ _ _ h (fun k a1 a2 a3 => by rw [az_w_ne _ a2]; exact f2 k a1 a2 a3) (fun i => by rw [az_w_ne _ (by decide)]; exact q0 i) (fun i => ?_) (fun i => by rw [az_w_ne _ (by decide)]; exact q2 i)
          rw [az_w_same, zm_upd_eq, q1]
          by_cases hi : i = s <;> simp [hi]
        refine az_aloadn dX8_fillOne_272 rfl ?_
        refine az_getr dX8_fillOne_273 flX8_39 sh_391 rfl ?_
        refine az_iloadn dX8_fillOne_276 rfl ?_
        refine az_iload dX8_fillOne_277 rfl ?_
        refine az_aloadn dX8_fillOne_279 rfl ?_
        refine az_getr dX8_fillOne_280 flX8_39 sh_391 rfl ?_
        refine az_iloadn dX8_fillOne_283 rfl ?_
        refine az_iald (s) dX8_fillOne_284 sh_401 (by omega) (by decide) (by simp only [az_lit, nI_add, pk_mul, Nat.add_assoc]) ?_
        rw [q1s]
        refine az_icmpge (t := 293) dX8_fillOne_285 (by decide) (fun h285 => ?_) (fun h285 => ?_)
        · refine az_aloadn dX8_fillOne_293 rfl ?_
          refine az_getr dX8_fillOne_294 flX8_39 sh_391 rfl ?_
          refine az_iloadn dX8_fillOne_297 rfl ?_
          refine az_iald (s) dX8_fillOne_298 sh_401 (by omega) (by decide) (by simp only [az_lit, nI_add, pk_mul, Nat.add_assoc]) ?_
          refine az_iast (s) dX8_fillOne_299 sh_401 (by omega) (by decide) (by simp only [az_lit, nI_add, pk_mul, Nat.add_assoc]) ?_
          refine az_iinc (w := 1) dX8_fillOne_300 rfl (by decide) (by decide) ?_
          dsimp only [List.set]
          refine az_goto (t := 92) dX8_fillOne_303 (by decide) ?_
          rw [nI_1]
          first
          | exact last _ (by rw [if_pos (Int32.not_le.mp h285)])
          | exact last _ (by rw [if_neg (Int32.not_lt.mpr h285), q1s])
        · refine az_iload dX8_fillOne_288 rfl ?_
          refine az_goto (t := 299) dX8_fillOne_290 (by decide) ?_
          refine az_iast (s) dX8_fillOne_299 sh_401 (by omega) (by decide) (by simp only [az_lit, nI_add, pk_mul, Nat.add_assoc]) ?_
          refine az_iinc (w := 1) dX8_fillOne_300 rfl (by decide) (by decide) ?_
          dsimp only [List.set]
          refine az_goto (t := 92) dX8_fillOne_303 (by decide) ?_
          rw [nI_1]
          first
          | exact last _ (by rw [if_pos (Int32.not_le.mp h285)])
          | exact last _ (by rw [if_neg (Int32.not_lt.mpr h285), q1s])
      refine az_iload dX8_fillOne_234 rfl ?_
      refine az_ifeq (t := 242) dX8_fillOne_236 (by decide) (fun h236 => ?_) (fun h236 => ?_)
      rotate_left 1
      · exact absurd rfl h236
      refine az_iload dX8_fillOne_242 rfl ?_
      refine az_iconst (v := 1) dX8_fillOne_244 (by decide) ?_
      refine az_iadd dX8_fillOne_245 ?_
      refine az_aloadn dX8_fillOne_246 rfl ?_
      refine az_getr dX8_fillOne_247 flX8_36 sh_391 rfl ?_
      refine az_iloadn dX8_fillOne_250 rfl ?_
      refine az_iald (s) dX8_fillOne_251 sh_400 (by omega) (by decide) (by simp only [az_lit, nI_add, pk_mul, Nat.add_assoc]) ?_
      rw [k0s]
      refine az_icmpge (t := 272) dX8_fillOne_252 (by decide) (fun h252 => ?_) (fun h252 => ?_)
      · first
        | (refine fin _ _ _ (by rw [if_pos (Int32.not_le.mp h252)]) (by rw [if_pos (Int32.not_le.mp h252)]) (fun k a1 a2 a3 => by rw [az_w_ne _ a3, az_w_ne _ a1]; exact f1 k a1 a2 a3) (fun i => ?_) (fun i => by rw [az_w_ne _ (by decide), az_w_ne _ (by decide)]; exact k1 i) (fun i => ?_)
           · rw [az_w_ne _ (by decide), az_w_same, zm_upd_eq, k0]
             by_cases hi : i = s <;> simp [hi]
           · rw [az_w_same, zm_upd_eq, az_w_ne _ (by decide), k2]
             by_cases hi : i = s <;> simp [hi])
        | exact fin m' _ _ (by rw [if_neg (Int32.not_lt.mpr h252)]) (by rw [if_neg (Int32.not_lt.mpr h252)]) f1 k0 k1 k2
      · refine az_aloadn dX8_fillOne_255 rfl ?_
        refine az_getr dX8_fillOne_256 flX8_36 sh_391 rfl ?_
        refine az_iloadn dX8_fillOne_259 rfl ?_
        refine az_iload dX8_fillOne_260 rfl ?_
        refine az_iconst (v := 1) dX8_fillOne_262 (by decide) ?_
        refine az_iadd dX8_fillOne_263 ?_
        refine az_iast (s) dX8_fillOne_264 sh_400 (by omega) (by decide) (by simp only [az_lit, nI_add, pk_mul, Nat.add_assoc]) ?_
        refine az_aloadn dX8_fillOne_265 rfl ?_
        refine az_getr dX8_fillOne_266 flX8_42 sh_391 rfl ?_
        refine az_iloadn dX8_fillOne_269 rfl ?_
        refine az_iloadn dX8_fillOne_270 rfl ?_
        refine az_iast (s) dX8_fillOne_271 sh_402 (by omega) (by decide) (by simp only [az_lit, nI_add, pk_mul, Nat.add_assoc]) ?_
        first
        | (refine fin _ _ _ (by rw [if_pos (Int32.not_le.mp h252)]) (by rw [if_pos (Int32.not_le.mp h252)]) (fun k a1 a2 a3 => by rw [az_w_ne _ a3, az_w_ne _ a1]; exact f1 k a1 a2 a3) (fun i => ?_) (fun i => by rw [az_w_ne _ (by decide), az_w_ne _ (by decide)]; exact k1 i) (fun i => ?_)
           · rw [az_w_ne _ (by decide), az_w_same, zm_upd_eq, k0]
             by_cases hi : i = s <;> simp [hi]
           · rw [az_w_same, zm_upd_eq, az_w_ne _ (by decide), k2]
             by_cases hi : i = s <;> simp [hi])
        | exact fin m' _ _ (by rw [if_neg (Int32.not_lt.mpr h252)]) (by rw [if_neg (Int32.not_lt.mpr h252)]) f1 k0 k1 k2
  · have hn1 : m' 392 0 = nI N := by rw [f1 392 (by decide) (by decide) (by decide)]; exact hn
    rw [Nat.sub_self, zo_m] at h
    subst h
    refine az_iloadn dX8_fillOne_92 rfl ?_
    refine az_aloadn dX8_fillOne_93 rfl ?_
    refine az_inv0 (N := mX8_n) dX8_fillOne_94 lkX8_62 okX8_n sh_391 rfl (Nat.le_of_ble_eq_true rfl) ?_
    refine t_X8_n hn1 ?_
    try dsimp only [az_ps]
    refine az_icmpge (t := 306) dX8_fillOne_97 (by decide) (fun h97 => ?_) (fun h97 => ?_)
    rotate_left 1
    · exact absurd (Int32.le_refl _) h97
    refine az_vret dX8_fillOne_306 rfl ?_
    exact hQ m' f1 k0 k1 k2
/-- the tables, set by set -/
def zt_tab (FO : (Nat → Int32) → (Nat → Int32) → Nat → Int32 × Int32 × Int32) : Nat → Nat → Int32 × Int32 × Int32
  | 0, _ => (0, 0, 0)
  | k + 1, s => if s = k then FO (fun i => (zt_tab FO k i).1) (fun i => (zt_tab FO k i).2.1) k else zt_tab FO k s
def zt_at (FO : (Nat → Int32) → (Nat → Int32) → Nat → Int32 × Int32 × Int32) (s : Nat) : Int32 × Int32 × Int32 := zt_tab FO (s + 1) s
theorem zt_tab_at (FO : (Nat → Int32) → (Nat → Int32) → Nat → Int32 × Int32 × Int32) {i : Nat} : ∀ {k : Nat}, i < k → zt_tab FO k i = zt_at FO i
  | 0, h => absurd h (by omega)
  | k + 1, h => by
    by_cases hk : i = k
    · subst hk; rfl
    · rw [zt_tab, if_neg hk]; exact zt_tab_at FO (by omega)
theorem zt_at_eq {S an : Nat → Int32} {N s : Nat} : zt_at (zo_FO S an N) s = zo_FO S an N (fun i => (zt_at (zo_FO S an N) i).1) (fun i => (zt_at (zo_FO S an N) i).2.1) s := by
  show zt_tab (zo_FO S an N) (s + 1) s = _
  rw [zt_tab, if_pos rfl]
  refine zo_FO_congr (fun t ht hne => ?_)
  have hlt : t < s := Nat.lt_of_le_of_ne (zn_sub_le ht) hne
  rw [zt_tab_at _ hlt]
  exact ⟨rfl, rfl⟩
theorem s_X8_fill {x : Nat} (hn : mem 392 0 = nI N) (hN : N ≤ 16) (hx : x < 2 ^ N) (hQ : ∀ m', (∀ k, k ≠ 400 → k ≠ 401 → k ≠ 402 → m' k = mem k) → (∀ t, zn_sub t x → m' 400 t = (zt_at (zo_FO (mem 392) (mem 396) N) t).1 ∧ m' 401 t = (zt_at (zo_FO (mem 392) (mem 396) N) t).2.1 ∧ m' 402 t = (zt_at (zo_FO (mem 392) (mem 396) N) t).2.2) → Q none m') : az_Sp X (d + 6) mX8_fill [.inr 391, .inl (nI x)] mem Q := by
  have hp := zi_pow hN
  refine az_body (by decide +kernel) (Nat.le_of_ble_eq_true rfl) ?_
  show az_Ev X _ mX8_fill 0 [some (.inr 391), some (.inl (nI x)), none] [] mem Q
  refine az_iconst (v := 0) dX8_fill_0 (by decide) ?_
  refine az_istoren dX8_fill_1 (by decide) ?_
  dsimp only [List.set]
  skip
  refine az_up (fun s => ∀ m', (∀ k, k ≠ 400 → k ≠ 401 → k ≠ 402 → m' k = mem k) → (∀ t, t < s → zn_sub t x → m' 400 t = (zt_at (zo_FO (mem 392) (mem 396) N) t).1 ∧ m' 401 t = (zt_at (zo_FO (mem 392) (mem 396) N) t).2.1 ∧ m' 402 t = (zt_at (zo_FO (mem 392) (mem 396) N) t).2.2) → az_Ev X (d + 6) mX8_fill 2 [some (.inr 391), some (.inl (nI x)), some (.inl (nI s))] [] m' Q) (x + 1) 0 (by omega) (fun s _ hs ih m' hf h1 => ?_) (fun m' hf h1 => ?_) mem (fun _ _ _ _ => rfl) (fun t h => absurd h (by omega))
  · have e2 : m' 392 = mem 392 := hf 392 (by decide) (by decide) (by decide)
    have e6 : m' 396 = mem 396 := hf 396 (by decide) (by decide) (by decide)
    refine az_iloadn dX8_fill_2 rfl ?_
    refine az_iloadn dX8_fill_3 rfl ?_
    refine az_icmpgt (t := 26) dX8_fill_4 (by decide) (fun h4 => ?_) (fun h4 => ?_)
    · exact absurd h4 (nI_nlt (by omega) (by omega))
    refine az_iloadn dX8_fill_7 rfl ?_
    refine az_iloadn dX8_fill_8 rfl ?_
    refine az_iconst (v := -1) dX8_fill_9 (by decide) ?_
    refine az_ixor dX8_fill_10 ?_
    refine az_iand dX8_fill_11 ?_
    refine az_ifne (t := 20) dX8_fill_12 (by decide) (fun h12 => ?_) (fun h12 => ?_)
    · rw [zb_sub (by omega) (by omega)] at h12
      refine az_iinc (w := 1) dX8_fill_20 rfl (by decide) (by decide) ?_
      dsimp only [List.set]
      refine az_goto (t := 2) dX8_fill_23 (by decide) ?_
      rw [nI_1]
      first
      | exact ih _ hf (fun t ht hts => by rcases Nat.lt_or_ge t s with q | q; exact h1 t q hts; exact absurd (by rw [show s = t by omega]; exact hts) h12)
      | (refine ih _ (fun k a1 a2 a3 => by rw [f2 k a1 a2 a3]; exact hf k a1 a2 a3) (fun t ht hts => ?_)
         rw [q0, q1, q2]
         by_cases hts2 : t = s
         · rw [if_pos hts2, if_pos hts2, if_pos hts2, hts2]; exact ⟨rfl, rfl, rfl⟩
         · rw [if_neg hts2, if_neg hts2, if_neg hts2]; exact h1 t (by omega) hts)
    · rw [zb_sub (by omega) (by omega)] at h12
      refine az_aloadn dX8_fill_15 rfl ?_
      refine az_iloadn dX8_fill_16 rfl ?_
      refine az_inv1 (N := mX8_fillOne) dX8_fill_17 lkX8_155 okX8_fillOne sh_391 rfl (Nat.le_of_ble_eq_true rfl) ?_
      refine s_X8_fillOne (N := N) (s := s) (by rw [e2]; exact hn) hN (by omega) (fun m2 f2 q0 q1 q2 => ?_)
      rw [e2, e6] at q0 q1 q2
      have eF : zo_FO (mem 392) (mem 396) N (m' 400) (m' 401) s = zt_at (zo_FO (mem 392) (mem 396) N) s := by
        rw [zt_at_eq]
        refine zo_FO_congr (fun t ht hne => ?_)
        have hlt : t < s := Nat.lt_of_le_of_ne (zn_sub_le ht) hne
        have := h1 t hlt (zn_sub_trans ht h12)
        exact ⟨this.1, this.2.1⟩
      rw [eF] at q0 q1 q2
      try dsimp only [az_ps]
      refine az_iinc (w := 1) dX8_fill_20 rfl (by decide) (by decide) ?_
      dsimp only [List.set]
      refine az_goto (t := 2) dX8_fill_23 (by decide) ?_
      rw [nI_1]
      first
      | exact ih _ hf (fun t ht hts => by rcases Nat.lt_or_ge t s with q | q; exact h1 t q hts; exact absurd (by rw [show s = t by omega]; exact hts) h12)
      | (refine ih _ (fun k a1 a2 a3 => by rw [f2 k a1 a2 a3]; exact hf k a1 a2 a3) (fun t ht hts => ?_)
         rw [q0, q1, q2]
         by_cases hts2 : t = s
         · rw [if_pos hts2, if_pos hts2, if_pos hts2, hts2]; exact ⟨rfl, rfl, rfl⟩
         · rw [if_neg hts2, if_neg hts2, if_neg hts2]; exact h1 t (by omega) hts)
  · refine az_iloadn dX8_fill_2 rfl ?_
    refine az_iloadn dX8_fill_3 rfl ?_
    refine az_icmpgt (t := 26) dX8_fill_4 (by decide) (fun h4 => ?_) (fun h4 => ?_)
    rotate_left 1
    · exact absurd (nI_lt (by omega) (by omega)) h4
    refine az_vret dX8_fill_26 rfl ?_
    exact hQ m' hf (fun t ht => h1 t (by have := zn_sub_le ht; omega) ht)
theorem s_X8_worst {x : Int32} (hn : mem 392 0 = nI N) (hN : N ≤ 16) (hQ : ∀ m', (∀ k, k ≠ 400 → k ≠ 401 → k ≠ 402 → m' k = mem k) → Q (some (.inl (if (0 ≤ x ∧ x < nI (2 ^ N)) ∧ zm_many x ≤ 12 then (if (zt_at (zo_FO (mem 392) (mem 396) N) x.toNatClampNeg).1 = 1000000 then -2 else (zt_at (zo_FO (mem 392) (mem 396) N) x.toNatClampNeg).1) else -1))) m') : az_Sp X (d + 7) mX8_worst [.inr 391, .inl x] mem Q := by
  have hp := zi_pow hN
  refine az_body (by decide +kernel) (Nat.le_of_ble_eq_true rfl) ?_
  show az_Ev X _ mX8_worst 0 [some (.inr 391), some (.inl x)] [] mem Q
  refine az_aloadn dX8_worst_0 rfl ?_
  refine az_iloadn dX8_worst_1 rfl ?_
  refine az_inv1 (N := mX8_isAsked) dX8_worst_2 lkX8_166 okX8_isAsked sh_391 rfl (Nat.le_of_ble_eq_true rfl) ?_
  refine s_X8_isAsked hn hN ?_
  try dsimp only [az_ps]
  refine az_ifne (t := 10) dX8_worst_5 (by decide) (fun h5 => ?_) (fun h5 => ?_)
  · replace h5 := zb_n h5
    obtain ⟨x', hx', rfl⟩ := zi_ex (x := x) (N := 2 ^ N) (by omega) h5.1
    refine az_aloadn dX8_worst_10 rfl ?_
    refine az_iloadn dX8_worst_11 rfl ?_
    refine az_inv1 (N := mX8_fill) dX8_worst_12 lkX8_169 okX8_fill sh_391 rfl (Nat.le_of_ble_eq_true rfl) ?_
    refine s_X8_fill hn hN hx' (fun m' hf h1 => ?_)
    have hq := hQ m' hf
    rw [if_pos h5, nI_clamp (by omega), ← (h1 x' (fun _ h => h)).1] at hq
    try dsimp only [az_ps]
    refine az_aloadn dX8_worst_15 rfl ?_
    refine az_getr dX8_worst_16 flX8_36 sh_391 rfl ?_
    refine az_iloadn dX8_worst_19 rfl ?_
    refine az_iald (x') dX8_worst_20 sh_400 (by omega) (by decide) (by simp only [az_lit, nI_add, pk_mul, Nat.add_assoc]) ?_
    refine az_ldc dX8_worst_21 kcX8_74 ?_
    refine az_icmpne (t := 31) dX8_worst_23 (by decide) (fun h23 => ?_) (fun h23 => ?_)
    · rw [if_neg h23] at hq
      refine az_aloadn dX8_worst_31 rfl ?_
      refine az_getr dX8_worst_32 flX8_36 sh_391 rfl ?_
      refine az_iloadn dX8_worst_35 rfl ?_
      refine az_iald (x') dX8_worst_36 sh_400 (by omega) (by decide) (by simp only [az_lit, nI_add, pk_mul, Nat.add_assoc]) ?_
      refine az_iret dX8_worst_37 rfl ?_
      exact hq
    · rw [if_pos h23] at hq
      refine az_bipush (v := -2) dX8_worst_26 (by decide) ?_
      refine az_goto (t := 37) dX8_worst_28 (by decide) ?_
      refine az_iret dX8_worst_37 rfl ?_
      exact hq
  · replace h5 := zb_z h5
    have hq := hQ mem (fun _ _ _ _ => rfl)
    rw [if_neg h5] at hq
    refine az_iconst (v := -1) dX8_worst_8 (by decide) ?_
    refine az_iret dX8_worst_9 rfl ?_
    exact hq
theorem s_X8_next {x : Int32} (hn : mem 392 0 = nI N) (hN : N ≤ 16) (hQ : ∀ m', (∀ k, k ≠ 400 → k ≠ 401 → k ≠ 402 → m' k = mem k) → Q (some (.inl (if (0 ≤ x ∧ x < nI (2 ^ N)) ∧ zm_many x ≤ 12 then (zt_at (zo_FO (mem 392) (mem 396) N) x.toNatClampNeg).2.2 else -1))) m') : az_Sp X (d + 7) mX8_next [.inr 391, .inl x] mem Q := by
  have hp := zi_pow hN
  refine az_body (by decide +kernel) (Nat.le_of_ble_eq_true rfl) ?_
  show az_Ev X _ mX8_next 0 [some (.inr 391), some (.inl x)] [] mem Q
  refine az_aloadn dX8_next_0 rfl ?_
  refine az_iloadn dX8_next_1 rfl ?_
  refine az_inv1 (N := mX8_isAsked) dX8_next_2 lkX8_166 okX8_isAsked sh_391 rfl (Nat.le_of_ble_eq_true rfl) ?_
  refine s_X8_isAsked hn hN ?_
  try dsimp only [az_ps]
  refine az_ifne (t := 10) dX8_next_5 (by decide) (fun h5 => ?_) (fun h5 => ?_)
  · replace h5 := zb_n h5
    obtain ⟨x', hx', rfl⟩ := zi_ex (x := x) (N := 2 ^ N) (by omega) h5.1
    refine az_aloadn dX8_next_10 rfl ?_
    refine az_iloadn dX8_next_11 rfl ?_
    refine az_inv1 (N := mX8_fill) dX8_next_12 lkX8_169 okX8_fill sh_391 rfl (Nat.le_of_ble_eq_true rfl) ?_
    refine s_X8_fill hn hN hx' (fun m' hf h1 => ?_)
    have hq := hQ m' hf
    rw [if_pos h5, nI_clamp (by omega), ← (h1 x' (fun _ h => h)).2.2] at hq
    try dsimp only [az_ps]
    refine az_aloadn dX8_next_15 rfl ?_
    refine az_getr dX8_next_16 flX8_42 sh_391 rfl ?_
    refine az_iloadn dX8_next_19 rfl ?_
    refine az_iald (x') dX8_next_20 sh_402 (by omega) (by decide) (by simp only [az_lit, nI_add, pk_mul, Nat.add_assoc]) ?_
    refine az_iret dX8_next_21 rfl ?_
    exact hq
  · replace h5 := zb_z h5
    have hq := hQ mem (fun _ _ _ _ => rfl)
    rw [if_neg h5] at hq
    refine az_iconst (v := -1) dX8_next_8 (by decide) ?_
    refine az_iret dX8_next_9 rfl ?_
    exact hq
theorem s_X8_mean {x : Int32} (hn : mem 392 0 = nI N) (hN : N ≤ 16) (hQ : ∀ m', (∀ k, k ≠ 400 → k ≠ 401 → k ≠ 402 → m' k = mem k) → Q (some (.inl (if (0 ≤ x ∧ x < nI (2 ^ N)) ∧ zm_many x ≤ 12 then (zt_at (zo_FO (mem 392) (mem 396) N) x.toNatClampNeg).2.1 else -1))) m') : az_Sp X (d + 7) mX8_mean [.inr 391, .inl x] mem Q := by
  have hp := zi_pow hN
  refine az_body (by decide +kernel) (Nat.le_of_ble_eq_true rfl) ?_
  show az_Ev X _ mX8_mean 0 [some (.inr 391), some (.inl x)] [] mem Q
  refine az_aloadn dX8_mean_0 rfl ?_
  refine az_iloadn dX8_mean_1 rfl ?_
  refine az_inv1 (N := mX8_isAsked) dX8_mean_2 lkX8_166 okX8_isAsked sh_391 rfl (Nat.le_of_ble_eq_true rfl) ?_
  refine s_X8_isAsked hn hN ?_
  try dsimp only [az_ps]
  refine az_ifne (t := 10) dX8_mean_5 (by decide) (fun h5 => ?_) (fun h5 => ?_)
  · replace h5 := zb_n h5
    obtain ⟨x', hx', rfl⟩ := zi_ex (x := x) (N := 2 ^ N) (by omega) h5.1
    refine az_aloadn dX8_mean_10 rfl ?_
    refine az_iloadn dX8_mean_11 rfl ?_
    refine az_inv1 (N := mX8_fill) dX8_mean_12 lkX8_169 okX8_fill sh_391 rfl (Nat.le_of_ble_eq_true rfl) ?_
    refine s_X8_fill hn hN hx' (fun m' hf h1 => ?_)
    have hq := hQ m' hf
    rw [if_pos h5, nI_clamp (by omega), ← (h1 x' (fun _ h => h)).2.1] at hq
    try dsimp only [az_ps]
    refine az_aloadn dX8_mean_15 rfl ?_
    refine az_getr dX8_mean_16 flX8_39 sh_391 rfl ?_
    refine az_iloadn dX8_mean_19 rfl ?_
    refine az_iald (x') dX8_mean_20 sh_401 (by omega) (by decide) (by simp only [az_lit, nI_add, pk_mul, Nat.add_assoc]) ?_
    refine az_iret dX8_mean_21 rfl ?_
    exact hq
  · replace h5 := zb_z h5
    have hq := hQ mem (fun _ _ _ _ => rfl)
    rw [if_neg h5] at hq
    refine az_iconst (v := -1) dX8_mean_8 (by decide) ?_
    refine az_iret dX8_mean_9 rfl ?_
    exact hq
end MJ

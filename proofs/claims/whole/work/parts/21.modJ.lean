/-! the model's asking: fillOne, fill, worst, next, mean -/
def zn_sub (a b : Nat) : Prop := ∀ i, a.testBit i = true → b.testBit i = true
theorem zn_sub_le {a b : Nat} (h : zn_sub a b) : a ≤ b := by
  have : a &&& b = a := by
    apply Nat.eq_of_testBit_eq
    intro i
    rw [Nat.testBit_and]
    cases ha : a.testBit i with
    | false => rfl
    | true => rw [h i ha]; rfl
  rw [← this]; exact Nat.and_le_right
theorem zn_sub_trans {a b c : Nat} (h : zn_sub a b) (h2 : zn_sub b c) : zn_sub a c := fun i hi => h2 i (h i hi)
theorem zb_sub {s x : Nat} (hs : s < 2 ^ 31) (hx : x < 2 ^ 31) : (nI s &&& (nI x ^^^ (-1))) = 0 ↔ zn_sub s x := by
  have key : ∀ i, i < 32 → (nI s &&& (nI x ^^^ (-1))).toBitVec.getLsbD i = (s.testBit i && !x.testBit i) := by
    intro i hi
    have h1 : (nI s &&& (nI x ^^^ (-1))).toBitVec = (nI s).toBitVec &&& ((nI x).toBitVec ^^^ (-1 : Int32).toBitVec) := rfl
    have h2 : (-1 : Int32).toBitVec = BitVec.allOnes 32 := by decide
    have h3 : ∀ n, (nI n).toBitVec = BitVec.ofNat 32 n := fun n => rfl
    rw [h1, h2, h3, h3, BitVec.getLsbD_and, BitVec.getLsbD_xor, BitVec.getLsbD_allOnes, BitVec.getLsbD_ofNat, BitVec.getLsbD_ofNat]
    simp [hi]
  constructor
  · intro h i hi
    have hi32 : i < 32 := by
      rcases Nat.lt_or_ge i 31 with q | q
      · omega
      · rw [zn_high hs q] at hi; cases hi
    have k := key i hi32
    rw [h] at k
    have h0 : ((0 : Int32).toBitVec).getLsbD i = false := by
      have : (0 : Int32).toBitVec = 0#32 := rfl
      rw [this]; simp
    rw [h0, hi] at k
    simpa using k.symm
  · intro h
    apply Int32.toBitVec_inj.mp
    apply BitVec.eq_of_getLsbD_eq
    intro i hi
    rw [key i hi]
    have h0 : ((0 : Int32).toBitVec).getLsbD i = false := by
      have : (0 : Int32).toBitVec = 0#32 := rfl
      rw [this]; simp
    rw [h0]
    cases hsb : s.testBit i with
    | false => rfl
    | true => rw [h i hsb]; rfl
/-- what stays of s by m's answer for p -/
def zo_pt (an : Nat → Int32) (N s m p : Nat) : Nat := zn_mask (zs_f an s m p) N
theorem zo_pt_sub {an : Nat → Int32} {N s m p : Nat} : zn_sub (zo_pt an N s m p) s := by
  intro i hi
  unfold zo_pt at hi
  rw [zn_bit] at hi
  simp only [zs_f, Bool.and_eq_true] at hi
  exact hi.2.1
def zo_in (an W M : Nat → Int32) (N s m : Nat) : Nat → Nat → Int32 → Int32 → Nat → Bool → Int32 × Int32 × Bool
  | 0, _, w, v, _, al => (w, v, al)
  | n + 1, p, w, v, g, al => if s.testBit p = false ∨ g.testBit p = true then zo_in an W M N s m n (p + 1) w v g al
    else if (al || decide (zo_pt an N s m p = s)) = true then zo_in an W M N s m n (p + 1) w v (g ||| zo_pt an N s m p) true
    else zo_in an W M N s m n (p + 1) (if W (zo_pt an N s m p) ≤ w then w else W (zo_pt an N s m p)) (v + M (zo_pt an N s m p)) (g ||| zo_pt an N s m p) false
def zo_m (an W M : Nat → Int32) (N s : Nat) (wt : Int32) : Nat → Nat → Int32 × Int32 × Int32 → Int32 × Int32 × Int32
  | 0, _, c => c
  | n + 1, m, c => zo_m an W M N s wt n (m + 1) (if (zo_in an W M N s m N 0 0 wt 0 false).2.2 = true then c else
      (if (zo_in an W M N s m N 0 0 wt 0 false).1 + 1 < c.1 then (zo_in an W M N s m N 0 0 wt 0 false).1 + 1 else c.1,
       if (zo_in an W M N s m N 0 0 wt 0 false).2.1 < c.2.1 then (zo_in an W M N s m N 0 0 wt 0 false).2.1 else c.2.1,
       if (zo_in an W M N s m N 0 0 wt 0 false).1 + 1 < c.1 then nI m else c.2.2))
def zo_wt (S : Nat → Int32) (N s : Nat) : Int32 := zm_sum (fun p => if s.testBit p then S (295 + p) else 0) N
def zo_FO (S an : Nat → Int32) (N : Nat) (W M : Nat → Int32) (s : Nat) : Int32 × Int32 × Int32 := if zd_done an N s = true then (0, 0, -1) else zo_m an W M N s (zo_wt S N s) N 0 (1000000, 2147483647, -1)
theorem zo_in_congr {an W M W' M' : Nat → Int32} {N s m : Nat} (h : ∀ t, zn_sub t s → t ≠ s → W t = W' t ∧ M t = M' t) : ∀ (n p : Nat) (w v : Int32) (g : Nat) (al : Bool), zo_in an W M N s m n p w v g al = zo_in an W' M' N s m n p w v g al
  | 0, _, _, _, _, _ => rfl
  | n + 1, p, w, v, g, al => by
    rw [zo_in, zo_in, zo_in_congr h n, zo_in_congr h n, zo_in_congr h n]
    split
    · rfl
    · split
      · rfl
      · next hc =>
        have hne : zo_pt an N s m p ≠ s := by
          intro he; apply hc; rw [he]; simp
        rw [(h _ zo_pt_sub hne).1, (h _ zo_pt_sub hne).2]
theorem zo_m_congr {an W M W' M' : Nat → Int32} {N s : Nat} {wt : Int32} (h : ∀ t, zn_sub t s → t ≠ s → W t = W' t ∧ M t = M' t) : ∀ (n m : Nat) (c : Int32 × Int32 × Int32), zo_m an W M N s wt n m c = zo_m an W' M' N s wt n m c
  | 0, _, _ => rfl
  | n + 1, m, c => by rw [zo_m, zo_m, zo_m_congr h n, zo_in_congr h]
theorem zo_FO_congr {S an W M W' M' : Nat → Int32} {N s : Nat} (h : ∀ t, zn_sub t s → t ≠ s → W t = W' t ∧ M t = M' t) : zo_FO S an N W M s = zo_FO S an N W' M' s := by
  unfold zo_FO; rw [zo_m_congr h]
section MJ
variable {X : az_X} {d : Nat} {mem : az_M} {Q : Option az_V → az_M → Prop} {N : Nat}
theorem x_fo_p {s m : Nat} {wt : Int32} {W M : Nat → Int32} {L2 : Option az_V} (hn : mem 392 0 = nI N) (hN : N ≤ 16) (hs : s < 2 ^ N) (hm : m < N) (hW : ∀ t, zn_sub t s → t ≠ s → mem 400 t = W t ∧ mem 401 t = M t)
    (K : ∀ L6 L8 L9, az_Ev X (d + 5) mX8_fillOne 234 [some (.inr 391), some (.inl (nI s)), L2, some (.inl (nI m)), some (.inl (zo_in (mem 396) W M N s m N 0 0 wt 0 false).1), some (.inl (zo_in (mem 396) W M N s m N 0 0 wt 0 false).2.1), L6, some (.inl (if (zo_in (mem 396) W M N s m N 0 0 wt 0 false).2.2 then 1 else 0)), L8, L9] [] mem Q) (L9 : Option az_V) : az_Ev X (d + 5) mX8_fillOne 115 [some (.inr 391), some (.inl (nI s)), L2, some (.inl (nI m)), some (.inl 0), some (.inl wt), some (.inl 0), some (.inl 0), some (.inl 0), L9] [] mem Q := by
  have hp := zi_pow hN
  generalize hR : zo_in (mem 396) W M N s m N 0 0 wt 0 false = R at K
  refine az_up (fun p => ∀ (w v : Int32) (g : Nat) (al : Bool) L9, g < 2 ^ N → zo_in (mem 396) W M N s m (N - p) p w v g al = R → az_Ev X (d + 5) mX8_fillOne 115 [some (.inr 391), some (.inl (nI s)), L2, some (.inl (nI m)), some (.inl w), some (.inl v), some (.inl (nI g)), some (.inl (if al then 1 else 0)), some (.inl (nI p)), L9] [] mem Q) N 0 (by omega) (fun p _ hpN ih w v g al L9 hg h => ?_) (fun w v g al L9 hg h => ?_) 0 wt 0 false L9 (Nat.two_pow_pos N) hR
  · have hpt : zo_pt (mem 396) N s m p < 2 ^ N := zn_lt _ N
    have hg' : g ||| zo_pt (mem 396) N s m p < 2 ^ N := Nat.or_lt_two_pow hg hpt
    rw [zs_sub hpN, zo_in] at h
    have hall : ∀ (al' : Bool), al' = (al || decide (zo_pt (mem 396) N s m p = s)) → ¬ (s.testBit p = false ∨ g.testBit p = true) → az_Ev X (d + 5) mX8_fillOne 173 [some (.inr 391), some (.inl (nI s)), L2, some (.inl (nI m)), some (.inl w), some (.inl v), some (.inl (nI g)), some (.inl (if al then 1 else 0)), some (.inl (nI p)), some (.inl (nI (zo_pt (mem 396) N s m p)))] [.inl (if al' then 1 else 0)] mem Q := by
      intro al' hal hc
      rw [if_neg hc, ← hal] at h
      cases al' with
      | true =>
        rw [if_pos rfl] at h
        refine az_istore dX8_fillOne_173 (by decide) ?_
        dsimp only [List.set]
        refine az_iload dX8_fillOne_175 rfl ?_
        refine az_iload dX8_fillOne_177 rfl ?_
        refine az_ior dX8_fillOne_179 ?_
        refine az_istore dX8_fillOne_180 (by decide) ?_
        dsimp only [List.set]
        refine az_iload dX8_fillOne_182 rfl ?_
        refine az_ifeq (t := 190) dX8_fillOne_184 (by decide) (fun h184 => ?_) (fun h184 => ?_)
        · exact absurd h184 (by decide)
        refine az_goto (t := 228) dX8_fillOne_187 (by decide) ?_
        refine az_iinc (w := 1) dX8_fillOne_228 rfl (by decide) (by decide) ?_
        dsimp only [List.set]
        refine az_goto (t := 115) dX8_fillOne_231 (by decide) ?_
        rw [nI_1, fa_or]; exact ih _ _ _ true _ hg' h
      | false =>
        have hne : zo_pt (mem 396) N s m p ≠ s := by
          intro he; rw [he] at hal; simp at hal
        obtain ⟨eW, eM⟩ := hW _ zo_pt_sub hne
        rw [if_neg (by decide)] at h
        refine az_istore dX8_fillOne_173 (by decide) ?_
        dsimp only [List.set]
        refine az_iload dX8_fillOne_175 rfl ?_
        refine az_iload dX8_fillOne_177 rfl ?_
        refine az_ior dX8_fillOne_179 ?_
        refine az_istore dX8_fillOne_180 (by decide) ?_
        dsimp only [List.set]
        refine az_iload dX8_fillOne_182 rfl ?_
        refine az_ifeq (t := 190) dX8_fillOne_184 (by decide) (fun h184 => ?_) (fun h184 => ?_)
        rotate_left 1
        · exact absurd rfl h184
        refine az_aloadn dX8_fillOne_190 rfl ?_
        refine az_getr dX8_fillOne_191 flX8_36 sh_391 rfl ?_
        refine az_iload dX8_fillOne_194 rfl ?_
        refine az_iald (zo_pt (mem 396) N s m p) dX8_fillOne_196 sh_400 (by omega) (by decide) (by simp only [az_lit, nI_add, pk_mul, Nat.add_assoc]) ?_
        refine az_iload dX8_fillOne_197 rfl ?_
        refine az_icmple (t := 212) dX8_fillOne_199 (by decide) (fun h199 => ?_) (fun h199 => ?_)
        · rw [eW] at h199; rw [if_pos h199] at h
          refine az_iload dX8_fillOne_212 rfl ?_
          refine az_istore dX8_fillOne_214 (by decide) ?_
          dsimp only [List.set]
          refine az_iload dX8_fillOne_216 rfl ?_
          refine az_aloadn dX8_fillOne_218 rfl ?_
          refine az_getr dX8_fillOne_219 flX8_39 sh_391 rfl ?_
          refine az_iload dX8_fillOne_222 rfl ?_
          refine az_iald (zo_pt (mem 396) N s m p) dX8_fillOne_224 sh_401 (by omega) (by decide) (by simp only [az_lit, nI_add, pk_mul, Nat.add_assoc]) ?_
          refine az_iadd dX8_fillOne_225 ?_
          refine az_istore dX8_fillOne_226 (by decide) ?_
          dsimp only [List.set]
          refine az_iinc (w := 1) dX8_fillOne_228 rfl (by decide) (by decide) ?_
          dsimp only [List.set]
          refine az_goto (t := 115) dX8_fillOne_231 (by decide) ?_
          rw [nI_1, fa_or]
          first
          | (rw [eW, eM]; exact ih _ _ _ false _ hg' h)
          | (rw [eM]; exact ih _ _ _ false _ hg' h)
        · rw [eW] at h199; rw [if_neg h199] at h
          refine az_aloadn dX8_fillOne_202 rfl ?_
          refine az_getr dX8_fillOne_203 flX8_36 sh_391 rfl ?_
          refine az_iload dX8_fillOne_206 rfl ?_
          refine az_iald (zo_pt (mem 396) N s m p) dX8_fillOne_208 sh_400 (by omega) (by decide) (by simp only [az_lit, nI_add, pk_mul, Nat.add_assoc]) ?_
          refine az_goto (t := 214) dX8_fillOne_209 (by decide) ?_
          refine az_istore dX8_fillOne_214 (by decide) ?_
          dsimp only [List.set]
          refine az_iload dX8_fillOne_216 rfl ?_
          refine az_aloadn dX8_fillOne_218 rfl ?_
          refine az_getr dX8_fillOne_219 flX8_39 sh_391 rfl ?_
          refine az_iload dX8_fillOne_222 rfl ?_
          refine az_iald (zo_pt (mem 396) N s m p) dX8_fillOne_224 sh_401 (by omega) (by decide) (by simp only [az_lit, nI_add, pk_mul, Nat.add_assoc]) ?_
          refine az_iadd dX8_fillOne_225 ?_
          refine az_istore dX8_fillOne_226 (by decide) ?_
          dsimp only [List.set]
          refine az_iinc (w := 1) dX8_fillOne_228 rfl (by decide) (by decide) ?_
          dsimp only [List.set]
          refine az_goto (t := 115) dX8_fillOne_231 (by decide) ?_
          rw [nI_1, fa_or]
          first
          | (rw [eW, eM]; exact ih _ _ _ false _ hg' h)
          | (rw [eM]; exact ih _ _ _ false _ hg' h)
    refine az_iload dX8_fillOne_115 rfl ?_
    refine az_aloadn dX8_fillOne_117 rfl ?_
    refine az_inv0 (N := mX8_n) dX8_fillOne_118 lkX8_62 okX8_n sh_391 rfl (Nat.le_of_ble_eq_true rfl) ?_
    refine t_X8_n hn ?_
    try dsimp only [az_ps]
    refine az_icmpge (t := 234) dX8_fillOne_121 (by decide) (fun h121 => ?_) (fun h121 => ?_)
    · exact absurd h121 (nI_ge (by omega) (by omega))
    refine az_iloadn dX8_fillOne_124 rfl ?_
    refine az_iload dX8_fillOne_125 rfl ?_
    refine az_ishr dX8_fillOne_127 ?_
    refine az_iconst (v := 1) dX8_fillOne_128 (by decide) ?_
    refine az_iand dX8_fillOne_129 ?_
    refine az_ifeq (t := 228) dX8_fillOne_130 (by decide) (fun h130 => ?_) (fun h130 => ?_)
    · rw [zb_bit0 (by omega) (by omega)] at h130
      rw [if_pos (Or.inl h130)] at h
      refine az_iinc (w := 1) dX8_fillOne_228 rfl (by decide) (by decide) ?_
      dsimp only [List.set]
      refine az_goto (t := 115) dX8_fillOne_231 (by decide) ?_
      rw [nI_1]; exact ih _ _ _ _ _ hg h
    · rw [zb_bit0 (by omega) (by omega)] at h130
      refine az_iload dX8_fillOne_133 rfl ?_
      refine az_iload dX8_fillOne_135 rfl ?_
      refine az_ishr dX8_fillOne_137 ?_
      refine az_iconst (v := 1) dX8_fillOne_138 (by decide) ?_
      refine az_iand dX8_fillOne_139 ?_
      refine az_iconst (v := 1) dX8_fillOne_140 (by decide) ?_
      refine az_icmpne (t := 147) dX8_fillOne_141 (by decide) (fun h141 => ?_) (fun h141 => ?_)
      · rw [zb_bit1 (by omega) (by omega)] at h141
        have hc : ¬ (s.testBit p = false ∨ g.testBit p = true) := fun q => q.elim h130 h141
        refine az_aloadn dX8_fillOne_147 rfl ?_
        refine az_iloadn dX8_fillOne_148 rfl ?_
        refine az_iloadn dX8_fillOne_149 rfl ?_
        refine az_iload dX8_fillOne_150 rfl ?_
        refine az_inv3 (N := mX8_staying) dX8_fillOne_152 lkX8_162 okX8_staying sh_391 rfl (Nat.le_of_ble_eq_true rfl) ?_
        refine s_X8_staying hn hN (by omega) (by omega) (by omega) ?_
        rw [zm_mask_n _ N (by omega)]
        have ept : zn_mask (zs_f (mem 396) s m p) N = zo_pt (mem 396) N s m p := rfl
        rw [ept]
        try dsimp only [az_ps]
        refine az_istore dX8_fillOne_155 (by decide) ?_
        dsimp only [List.set]
        refine az_iload dX8_fillOne_157 rfl ?_
        refine az_ifne (t := 168) dX8_fillOne_159 (by decide) (fun h159 => ?_) (fun h159 => ?_)
        · have hal1 : al = true := by cases al; exact absurd rfl h159; rfl
          refine az_iconst (v := 1) dX8_fillOne_168 (by decide) ?_
          refine az_goto (t := 173) dX8_fillOne_169 (by decide) ?_
          first
          | exact hall true (by rw [hal1]; rfl) hc
          | exact hall true (by rw [heq]; simp) hc
          | exact hall false (by rw [hal0]; simp [hne]) hc
        · have hal0 : al = false := by cases al; rfl; exact absurd h159 (by decide)
          refine az_iload dX8_fillOne_162 rfl ?_
          refine az_iloadn dX8_fillOne_164 rfl ?_
          refine az_icmpne (t := 172) dX8_fillOne_165 (by decide) (fun h165 => ?_) (fun h165 => ?_)
          · have hne : ¬ zo_pt (mem 396) N s m p = s := fun q => h165 (by rw [q])
            refine az_iconst (v := 0) dX8_fillOne_172 (by decide) ?_
            first
            | exact hall true (by rw [hal1]; rfl) hc
            | exact hall true (by rw [heq]; simp) hc
            | exact hall false (by rw [hal0]; simp [hne]) hc
          · have heq : zo_pt (mem 396) N s m p = s := (nI_eq (by omega) (by omega)).mp h165
            refine az_iconst (v := 1) dX8_fillOne_168 (by decide) ?_
            refine az_goto (t := 173) dX8_fillOne_169 (by decide) ?_
            first
            | exact hall true (by rw [hal1]; rfl) hc
            | exact hall true (by rw [heq]; simp) hc
            | exact hall false (by rw [hal0]; simp [hne]) hc
      · rw [zb_bit1 (by omega) (by omega)] at h141
        rw [if_pos (Or.inr h141)] at h
        refine az_goto (t := 228) dX8_fillOne_144 (by decide) ?_
        refine az_iinc (w := 1) dX8_fillOne_228 rfl (by decide) (by decide) ?_
        dsimp only [List.set]
        refine az_goto (t := 115) dX8_fillOne_231 (by decide) ?_
        rw [nI_1]; exact ih _ _ _ _ _ hg h
  · rw [Nat.sub_self, zo_in] at h
    subst h
    refine az_iload dX8_fillOne_115 rfl ?_
    refine az_aloadn dX8_fillOne_117 rfl ?_
    refine az_inv0 (N := mX8_n) dX8_fillOne_118 lkX8_62 okX8_n sh_391 rfl (Nat.le_of_ble_eq_true rfl) ?_
    refine t_X8_n hn ?_
    try dsimp only [az_ps]
    refine az_icmpge (t := 234) dX8_fillOne_121 (by decide) (fun h121 => ?_) (fun h121 => ?_)
    rotate_left 1
    · exact absurd (Int32.le_refl _) h121
    exact K _ _ _
end MJ

/-! blocks put together; Arrays.fill; Net(); Past() -/
def az_rf (k : Nat) : List Nat := match az_sh k with
  | .inl _ => []
  | .inr (.inl o) => o.2.filterMap id
  | .inr (.inr bs) => bs
theorem az_ce_congr {Y : ay_Y} {ad ad' : Nat → Nat} {k : Nat} {f : Nat → Int32} (h : ∀ r ∈ az_rf k, ad r = ad' r) : az_ce (Y.1, Y.2.1, Y.2.2, ad) k f = az_ce (Y.1, Y.2.1, Y.2.2, ad') k f := by
  unfold az_rf at h
  unfold az_ce
  cases hs : az_sh k with
  | inl n => rfl
  | inr o =>
    rw [hs] at h
    cases o with
    | inl o =>
      dsimp only at h ⊢
      congr 2
      unfold az_fl
      refine List.map_congr_left (fun j hj => ?_)
      cases hg : o.2.getD j none with
      | none => rfl
      | some b =>
        have hb : b ∈ o.2.filterMap id := by
          refine List.mem_filterMap.mpr ⟨some b, ?_, rfl⟩
          rw [List.getD_eq_getElem?_getD] at hg
          cases hz : o.2[j]? with
          | none => rw [hz] at hg; cases hg
          | some x => rw [hz] at hg; cases hg; exact List.mem_of_getElem? hz
        show Value.ref (ad b) = Value.ref (ad' b)
        rw [h b hb]
    | inr bs =>
      dsimp only at h ⊢
      have e : (fun i : Nat => Option.map ad bs[i]?) = fun i : Nat => Option.map ad' bs[i]? := by
        funext i
        cases hz : bs[i]? with
        | none => rfl
        | some x =>
          show some (ad x) = some (ad' x)
          rw [h x (List.mem_of_getElem? hz)]
      rw [e]
theorem ay_bl_congr {Y : ay_Y} {ad ad' : Nat → Nat} {mem mem' : az_M} {b n : Nat} (h1 : ∀ k, b ≤ k → k < b + n → ad k = ad' k) (h2 : ∀ k, b ≤ k → k < b + n → mem k = mem' k) (h3 : ∀ k, b ≤ k → k < b + n → ∀ r ∈ az_rf k, ad r = ad' r) : ay_bl Y ad mem b n = ay_bl Y ad' mem' b n := by
  unfold ay_bl
  refine List.map_congr_left (fun k hk => ?_)
  have hk' := List.mem_range.mp hk
  rw [h1 (b + k) (by omega) (by omega), h2 (b + k) (by omega) (by omega), az_ce_congr (h3 (b + k) (by omega) (by omega))]
theorem ay_bl_app {Y : ay_Y} {ad : Nat → Nat} {mem : az_M} {b n k : Nat} : ay_bl Y ad mem b (n + k) = ay_bl Y ad mem b n ++ ay_bl Y ad mem (b + n) k := by
  unfold ay_bl
  rw [List.range_add, List.map_append, List.map_map]
  congr 1
  refine List.map_congr_left (fun j _ => ?_)
  show (ad (b + (n + j)), _) = (ad (b + n + j), _)
  rw [Nat.add_assoc]
theorem ay_bl_1 {Y : ay_Y} {ad : Nat → Nat} {mem : az_M} {b : Nat} : ay_bl Y ad mem b 1 = [(ad b, az_ce (Y.1, Y.2.1, Y.2.2, ad) b (mem b))] := rfl
theorem ay_bl_len {Y : ay_Y} {ad : Nat → Nat} {mem : az_M} {b n : Nat} : (ay_bl Y ad mem b n).length = n := by unfold ay_bl; rw [List.length_map, List.length_range]
def az_gr (k : Nat) : Nat := if k < 1 then 0 else if k < 7 then 1 else if k < 369 then 2 else if k < 371 then 3 else if k < 379 then 4 else if k < 382 then 5 else if k < 388 then 6 else if k < 391 then 7 else 8
set_option maxRecDepth 100000 in
theorem az_rf_gr : ∀ k, k < 404 → ∀ r ∈ az_rf k, k = 0 ∨ (az_gr r = az_gr k ∧ r < 404) := by decide +kernel
set_option maxRecDepth 100000 in
theorem az_rf_net : ∀ k, k < 369 → 9 ≤ k → ∀ r ∈ az_rf k, k < r ∧ (r - 9) / 6 = (k - 9) / 6 := by decide +kernel
/-- two rows of blocks, one behind the other, are one -/
theorem ay_bl_glue {Y : ay_Y} {ad ad' : Nat → Nat} {mem mem' : az_M} {b n k : Nat} (h1 : ∀ x, b ≤ x → x < b + n → ∀ r ∈ az_rf x, r < b + n) (h2 : ∀ x, b + n ≤ x → x < b + n + k → ∀ r ∈ az_rf x, b + n ≤ r) : ay_bl Y ad mem b n ++ ay_bl Y ad' mem' (b + n) k = ay_bl Y (fun x => if x < b + n then ad x else ad' x) (fun x => if x < b + n then mem x else mem' x) b (n + k) := by
  rw [ay_bl_app]
  congr 1
  · exact ay_bl_congr (fun x _ h => by rw [if_pos h]) (fun x _ h => by rw [if_pos h]) (fun x hb h r hr => by rw [if_pos (h1 x hb h r hr)])
  · exact ay_bl_congr (fun x h _ => by rw [if_neg (by omega)]) (fun x h _ => by rw [if_neg (by omega)]) (fun x hb h r hr => by rw [if_neg (by have := h2 x hb h r hr; omega)])
def ay_c1 (L : List (Option Value)) : Prop := ∀ (j : Nat) (w : Value), L[j]? = some (some w) → w.category = 1
theorem ay_c1e : ay_c1 [] := fun j w h => by cases h
theorem ay_c1n {L : List (Option Value)} (h : ay_c1 L) : ay_c1 (none :: L) := fun j w hj => by
  cases j with
  | zero => cases hj
  | succ j => exact h j w hj
theorem ay_c1i {L : List (Option Value)} {v : Int32} (h : ay_c1 L) : ay_c1 (some (.int v) :: L) := fun j w hj => by
  cases j with
  | zero => cases hj; rfl
  | succ j => exact h j w hj
theorem ay_c1r {L : List (Option Value)} {v : Nat} (h : ay_c1 L) : ay_c1 (some (.ref v) :: L) := fun j w hj => by
  cases j with
  | zero => cases hj; rfl
  | succ j => exact h j w hj
theorem c_fill {Y : ay_Y} {q n : Nat} {v : Int32} {f : Nat → Int32} (hn : n ≤ 100000) : ay_Sp Y 0 mJ7_fill_53178 [.ref q, .int v] [(q, .inl (Y.2.2.1, n, .inl f))] 0 0 (fun ws => ∃ f' : Nat → Int32, ws = [(q, .inl (Y.2.2.1, n, .inl f'))] ∧ ∀ i, i < n → f' i = v) := by
  refine ay_body (by decide +kernel) rfl (by simp [Value.category]) (Nat.le_of_ble_eq_true rfl) ?_
  show ay_Ev Y _ mJ7_fill_53178 _ _ _ _ 0 [some (.ref q), some (.int v), none, none] [] [(q, .inl (Y.2.2.1, n, .inl f))] 0 0
  refine ay_iconst (v := 0) dJ7_fill_53178_0 (by decide) ?_
  refine ay_istore dJ7_fill_53178_1 (by decide) (ay_c1r (ay_c1i (ay_c1n (ay_c1n ay_c1e)))) ?_
  show ay_Ev Y _ mJ7_fill_53178 _ _ _ _ 2 [some (.ref q), some (.int v), some (.int 0), none] [] [(q, .inl (Y.2.2.1, n, .inl f))] 0 0
  refine ay_aload dJ7_fill_53178_2 rfl ?_
  refine ay_alen dJ7_fill_53178_3 ?_
  refine ay_istore dJ7_fill_53178_4 (by decide) (ay_c1r (ay_c1i (ay_c1i (ay_c1n ay_c1e)))) ?_
  show ay_Ev Y _ mJ7_fill_53178 _ _ _ _ 5 [some (.ref q), some (.int v), some (.int (nI 0)), some (.int (nI n))] [] [(q, .inl (Y.2.2.1, n, .inl f))] 0 0
  refine az_up (fun i => ∀ f' : Nat → Int32, (∀ j, j < i → f' j = v) → ay_Ev Y (ay_rm 0 0 0) mJ7_fill_53178 [(q, .inl (Y.2.2.1, n, .inl f))] 0 0 (fun ws => ∃ f' : Nat → Int32, ws = [(q, .inl (Y.2.2.1, n, .inl f'))] ∧ ∀ i, i < n → f' i = v) 5 [some (.ref q), some (.int v), some (.int (nI i)), some (.int (nI n))] [] [(q, .inl (Y.2.2.1, n, .inl f'))] 0 0) n 0 (by omega) (fun i _ hi ih f' hf => ?_) (fun f' hf => ?_) f (fun j hj => absurd hj (by omega))
  · refine ay_iload dJ7_fill_53178_5 rfl ?_
    refine ay_iload dJ7_fill_53178_6 rfl ?_
    refine ay_icmpge (t := 20) dJ7_fill_53178_7 (by decide) (fun h => absurd h (nI_ge hi (by omega))) (fun _ => ?_)
    refine ay_aload dJ7_fill_53178_10 rfl ?_
    refine ay_iload dJ7_fill_53178_11 rfl ?_
    refine ay_iload dJ7_fill_53178_12 rfl ?_
    refine ay_iast dJ7_fill_53178_13 hi (by omega) rfl ?_
    refine ay_iinc (w := 1) dJ7_fill_53178_14 rfl (by decide) (by decide) (ay_c1r (ay_c1i (ay_c1i (ay_c1i ay_c1e)))) ?_
    refine ay_goto (t := 5) dJ7_fill_53178_17 (by decide) ?_
    show ay_Ev Y _ mJ7_fill_53178 _ _ _ _ 5 [some (.ref q), some (.int v), some (.int (nI i + 1)), some (.int (nI n))] [] _ 0 0
    rw [nI_1]
    refine ih _ (fun j hj => ?_)
    unfold upd
    by_cases e : j = i
    · rw [if_pos e]
    · rw [if_neg e]; exact hf j (by omega)
  · refine ay_iload dJ7_fill_53178_5 rfl ?_
    refine ay_iload dJ7_fill_53178_6 rfl ?_
    refine ay_icmpge (t := 20) dJ7_fill_53178_7 (by decide) (fun _ => ?_) (fun h => absurd (Int32.le_refl _) h)
    exact ay_vret dJ7_fill_53178_20 rfl rfl ⟨f', rfl, hf⟩
def zNet0 (mem : az_M) (b : Nat) : Prop := (∀ j, mem b j = if j = 0 then 1 else 0) ∧ (∀ i, i < 256 → mem (b + 1) i = 0) ∧ (∀ i, i < 16 → mem (b + 2) i = 0) ∧ (∀ i, i < 16 → mem (b + 3) i = 1) ∧ ∀ i, i < 16 → mem (b + 4) i = 1
theorem c_X2_init {Y : ay_Y} {h0 b : Nat} (hb : zc_net b) : ay_Sp Y 1 mX2_init [.ref h0] [(h0, .inr (2, dvX2))] 5 320 (fun ws => ∃ (ad : Nat → Nat) (mem : az_M), ws = ay_bl Y ad mem b 6 ∧ ad b = h0 ∧ zNet0 mem b) := by
  refine ay_body (by decide +kernel) rfl (by simp [Value.category]) (Nat.le_of_ble_eq_true rfl) ?_
  show ay_Ev Y _ mX2_init _ _ _ _ 0 [some (.ref h0)] [] [(h0, .inr (2, dvX2))] 0 0
  refine ay_aload dX2_init_0 rfl ?_
  refine ay_objInit dX2_init_1 oiX2_3 oi_i oi_c (by decide) (by decide) ?_
  refine ay_aload dX2_init_4 rfl ?_
  refine ay_iconst (v := 1) dX2_init_5 (by decide) ?_
  refine ay_put dX2_init_6 plX2_9 rfl rfl (Nat.le_of_ble_eq_true rfl) ?_
  refine ay_aload dX2_init_9 rfl ?_
  refine ay_iconst (v := 0) dX2_init_10 (by decide) ?_
  refine ay_put dX2_init_11 plX2_15 rfl rfl (Nat.le_of_ble_eq_true rfl) ?_
  refine ay_aload dX2_init_14 rfl ?_
  refine ay_iconst (v := 0) dX2_init_15 (by decide) ?_
  refine ay_put dX2_init_16 plX2_18 rfl rfl (Nat.le_of_ble_eq_true rfl) ?_
  refine ay_aload dX2_init_19 rfl ?_
  refine ay_iconst (v := 0) dX2_init_20 (by decide) ?_
  refine ay_put dX2_init_21 plX2_21 rfl rfl (Nat.le_of_ble_eq_true rfl) ?_
  refine ay_aload dX2_init_24 rfl ?_
  refine ay_iconst (v := 0) dX2_init_25 (by decide) ?_
  refine ay_put dX2_init_26 plX2_24 rfl rfl (Nat.le_of_ble_eq_true rfl) ?_
  refine ay_aload dX2_init_29 rfl ?_
  refine ay_iconst (v := 0) dX2_init_30 (by decide) ?_
  refine ay_put dX2_init_31 plX2_28 rfl rfl (Nat.le_of_ble_eq_true rfl) ?_
  refine ay_aload dX2_init_34 rfl ?_
  refine ay_iconst (v := 0) dX2_init_35 (by decide) ?_
  refine ay_put dX2_init_36 plX2_31 rfl rfl (Nat.le_of_ble_eq_true rfl) ?_
  refine ay_aload dX2_init_39 rfl ?_
  refine ay_sipush (v := 256) dX2_init_40 (by decide) ?_
  refine ay_newa1 (n := 256) dX2_init_43 ac_int rfl (by decide) (by decide) (by decide) (fun q1 => ?_)
  refine ay_putF dX2_init_45 ffX2_34 rfl (Nat.le_of_ble_eq_true rfl) ?_
  refine ay_aload dX2_init_48 rfl ?_
  refine ay_bipush (v := 16) dX2_init_49 (by decide) ?_
  refine ay_newa1 (n := 16) dX2_init_51 ac_int rfl (by decide) (by decide) (by decide) (fun q2 => ?_)
  refine ay_putF dX2_init_53 ffX2_38 rfl (Nat.le_of_ble_eq_true rfl) ?_
  refine ay_aload dX2_init_56 rfl ?_
  refine ay_bipush (v := 16) dX2_init_57 (by decide) ?_
  refine ay_newa1 (n := 16) dX2_init_59 ac_int rfl (by decide) (by decide) (by decide) (fun q3 => ?_)
  refine ay_putF dX2_init_61 ffX2_41 rfl (Nat.le_of_ble_eq_true rfl) ?_
  refine ay_aload dX2_init_64 rfl ?_
  refine ay_bipush (v := 16) dX2_init_65 (by decide) ?_
  refine ay_newa1 (n := 16) dX2_init_67 ac_int rfl (by decide) (by decide) (by decide) (fun q4 => ?_)
  refine ay_putF dX2_init_69 ffX2_44 rfl (Nat.le_of_ble_eq_true rfl) ?_
  refine ay_aload dX2_init_72 rfl ?_
  refine ay_bipush (v := 16) dX2_init_73 (by decide) ?_
  refine ay_newa1 (n := 16) dX2_init_75 ac_int rfl (by decide) (by decide) (by decide) (fun q5 => ?_)
  refine ay_putF dX2_init_77 ffX2_47 rfl (Nat.le_of_ble_eq_true rfl) ?_
  refine ay_aload dX2_init_80 rfl ?_
  refine ay_getr dX2_init_81 flX2_41 (v := .ref q3) rfl ?_
  refine ay_iconst (v := 1) dX2_init_84 (by decide) ?_
  refine ay_sub (ws' := ([(h0, .inr (2, [.int 1, .int 0, .int 0, .int 0, .int 0, .int 0, .int 0, .ref q1, .ref q2, .ref q3, .ref q4, .ref q5])), (q1, .inl (Y.2.2.1, 256, .inl (fun _ => 0))), (q2, .inl (Y.2.2.1, 16, .inl (fun _ => 0))), (q4, .inl (Y.2.2.1, 16, .inl (fun _ => 0))), (q5, .inl (Y.2.2.1, 16, .inl (fun _ => 0)))] ++ [(q3, .inl (Y.2.2.1, 16, .inl (fun _ => 0)))] : va_W)) [0, 1, 2, 4, 5, 3] rfl rfl rfl ?_
  refine ay_callS (N := mJ7_fill_53178) (f := 0) [.ref q3, .int 1] (st := []) dX2_init_85 lsX2_50 okJ7_fill_53178 rfl (c_fill (by decide)) (by decide) (by decide) (by decide) (by decide) (by decide) (fun w1 hw1 => ?_)
  obtain ⟨f3, rfl, hf3⟩ := hw1
  show ay_Ev Y _ mX2_init _ _ _ _ 88 [some (.ref h0)] [] ((h0, .inr (2, [.int 1, .int 0, .int 0, .int 0, .int 0, .int 0, .int 0, .ref q1, .ref q2, .ref q3, .ref q4, .ref q5])) :: [(q1, .inl (Y.2.2.1, 256, .inl (fun _ => 0))), (q2, .inl (Y.2.2.1, 16, .inl (fun _ => 0))), (q4, .inl (Y.2.2.1, 16, .inl (fun _ => 0))), (q5, .inl (Y.2.2.1, 16, .inl (fun _ => 0))), (q3, .inl (Y.2.2.1, 16, .inl f3))]) 5 320
  refine ay_aload dX2_init_88 rfl ?_
  refine ay_getr dX2_init_89 flX2_44 (v := .ref q4) rfl ?_
  refine ay_iconst (v := 1) dX2_init_92 (by decide) ?_
  refine ay_sub (ws' := ([(h0, .inr (2, [.int 1, .int 0, .int 0, .int 0, .int 0, .int 0, .int 0, .ref q1, .ref q2, .ref q3, .ref q4, .ref q5])), (q1, .inl (Y.2.2.1, 256, .inl (fun _ => 0))), (q2, .inl (Y.2.2.1, 16, .inl (fun _ => 0))), (q5, .inl (Y.2.2.1, 16, .inl (fun _ => 0))), (q3, .inl (Y.2.2.1, 16, .inl f3))] ++ [(q4, .inl (Y.2.2.1, 16, .inl (fun _ => 0)))] : va_W)) [0, 1, 2, 4, 5, 3] rfl rfl rfl ?_
  refine ay_callS (N := mJ7_fill_53178) (f := 0) [.ref q4, .int 1] (st := []) dX2_init_93 lsX2_50 okJ7_fill_53178 rfl (c_fill (by decide)) (by decide) (by decide) (by decide) (by decide) (by decide) (fun w1 hw1 => ?_)
  obtain ⟨f4, rfl, hf4⟩ := hw1
  refine ay_sub (ws' := [(h0, .inr (2, [.int 1, .int 0, .int 0, .int 0, .int 0, .int 0, .int 0, .ref q1, .ref q2, .ref q3, .ref q4, .ref q5])), (q1, .inl (Y.2.2.1, 256, .inl (fun _ => 0))), (q2, .inl (Y.2.2.1, 16, .inl (fun _ => 0))), (q3, .inl (Y.2.2.1, 16, .inl f3)), (q4, .inl (Y.2.2.1, 16, .inl f4)), (q5, .inl (Y.2.2.1, 16, .inl (fun _ => 0)))]) [0, 1, 2, 4, 5, 3] rfl rfl rfl ?_
  refine ay_vret dX2_init_96 rfl rfl ?_
  obtain ⟨ad, a0, a1, a2, a3, a4, a5⟩ : ∃ ad : Nat → Nat, ad b = h0 ∧ ad (b + 1) = q1 ∧ ad (b + 2) = q2 ∧ ad (b + 3) = q3 ∧ ad (b + 4) = q4 ∧ ad (b + 5) = q5 := ⟨fun k => if k = b + 1 then q1 else if k = b + 2 then q2 else if k = b + 3 then q3 else if k = b + 4 then q4 else if k = b + 5 then q5 else h0, by simp, by simp, by simp, by simp, by simp, by simp⟩
  obtain ⟨mem, m0, m1, m2, m3, m4, m5⟩ : ∃ mem : az_M, (∀ j, mem b j = if j = 0 then 1 else 0) ∧ mem (b + 1) = (fun _ => 0) ∧ mem (b + 2) = (fun _ => 0) ∧ mem (b + 3) = f3 ∧ mem (b + 4) = f4 ∧ mem (b + 5) = (fun _ => 0) := ⟨fun k j => if k = b then (if j = 0 then 1 else 0) else if k = b + 3 then f3 j else if k = b + 4 then f4 j else 0, by simp, by funext j; simp, by funext j; simp, by funext j; simp, by funext j; simp, by funext j; simp⟩
  refine ⟨ad, mem, ?_, a0, m0, fun i _ => by rw [m1], fun i _ => by rw [m2], fun i hi => by rw [m3]; exact hf3 i hi, fun i hi => by rw [m4]; exact hf4 i hi⟩
  have efl : az_fl (Y.1, Y.2.1, Y.2.2, ad) (az_net b) (mem b) = [.int (mem b 0), .int (mem b 1), .int (mem b 2), .int (mem b 3), .int (mem b 4), .int (mem b 5), .int (mem b 6), .ref (ad (b + 1)), .ref (ad (b + 2)), .ref (ad (b + 3)), .ref (ad (b + 4)), .ref (ad (b + 5))] := rfl
  rw [ay_bl_6, Nat.add_zero, az_ce_ob hb.1, az_ce_ar hb.2.1, az_ce_ar hb.2.2.1, az_ce_ar hb.2.2.2.1, az_ce_ar hb.2.2.2.2.1, az_ce_ar hb.2.2.2.2.2, efl, a0, a1, a2, a3, a4, a5, m1, m2, m3, m4, m5]
  simp only [m0]
  rfl
section AY3
variable {Y : ay_Y} {R : Room} {M : az_Me} {w0 : va_W} {mc ms : Nat} {Q : va_W → Prop} {pc : Nat} {L : List (Option Value)} {st : List Value} {ws : va_W} {cells slots : Nat}
theorem ay_new1 {idx ci : Nat} {fs : List Value} {y : Nat × va_E} {tl : va_W} (hd : decode M.2.1 pc = .ok (.new idx, 3)) (hn : ay_NW M.1.cls idx ci fs) (hc : cells + 1 ≤ R.cells) (hs : slots + fs.length ≤ R.slots) (k : ∀ q, ay_Ev Y R M w0 mc ms Q (pc + 3) L (.ref q :: st) (y :: (tl ++ [(q, .inr (ci, fs))])) (cells + 1) (slots + fs.length)) : ay_Ev Y R M w0 mc ms Q pc L st (y :: tl) cells slots := ay_new hd hn hc hs k
theorem ay_call1 {idx q f mcc msc : Nat} {N : az_Me} {y : Nat × va_E} {V wc : va_W} {Qc : va_W → Prop} (hd : decode M.2.1 pc = .ok (.invokespecial idx, 3)) (hk : az_Lk M.1.cls idx N.1) (hN : ay_OI N) (hs : ay_Sp Y f N [.ref q] wc mcc msc Qc) (hr : st.length ≤ 4) (hcat : (st.map fun v => v.category).sum ≤ 8) (hRf : f + 1 ≤ R.frames) (hRl : 59 + 64 * f ≤ R.locals) (hc : cells + mcc ≤ R.cells) (hsl : slots + msc ≤ R.slots) (k : ∀ w1, Qc w1 → ay_Ev Y R M w0 mc ms Q (pc + 3) L st (y :: (V ++ w1)) (cells + mcc) (slots + msc)) : ay_Ev Y R M w0 mc ms Q pc L (.ref q :: st) (y :: (V ++ wc)) cells slots := ay_call (V := y :: V) hd hk hN hs hr hcat hRf hRl hc hsl k
/-- a reference into the row at the world's second place -/
theorem ay_astq {a i n v qk : Nat} {x : Int32} {y : Nat × va_E} {vs : List Value} {f : Nat → Option Nat} {tl : va_W} (hd : decode M.2.1 pc = .ok (.aastore, 1)) (hi : i < n) (hn : n < 2 ^ 31) (hxi : x = nI i) (hv : (y :: (a, .inl (Y.2.2.2, n, .inr (.inr (.inr (.inr f))))) :: tl : va_W)[qk]? = some (v, .inr (2, vs))) (k : ay_Ev Y R M w0 mc ms Q (pc + 1) L st (y :: (a, .inl (Y.2.2.2, n, .inr (.inr (.inr (.inr (va_up f i (some v))))))) :: tl) cells slots) : ay_Ev Y R M w0 mc ms Q pc L (.ref v :: .int x :: .ref a :: st) (y :: (a, .inl (Y.2.2.2, n, .inr (.inr (.inr (.inr f))))) :: tl) cells slots := by
  intro p e s m args below meth c H locs ls hx hb hml hown hr hlk hnm hts hnw hK hP hD hS hL
  subst hxi
  refine va_astq (r := (RX2, TX2, 12)) hx hb hK hP hD hS 1 1 qk 2 rfl rfl hv rfl (vp_in_nI hi hn) hd (fun H1 locs1 h1 h2 h3 => ?_)
  rw [nI_clamp (by omega)] at h1 h2
  exact k p e s m args below meth c H1 locs1 ls hx hb hml hown hr hlk hnm hts hnw hK h1 h2 h3 hL
end AY3
theorem zNet0_cg {m m' : az_M} {b : Nat} (h : ∀ q, q < 5 → m' (b + q) = m (b + q)) (hz : zNet0 m b) : zNet0 m' b := by
  obtain ⟨z1, z2, z3, z4, z5⟩ := hz
  have h0 := h 0 (by omega)
  rw [Nat.add_zero] at h0
  refine ⟨fun k => ?_, fun k hk => ?_, fun k hk => ?_, fun k hk => ?_, fun k hk => ?_⟩
  · rw [h0]; exact z1 k
  · rw [h 1 (by omega)]; exact z2 k hk
  · rw [h 2 (by omega)]; exact z3 k hk
  · rw [h 3 (by omega)]; exact z4 k hk
  · rw [h 4 (by omega)]; exact z5 k hk
def zPast0 (mem : az_M) : Prop := (∀ j, mem 7 j = 0) ∧ ∀ i, i < 60 → zNet0 mem (9 + 6 * i)
theorem ay_past_at (j : Nat) : az_past[j]? = if j < 60 then some (9 + 6 * j) else none := by
  by_cases h : j < 60
  · rw [if_pos h]; exact zc_past_at h
  · rw [if_neg h]; exact List.getElem?_eq_none (by simp [az_past]; omega)
theorem c_X3_init {Y : ay_Y} {h0 : Nat} : ay_Sp Y 2 mX3_init [.ref h0] [(h0, .inr (3, dvX3))] 361 19980 (fun ws => ∃ (ad : Nat → Nat) (mem : az_M), ws = ay_bl Y ad mem 7 362 ∧ ad 7 = h0 ∧ zPast0 mem) := by
  refine ay_body (by decide +kernel) rfl (by simp [Value.category]) (Nat.le_of_ble_eq_true rfl) ?_
  show ay_Ev Y _ mX3_init _ _ _ _ 0 [some (.ref h0), none] [] [(h0, .inr (3, dvX3))] 0 0
  refine ay_aload dX3_init_0 rfl ?_
  refine ay_objInit dX3_init_1 oiX3_3 oi_i oi_c (by decide) (by decide) ?_
  refine ay_aload dX3_init_4 rfl ?_
  refine ay_bipush (v := 60) dX3_init_5 (by decide) ?_
  refine ay_newq (n := 60) dX3_init_7 clX3_9 rfl (by decide) (by decide) (by decide) (fun q8 => ?_)
  show ay_Ev Y _ mX3_init _ _ _ _ 10 [some (.ref h0), none] [.ref q8, .ref h0] [(h0, .inr (3, dvX3)), (q8, .inl (Y.2.2.2, 60, .inr (.inr (.inr (.inr (fun _ => none))))))] 1 60
  refine ay_putF dX3_init_10 ffX3_11 rfl (Nat.le_of_ble_eq_true rfl) ?_
  refine ay_aload dX3_init_13 rfl ?_
  refine ay_iconst (v := 0) dX3_init_14 (by decide) ?_
  refine ay_put dX3_init_15 plX3_17 rfl rfl (Nat.le_of_ble_eq_true rfl) ?_
  refine ay_aload dX3_init_18 rfl ?_
  refine ay_iconst (v := 0) dX3_init_19 (by decide) ?_
  refine ay_put dX3_init_20 plX3_21 rfl rfl (Nat.le_of_ble_eq_true rfl) ?_
  refine ay_iconst (v := 0) dX3_init_23 (by decide) ?_
  refine ay_istore dX3_init_24 (by decide) (ay_c1r (ay_c1n ay_c1e)) ?_
  show ay_Ev Y _ mX3_init _ _ _ _ 25 [some (.ref h0), some (.int (nI 0))] [] ((h0, .inr (3, [.ref q8, .int 0, .int 0])) :: (q8, .inl (Y.2.2.2, 60, .inr (.inr (.inr (.inr (fun _ => none)))))) :: ay_bl Y (fun _ => 0) (fun _ _ => 0) 9 (6 * 0)) (1 + 6 * 0) (60 + 332 * 0)
  refine az_up (fun i => ∀ (ad : Nat → Nat) (mem : az_M) (fn : Nat → Option Nat), (∀ j, fn j = if j < i then some (ad (9 + 6 * j)) else none) → (∀ j, j < i → zNet0 mem (9 + 6 * j)) → ay_Ev Y (ay_rm 2 361 19980) mX3_init [(h0, .inr (3, dvX3))] 361 19980 (fun ws => ∃ (ad : Nat → Nat) (mem : az_M), ws = ay_bl Y ad mem 7 362 ∧ ad 7 = h0 ∧ zPast0 mem) 25 [some (.ref h0), some (.int (nI i))] [] ((h0, .inr (3, [.ref q8, .int 0, .int 0])) :: (q8, .inl (Y.2.2.2, 60, .inr (.inr (.inr (.inr fn))))) :: ay_bl Y ad mem 9 (6 * i)) (1 + 6 * i) (60 + 332 * i)) 60 0 (by omega) (fun i _ hi ih ad mem fn hfn hz => ?_) (fun ad mem fn hfn hz => ?_) (fun _ => 0) (fun _ _ => 0) (fun _ => none) (fun j => by rw [if_neg (by omega)]) (fun j hj => absurd hj (by omega))
  · refine ay_iload dX3_init_25 rfl ?_
    refine ay_bipush (v := 60) dX3_init_26 (by decide) ?_
    refine ay_icmpge (t := 50) dX3_init_28 (by decide) (fun h => absurd h (nI_ge (b := 60) hi (by decide))) (fun _ => ?_)
    refine ay_aload dX3_init_31 rfl ?_
    refine ay_getr dX3_init_32 flX3_11 (v := .ref q8) rfl ?_
    refine ay_iload dX3_init_35 rfl ?_
    refine ay_new1 dX3_init_36 nwX3_9 (by show 1 + 6 * i + 1 ≤ 361; omega) (by show 60 + 332 * i + 12 ≤ 19980; omega) (fun q => ?_)
    refine ay_dup dX3_init_39 ?_
    refine ay_call1 (N := mX2_init) (V := (q8, .inl (Y.2.2.2, 60, .inr (.inr (.inr (.inr fn))))) :: ay_bl Y ad mem 9 (6 * i)) dX3_init_40 lkX3_24 okX2_init (c_X2_init (zc_net_p hi)) (Nat.le_of_ble_eq_true rfl) (Nat.le_of_ble_eq_true rfl) (by decide) (by decide) (by show 1 + 6 * i + 1 + 5 ≤ 361; omega) (by show 60 + 332 * i + 12 + 320 ≤ 19980; omega) (fun w1 hw1 => ?_)
    obtain ⟨ad1, mem1, rfl, had1, hz1⟩ := hw1
    have hlen := ay_bl_len (Y := Y) (ad := ad) (mem := mem) (b := 9) (n := 6 * i)
    have hob : az_Ob (9 + 6 * i) 2 (az_net (9 + 6 * i)) := (zc_net_p hi).1
    refine ay_astq (i := i) (qk := 6 * i + 2) (vs := az_fl (Y.1, Y.2.1, Y.2.2, ad1) (az_net (9 + 6 * i)) (mem1 (9 + 6 * i))) (tl := ay_bl Y ad mem 9 (6 * i) ++ ay_bl Y ad1 mem1 (9 + 6 * i) 6) dX3_init_43 hi (by decide) rfl ?_ ?_
    · show (ay_bl Y ad mem 9 (6 * i) ++ ay_bl Y ad1 mem1 (9 + 6 * i) 6)[6 * i]? = _
      rw [List.getElem?_append_right (by omega), hlen, Nat.sub_self, ay_bl_6, Nat.add_zero, az_ce_ob hob, had1]
      rfl
    · refine ay_iinc (w := 1) dX3_init_44 rfl (by decide) (by decide) (ay_c1r (ay_c1i ay_c1e)) ?_
      refine ay_goto (t := 25) dX3_init_47 (by decide) ?_
      rw [ay_bl_glue (fun x h1 h2 r hr => by
        have := az_rf_net x (by omega) h1 r hr
        omega) (fun x h1 h2 r hr => by
        have := az_rf_net x (by omega) (by omega) r hr
        omega)]
      have := ih (fun x => if x < 9 + 6 * i then ad x else ad1 x) (fun x => if x < 9 + 6 * i then mem x else mem1 x) (va_up fn i (some q)) (fun j => by
        unfold va_up
        by_cases e : j = i
        · rw [if_pos e, if_pos (by omega), e, if_neg (by omega), had1]
        · rw [if_neg e, hfn j]
          by_cases g : j < i
          · rw [if_pos g, if_pos (by omega), if_pos (by omega)]
          · rw [if_neg g, if_neg (by omega)]) (fun j hj => by
        by_cases e : j = i
        · subst e
          exact zNet0_cg (fun k hk => if_neg (by omega)) hz1
        · exact zNet0_cg (fun k hk => if_pos (by omega)) (hz j (by omega)))
      rw [show 1 + 6 * (i + 1) = 1 + 6 * i + 1 + 5 by omega, show 60 + 332 * (i + 1) = 60 + 332 * i + 12 + 320 by omega, show 6 * (i + 1) = 6 * i + 6 by omega, ← nI_1] at this
      exact this
  · refine ay_iload dX3_init_25 rfl ?_
    refine ay_bipush (v := 60) dX3_init_26 (by decide) ?_
    refine ay_icmpge (t := 50) dX3_init_28 (by decide) (fun _ => ?_) (fun h => absurd (Int32.le_refl _) h)
    refine ay_vret dX3_init_50 rfl rfl ⟨fun x => if x = 7 then h0 else if x = 8 then q8 else ad x, fun x => if x = 7 then (fun _ => 0) else mem x, ?_, rfl, fun j => rfl, fun i hi => ?_⟩
    · rw [show (362 : Nat) = 2 + 360 from rfl, ay_bl_app, ay_bl_2, Nat.add_zero, az_ce_ob sh_7]
      have e8 : az_ce (Y.1, Y.2.1, Y.2.2, fun x => if x = 7 then h0 else if x = 8 then q8 else ad x) (7 + 1) ((fun x => if x = 7 then (fun _ => 0) else mem x : az_M) (7 + 1)) = .inl (Y.2.2.2, 60, .inr (.inr (.inr (.inr fn)))) := by
        unfold az_ce
        rw [sh_8.2]
        have efn : (fun i => (az_past[i]?).map (fun x => if x = 7 then h0 else if x = 8 then q8 else ad x)) = fn := by
          funext j
          rw [ay_past_at, hfn j]
          by_cases g : j < 60
          · rw [if_pos g, if_pos g]
            show some (if 9 + 6 * j = 7 then h0 else if 9 + 6 * j = 8 then q8 else ad (9 + 6 * j)) = _
            rw [if_neg (by omega), if_neg (by omega)]
          · rw [if_neg g, if_neg g]; rfl
        show Sum.inl (Y.2.2.2, az_past.length, Sum.inr (Sum.inr (Sum.inr (Sum.inr (fun i => (az_past[i]?).map (fun x => if x = 7 then h0 else if x = 8 then q8 else ad x)))))) = _
        rw [efn]
        rfl
      rw [e8]
      have etl : ay_bl Y ad mem 9 (6 * 60) = ay_bl Y (fun x => if x = 7 then h0 else if x = 8 then q8 else ad x) (fun x => if x = 7 then (fun _ => 0) else mem x) (7 + 2) 360 := ay_bl_congr (fun k h1 h2 => by rw [if_neg (by omega), if_neg (by omega)]) (fun k h1 h2 => by rw [if_neg (by omega)]) (fun k h1 h2 r hr => by
        have := az_rf_net k (by omega) h1 r hr
        rw [if_neg (by omega), if_neg (by omega)])
      rw [etl]
      rfl
    · exact zNet0_cg (fun k hk => if_neg (by omega)) (hz i hi)

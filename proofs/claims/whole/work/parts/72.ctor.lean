/-! blocks of the world, as constructors leave them -/
def ay_bl (Y : ay_Y) (ad : Nat → Nat) (mem : az_M) (b n : Nat) : va_W := (List.range n).map (fun k => (ad (b + k), az_ce (Y.1, Y.2.1, Y.2.2, ad) (b + k) (mem (b + k))))
theorem ay_bl_2 {Y : ay_Y} {ad : Nat → Nat} {mem : az_M} {b : Nat} : ay_bl Y ad mem b 2 = [(ad (b + 0), az_ce (Y.1, Y.2.1, Y.2.2, ad) (b + 0) (mem (b + 0))), (ad (b + 1), az_ce (Y.1, Y.2.1, Y.2.2, ad) (b + 1) (mem (b + 1)))] := rfl
theorem ay_bl_3 {Y : ay_Y} {ad : Nat → Nat} {mem : az_M} {b : Nat} : ay_bl Y ad mem b 3 = [(ad (b + 0), az_ce (Y.1, Y.2.1, Y.2.2, ad) (b + 0) (mem (b + 0))), (ad (b + 1), az_ce (Y.1, Y.2.1, Y.2.2, ad) (b + 1) (mem (b + 1))), (ad (b + 2), az_ce (Y.1, Y.2.1, Y.2.2, ad) (b + 2) (mem (b + 2)))] := rfl
theorem ay_bl_6 {Y : ay_Y} {ad : Nat → Nat} {mem : az_M} {b : Nat} : ay_bl Y ad mem b 6 = [(ad (b + 0), az_ce (Y.1, Y.2.1, Y.2.2, ad) (b + 0) (mem (b + 0))), (ad (b + 1), az_ce (Y.1, Y.2.1, Y.2.2, ad) (b + 1) (mem (b + 1))), (ad (b + 2), az_ce (Y.1, Y.2.1, Y.2.2, ad) (b + 2) (mem (b + 2))), (ad (b + 3), az_ce (Y.1, Y.2.1, Y.2.2, ad) (b + 3) (mem (b + 3))), (ad (b + 4), az_ce (Y.1, Y.2.1, Y.2.2, ad) (b + 4) (mem (b + 4))), (ad (b + 5), az_ce (Y.1, Y.2.1, Y.2.2, ad) (b + 5) (mem (b + 5)))] := rfl
theorem ay_bl_8 {Y : ay_Y} {ad : Nat → Nat} {mem : az_M} {b : Nat} : ay_bl Y ad mem b 8 = [(ad (b + 0), az_ce (Y.1, Y.2.1, Y.2.2, ad) (b + 0) (mem (b + 0))), (ad (b + 1), az_ce (Y.1, Y.2.1, Y.2.2, ad) (b + 1) (mem (b + 1))), (ad (b + 2), az_ce (Y.1, Y.2.1, Y.2.2, ad) (b + 2) (mem (b + 2))), (ad (b + 3), az_ce (Y.1, Y.2.1, Y.2.2, ad) (b + 3) (mem (b + 3))), (ad (b + 4), az_ce (Y.1, Y.2.1, Y.2.2, ad) (b + 4) (mem (b + 4))), (ad (b + 5), az_ce (Y.1, Y.2.1, Y.2.2, ad) (b + 5) (mem (b + 5))), (ad (b + 6), az_ce (Y.1, Y.2.1, Y.2.2, ad) (b + 6) (mem (b + 6))), (ad (b + 7), az_ce (Y.1, Y.2.1, Y.2.2, ad) (b + 7) (mem (b + 7)))] := rfl
theorem ay_bl_13 {Y : ay_Y} {ad : Nat → Nat} {mem : az_M} {b : Nat} : ay_bl Y ad mem b 13 = [(ad (b + 0), az_ce (Y.1, Y.2.1, Y.2.2, ad) (b + 0) (mem (b + 0))), (ad (b + 1), az_ce (Y.1, Y.2.1, Y.2.2, ad) (b + 1) (mem (b + 1))), (ad (b + 2), az_ce (Y.1, Y.2.1, Y.2.2, ad) (b + 2) (mem (b + 2))), (ad (b + 3), az_ce (Y.1, Y.2.1, Y.2.2, ad) (b + 3) (mem (b + 3))), (ad (b + 4), az_ce (Y.1, Y.2.1, Y.2.2, ad) (b + 4) (mem (b + 4))), (ad (b + 5), az_ce (Y.1, Y.2.1, Y.2.2, ad) (b + 5) (mem (b + 5))), (ad (b + 6), az_ce (Y.1, Y.2.1, Y.2.2, ad) (b + 6) (mem (b + 6))), (ad (b + 7), az_ce (Y.1, Y.2.1, Y.2.2, ad) (b + 7) (mem (b + 7))), (ad (b + 8), az_ce (Y.1, Y.2.1, Y.2.2, ad) (b + 8) (mem (b + 8))), (ad (b + 9), az_ce (Y.1, Y.2.1, Y.2.2, ad) (b + 9) (mem (b + 9))), (ad (b + 10), az_ce (Y.1, Y.2.1, Y.2.2, ad) (b + 10) (mem (b + 10))), (ad (b + 11), az_ce (Y.1, Y.2.1, Y.2.2, ad) (b + 11) (mem (b + 11))), (ad (b + 12), az_ce (Y.1, Y.2.1, Y.2.2, ad) (b + 12) (mem (b + 12)))] := rfl
section AY2
variable {Y : ay_Y} {R : Room} {M : az_Me} {w0 : va_W} {mc ms : Nat} {Q : va_W → Prop} {pc : Nat} {L : List (Option Value)} {st : List Value} {ws : va_W} {cells slots : Nat}
theorem ay_newa1 {n : Nat} {x : Int32} {y : Nat × va_E} {tl : va_W} (hd : decode M.2.1 pc = .ok (.newarray .int, 2)) (hw : Cond.arrayClass .int ∈ az_tb) (hxn : x = nI n) (hn : n ≤ 100000) (hc : cells + 1 ≤ R.cells) (hs : slots + n ≤ R.slots) (k : ∀ q, ay_Ev Y R M w0 mc ms Q (pc + 2) L (.ref q :: st) (y :: (tl ++ [(q, .inl (Y.2.2.1, n, .inl (fun _ => 0)))])) (cells + 1) (slots + n)) : ay_Ev Y R M w0 mc ms Q pc L (.int x :: st) (y :: tl) cells slots := ay_newa hd hw hxn hn hc hs k
theorem ay_sub (is : List Nat) {ws' : va_W} (h1 : is.filterMap (fun i => ws[i]?) = ws') (h2 : va_nd is = true) (h3 : is.map (fun i => ws[i]?) = ws'.map some) (k : ay_Ev Y R M w0 mc ms Q pc L st ws' cells slots) : ay_Ev Y R M w0 mc ms Q pc L st ws cells slots := by
  intro p e s m args below meth c H locs ls hx hb hml hown hr hlk hnm hts hnw hK hP hD hS hL
  exact k p e s m args below meth c H locs ls hx hb hml hown hr hlk hnm hts hnw hK (hP.sub is h1) (hD.sub is h2 h3) hS hL
end AY2
/-! by program: the small constructors -/
theorem c_X0_init {Y : ay_Y} {h0 : Nat} : ay_Sp Y 1 mX0_init [.ref h0] [(h0, .inr (0, dvX0))] 5 4392 (fun ws => ∃ (ad : Nat → Nat) (mem : az_M), ws = ay_bl Y ad mem 382 6 ∧ ad 382 = h0) := by
  refine ay_body (by decide +kernel) rfl (by simp [Value.category]) (Nat.le_of_ble_eq_true rfl) ?_
  show ay_Ev Y _ mX0_init _ _ _ _ 0 [some (.ref h0)] [] [(h0, .inr (0, dvX0))] 0 0
  refine ay_aload dX0_init_0 rfl ?_
  refine ay_objInit dX0_init_1 oiX0_3 oi_i oi_c (by decide) (by decide) ?_
  refine ay_aload dX0_init_4 rfl ?_
  refine ay_sipush (v := 4096) dX0_init_5 (by decide) ?_
  refine ay_newa1 (n := 4096) dX0_init_8 ac_int rfl (by decide) (by decide) (by decide) (fun q1 => ?_)
  refine ay_putF dX0_init_10 ffX0_9 rfl (Nat.le_of_ble_eq_true rfl) ?_
  refine ay_aload dX0_init_13 rfl ?_
  refine ay_bipush (v := 12) dX0_init_14 (by decide) ?_
  refine ay_newa1 (n := 12) dX0_init_16 ac_int rfl (by decide) (by decide) (by decide) (fun q2 => ?_)
  refine ay_putF dX0_init_18 ffX0_15 rfl (Nat.le_of_ble_eq_true rfl) ?_
  refine ay_aload dX0_init_21 rfl ?_
  refine ay_bipush (v := 12) dX0_init_22 (by decide) ?_
  refine ay_newa1 (n := 12) dX0_init_24 ac_int rfl (by decide) (by decide) (by decide) (fun q3 => ?_)
  refine ay_putF dX0_init_26 ffX0_18 rfl (Nat.le_of_ble_eq_true rfl) ?_
  refine ay_aload dX0_init_29 rfl ?_
  refine ay_iconst (v := 0) dX0_init_30 (by decide) ?_
  refine ay_put dX0_init_31 plX0_21 rfl rfl (Nat.le_of_ble_eq_true rfl) ?_
  refine ay_aload dX0_init_34 rfl ?_
  refine ay_iconst (v := 0) dX0_init_35 (by decide) ?_
  refine ay_put dX0_init_36 plX0_25 rfl rfl (Nat.le_of_ble_eq_true rfl) ?_
  refine ay_aload dX0_init_39 rfl ?_
  refine ay_iconst (v := 0) dX0_init_40 (by decide) ?_
  refine ay_put dX0_init_41 plX0_28 rfl rfl (Nat.le_of_ble_eq_true rfl) ?_
  refine ay_aload dX0_init_44 rfl ?_
  refine ay_sipush (v := 256) dX0_init_45 (by decide) ?_
  refine ay_newa1 (n := 256) dX0_init_48 ac_int rfl (by decide) (by decide) (by decide) (fun q4 => ?_)
  refine ay_putF dX0_init_50 ffX0_32 rfl (Nat.le_of_ble_eq_true rfl) ?_
  refine ay_aload dX0_init_53 rfl ?_
  refine ay_bipush (v := 16) dX0_init_54 (by decide) ?_
  refine ay_newa1 (n := 16) dX0_init_56 ac_int rfl (by decide) (by decide) (by decide) (fun q5 => ?_)
  refine ay_putF dX0_init_58 ffX0_35 rfl (Nat.le_of_ble_eq_true rfl) ?_
  refine ay_vret dX0_init_61 rfl rfl ⟨fun k => if k = 383 then q1 else if k = 384 then q2 else if k = 385 then q3 else if k = 386 then q4 else if k = 387 then q5 else h0, fun _ _ => 0, ?_, rfl⟩
  rw [ay_bl_6, az_ce_ob sh_382, az_ce_ar sh_383, az_ce_ar sh_384, az_ce_ar sh_385, az_ce_ar sh_386, az_ce_ar sh_387]
  rfl
theorem c_X1_init {Y : ay_Y} {h0 : Nat} : ay_Sp Y 1 mX1_init [.ref h0] [(h0, .inr (1, dvX1))] 2 272 (fun ws => ∃ (ad : Nat → Nat) (mem : az_M), ws = ay_bl Y ad mem 379 3 ∧ ad 379 = h0) := by
  refine ay_body (by decide +kernel) rfl (by simp [Value.category]) (Nat.le_of_ble_eq_true rfl) ?_
  show ay_Ev Y _ mX1_init _ _ _ _ 0 [some (.ref h0)] [] [(h0, .inr (1, dvX1))] 0 0
  refine ay_aload dX1_init_0 rfl ?_
  refine ay_objInit dX1_init_1 oiX1_3 oi_i oi_c (by decide) (by decide) ?_
  refine ay_aload dX1_init_4 rfl ?_
  refine ay_sipush (v := 256) dX1_init_5 (by decide) ?_
  refine ay_newa1 (n := 256) dX1_init_8 ac_int rfl (by decide) (by decide) (by decide) (fun q1 => ?_)
  refine ay_putF dX1_init_10 ffX1_9 rfl (Nat.le_of_ble_eq_true rfl) ?_
  refine ay_aload dX1_init_13 rfl ?_
  refine ay_iconst (v := 0) dX1_init_14 (by decide) ?_
  refine ay_put dX1_init_15 plX1_15 rfl rfl (Nat.le_of_ble_eq_true rfl) ?_
  refine ay_aload dX1_init_18 rfl ?_
  refine ay_iconst (v := 1) dX1_init_19 (by decide) ?_
  refine ay_put dX1_init_20 plX1_19 rfl rfl (Nat.le_of_ble_eq_true rfl) ?_
  refine ay_aload dX1_init_23 rfl ?_
  refine ay_bipush (v := 16) dX1_init_24 (by decide) ?_
  refine ay_newa1 (n := 16) dX1_init_26 ac_int rfl (by decide) (by decide) (by decide) (fun q2 => ?_)
  refine ay_putF dX1_init_28 ffX1_22 rfl (Nat.le_of_ble_eq_true rfl) ?_
  refine ay_aload dX1_init_31 rfl ?_
  refine ay_iconst (v := 1) dX1_init_32 (by decide) ?_
  refine ay_put dX1_init_33 plX1_25 rfl rfl (Nat.le_of_ble_eq_true rfl) ?_
  refine ay_aload dX1_init_36 rfl ?_
  refine ay_iconst (v := 0) dX1_init_37 (by decide) ?_
  refine ay_put dX1_init_38 plX1_28 rfl rfl (Nat.le_of_ble_eq_true rfl) ?_
  refine ay_aload dX1_init_41 rfl ?_
  refine ay_iconst (v := 0) dX1_init_42 (by decide) ?_
  refine ay_put dX1_init_43 plX1_31 rfl rfl (Nat.le_of_ble_eq_true rfl) ?_
  refine ay_aload dX1_init_46 rfl ?_
  refine ay_iconst (v := 0) dX1_init_47 (by decide) ?_
  refine ay_put dX1_init_48 plX1_34 rfl rfl (Nat.le_of_ble_eq_true rfl) ?_
  refine ay_aload dX1_init_51 rfl ?_
  refine ay_iconst (v := 0) dX1_init_52 (by decide) ?_
  refine ay_put dX1_init_53 plX1_37 rfl rfl (Nat.le_of_ble_eq_true rfl) ?_
  refine ay_aload dX1_init_56 rfl ?_
  refine ay_iconst (v := 0) dX1_init_57 (by decide) ?_
  refine ay_put dX1_init_58 plX1_40 rfl rfl (Nat.le_of_ble_eq_true rfl) ?_
  refine ay_vret dX1_init_61 rfl rfl ⟨fun k => if k = 380 then q1 else if k = 381 then q2 else h0, fun k j => if k = 379 ∧ (j = 2 ∨ j = 4) then 1 else 0, ?_, rfl⟩
  rw [ay_bl_3, az_ce_ob sh_379, az_ce_ar sh_380, az_ce_ar sh_381]
  rfl
theorem c_X4_init {Y : ay_Y} {h0 : Nat} : ay_Sp Y 1 mX4_init [.ref h0] [(h0, .inr (4, dvX4))] 2 2048 (fun ws => ∃ (ad : Nat → Nat) (mem : az_M), ws = ay_bl Y ad mem 388 3 ∧ ad 388 = h0) := by
  refine ay_body (by decide +kernel) rfl (by simp [Value.category]) (Nat.le_of_ble_eq_true rfl) ?_
  show ay_Ev Y _ mX4_init _ _ _ _ 0 [some (.ref h0)] [] [(h0, .inr (4, dvX4))] 0 0
  refine ay_aload dX4_init_0 rfl ?_
  refine ay_objInit dX4_init_1 oiX4_3 oi_i oi_c (by decide) (by decide) ?_
  refine ay_aload dX4_init_4 rfl ?_
  refine ay_sipush (v := 1024) dX4_init_5 (by decide) ?_
  refine ay_newa1 (n := 1024) dX4_init_8 ac_int rfl (by decide) (by decide) (by decide) (fun q1 => ?_)
  refine ay_putF dX4_init_10 ffX4_11 rfl (Nat.le_of_ble_eq_true rfl) ?_
  refine ay_aload dX4_init_13 rfl ?_
  refine ay_sipush (v := 1024) dX4_init_14 (by decide) ?_
  refine ay_newa1 (n := 1024) dX4_init_17 ac_int rfl (by decide) (by decide) (by decide) (fun q2 => ?_)
  refine ay_putF dX4_init_19 ffX4_15 rfl (Nat.le_of_ble_eq_true rfl) ?_
  refine ay_vret dX4_init_22 rfl rfl ⟨fun k => if k = 389 then q1 else if k = 390 then q2 else h0, fun _ _ => 0, ?_, rfl⟩
  rw [ay_bl_3, az_ce_ob sh_388, az_ce_ar sh_389, az_ce_ar sh_390]
  rfl
theorem c_X5_init {Y : ay_Y} {h0 : Nat} : ay_Sp Y 1 mX5_init [.ref h0] [(h0, .inr (5, dvX5))] 7 1072 (fun ws => ∃ (ad : Nat → Nat) (mem : az_M), ws = ay_bl Y ad mem 371 8 ∧ ad 371 = h0) := by
  refine ay_body (by decide +kernel) rfl (by simp [Value.category]) (Nat.le_of_ble_eq_true rfl) ?_
  show ay_Ev Y _ mX5_init _ _ _ _ 0 [some (.ref h0)] [] [(h0, .inr (5, dvX5))] 0 0
  refine ay_aload dX5_init_0 rfl ?_
  refine ay_objInit dX5_init_1 oiX5_3 oi_i oi_c (by decide) (by decide) ?_
  refine ay_aload dX5_init_4 rfl ?_
  refine ay_iconst (v := 0) dX5_init_5 (by decide) ?_
  refine ay_put dX5_init_6 plX5_9 rfl rfl (Nat.le_of_ble_eq_true rfl) ?_
  refine ay_aload dX5_init_9 rfl ?_
  refine ay_bipush (v := 16) dX5_init_10 (by decide) ?_
  refine ay_newa1 (n := 16) dX5_init_12 ac_int rfl (by decide) (by decide) (by decide) (fun q1 => ?_)
  refine ay_putF dX5_init_14 ffX5_15 rfl (Nat.le_of_ble_eq_true rfl) ?_
  refine ay_aload dX5_init_17 rfl ?_
  refine ay_sipush (v := 256) dX5_init_18 (by decide) ?_
  refine ay_newa1 (n := 256) dX5_init_21 ac_int rfl (by decide) (by decide) (by decide) (fun q2 => ?_)
  refine ay_putF dX5_init_23 ffX5_19 rfl (Nat.le_of_ble_eq_true rfl) ?_
  refine ay_aload dX5_init_26 rfl ?_
  refine ay_sipush (v := 256) dX5_init_27 (by decide) ?_
  refine ay_newa1 (n := 256) dX5_init_30 ac_int rfl (by decide) (by decide) (by decide) (fun q3 => ?_)
  refine ay_putF dX5_init_32 ffX5_22 rfl (Nat.le_of_ble_eq_true rfl) ?_
  refine ay_aload dX5_init_35 rfl ?_
  refine ay_sipush (v := 256) dX5_init_36 (by decide) ?_
  refine ay_newa1 (n := 256) dX5_init_39 ac_int rfl (by decide) (by decide) (by decide) (fun q4 => ?_)
  refine ay_putF dX5_init_41 ffX5_25 rfl (Nat.le_of_ble_eq_true rfl) ?_
  refine ay_aload dX5_init_44 rfl ?_
  refine ay_bipush (v := 16) dX5_init_45 (by decide) ?_
  refine ay_newa1 (n := 16) dX5_init_47 ac_int rfl (by decide) (by decide) (by decide) (fun q5 => ?_)
  refine ay_putF dX5_init_49 ffX5_28 rfl (Nat.le_of_ble_eq_true rfl) ?_
  refine ay_aload dX5_init_52 rfl ?_
  refine ay_sipush (v := 256) dX5_init_53 (by decide) ?_
  refine ay_newa1 (n := 256) dX5_init_56 ac_int rfl (by decide) (by decide) (by decide) (fun q6 => ?_)
  refine ay_putF dX5_init_58 ffX5_31 rfl (Nat.le_of_ble_eq_true rfl) ?_
  refine ay_aload dX5_init_61 rfl ?_
  refine ay_bipush (v := 16) dX5_init_62 (by decide) ?_
  refine ay_newa1 (n := 16) dX5_init_64 ac_int rfl (by decide) (by decide) (by decide) (fun q7 => ?_)
  refine ay_putF dX5_init_66 ffX5_34 rfl (Nat.le_of_ble_eq_true rfl) ?_
  refine ay_vret dX5_init_69 rfl rfl ⟨fun k => if k = 372 then q1 else if k = 373 then q2 else if k = 374 then q3 else if k = 375 then q4 else if k = 376 then q5 else if k = 377 then q6 else if k = 378 then q7 else h0, fun _ _ => 0, ?_, rfl⟩
  rw [ay_bl_8, az_ce_ob sh_371, az_ce_ar sh_372, az_ce_ar sh_373, az_ce_ar sh_374, az_ce_ar sh_375, az_ce_ar sh_376, az_ce_ar sh_377, az_ce_ar sh_378]
  rfl
theorem c_X6_init {Y : ay_Y} {h0 : Nat} : ay_Sp Y 1 mX6_init [.ref h0] [(h0, .inr (6, dvX6))] 1 400 (fun ws => ∃ (ad : Nat → Nat) (mem : az_M), ws = ay_bl Y ad mem 369 2 ∧ ad 369 = h0 ∧ mem 369 1 = 0) := by
  refine ay_body (by decide +kernel) rfl (by simp [Value.category]) (Nat.le_of_ble_eq_true rfl) ?_
  show ay_Ev Y _ mX6_init _ _ _ _ 0 [some (.ref h0)] [] [(h0, .inr (6, dvX6))] 0 0
  refine ay_aload dX6_init_0 rfl ?_
  refine ay_objInit dX6_init_1 oiX6_3 oi_i oi_c (by decide) (by decide) ?_
  refine ay_aload dX6_init_4 rfl ?_
  refine ay_sipush (v := 400) dX6_init_5 (by decide) ?_
  refine ay_newa1 (n := 400) dX6_init_8 ac_int rfl (by decide) (by decide) (by decide) (fun q1 => ?_)
  refine ay_putF dX6_init_10 ffX6_9 rfl (Nat.le_of_ble_eq_true rfl) ?_
  refine ay_aload dX6_init_13 rfl ?_
  refine ay_iconst (v := 0) dX6_init_14 (by decide) ?_
  refine ay_put dX6_init_15 plX6_15 rfl rfl (Nat.le_of_ble_eq_true rfl) ?_
  refine ay_vret dX6_init_18 rfl rfl ⟨fun k => if k = 370 then q1 else h0, fun _ _ => 0, ?_, rfl, rfl⟩
  rw [ay_bl_2, az_ce_ob sh_369, az_ce_ar sh_370]
  rfl

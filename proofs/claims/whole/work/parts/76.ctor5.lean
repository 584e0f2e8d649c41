/-! refs of the class's blocks stay there -/
set_option maxRecDepth 100000 in
theorem az_rf_lo : ∀ k, k < 391 → ∀ r ∈ az_rf k, r < 391 := by decide +kernel
/-! the reference's constructor -/
theorem c_X8_init {Y : ay_Y} {h0 : Nat} {ad : Nat → Nat} {mem : az_M} (hc : zCls0 mem) : ay_Sp Y 3 mX8_init [.ref h0] ((h0, .inr (8, dvX8)) :: ay_bl Y ad mem 0 391) 12 235536 (fun ws => ∃ (ad' : Nat → Nat) (mem' : az_M), ws = az_wl (Y.1, Y.2.1, Y.2.2, ad') mem' ∧ ad' 0 = ad 0 ∧ ad' 391 = h0 ∧ zJ mem') := by
  refine ay_body (by decide +kernel) rfl (by simp [Value.category]) (Nat.le_of_ble_eq_true rfl) ?_
  show ay_Ev Y _ mX8_init _ _ _ _ 0 [some (.ref h0)] [] ((h0, .inr (8, dvX8)) :: ay_bl Y ad mem 0 391) 0 0
  refine ay_aload dX8_init_0 rfl ?_
  refine ay_objInit dX8_init_1 oiX8_1 oi_i oi_c (by decide) (by decide) ?_
  refine ay_aload dX8_init_4 rfl ?_
  refine ay_sipush (v := 600) dX8_init_5 (by decide) ?_
  refine ay_newa1 (n := 600) dX8_init_8 ac_int rfl (by decide) (by decide) (by decide) (fun q1 => ?_)
  refine ay_putF dX8_init_10 ffX8_7 rfl (Nat.le_of_ble_eq_true rfl) ?_
  refine ay_aload dX8_init_13 rfl ?_
  refine ay_ldc dX8_init_14 kcX8_13 ?_
  refine ay_newa1 (n := 36000) dX8_init_16 ac_int rfl (by decide) (by decide) (by decide) (fun q2 => ?_)
  refine ay_putF dX8_init_18 ffX8_14 rfl (Nat.le_of_ble_eq_true rfl) ?_
  refine ay_aload dX8_init_21 rfl ?_
  refine ay_sipush (v := 400) dX8_init_22 (by decide) ?_
  refine ay_newa1 (n := 400) dX8_init_25 ac_int rfl (by decide) (by decide) (by decide) (fun q3 => ?_)
  refine ay_putF dX8_init_27 ffX8_17 rfl (Nat.le_of_ble_eq_true rfl) ?_
  refine ay_aload dX8_init_30 rfl ?_
  refine ay_sipush (v := 256) dX8_init_31 (by decide) ?_
  refine ay_newa1 (n := 256) dX8_init_34 ac_int rfl (by decide) (by decide) (by decide) (fun q4 => ?_)
  refine ay_putF dX8_init_36 ffX8_20 rfl (Nat.le_of_ble_eq_true rfl) ?_
  refine ay_aload dX8_init_39 rfl ?_
  refine ay_sipush (v := 256) dX8_init_40 (by decide) ?_
  refine ay_newa1 (n := 256) dX8_init_43 ac_int rfl (by decide) (by decide) (by decide) (fun q5 => ?_)
  refine ay_putF dX8_init_45 ffX8_23 rfl (Nat.le_of_ble_eq_true rfl) ?_
  refine ay_aload dX8_init_48 rfl ?_
  refine ay_sipush (v := 256) dX8_init_49 (by decide) ?_
  refine ay_newa1 (n := 256) dX8_init_52 ac_int rfl (by decide) (by decide) (by decide) (fun q6 => ?_)
  refine ay_putF dX8_init_54 ffX8_26 rfl (Nat.le_of_ble_eq_true rfl) ?_
  refine ay_aload dX8_init_57 rfl ?_
  refine ay_bipush (v := 16) dX8_init_58 (by decide) ?_
  refine ay_newa1 (n := 16) dX8_init_60 ac_int rfl (by decide) (by decide) (by decide) (fun q7 => ?_)
  refine ay_putF dX8_init_62 ffX8_29 rfl (Nat.le_of_ble_eq_true rfl) ?_
  refine ay_aload dX8_init_65 rfl ?_
  refine ay_bipush (v := 120) dX8_init_66 (by decide) ?_
  refine ay_newa1 (n := 120) dX8_init_68 ac_int rfl (by decide) (by decide) (by decide) (fun q8 => ?_)
  refine ay_putF dX8_init_70 ffX8_32 rfl (Nat.le_of_ble_eq_true rfl) ?_
  refine ay_aload dX8_init_73 rfl ?_
  refine ay_ldc dX8_init_74 kcX8_35 ?_
  refine ay_newa1 (n := 65536) dX8_init_76 ac_int rfl (by decide) (by decide) (by decide) (fun q9 => ?_)
  refine ay_putF dX8_init_78 ffX8_36 rfl (Nat.le_of_ble_eq_true rfl) ?_
  refine ay_aload dX8_init_81 rfl ?_
  refine ay_ldc dX8_init_82 kcX8_35 ?_
  refine ay_newa1 (n := 65536) dX8_init_84 ac_int rfl (by decide) (by decide) (by decide) (fun q10 => ?_)
  refine ay_putF dX8_init_86 ffX8_39 rfl (Nat.le_of_ble_eq_true rfl) ?_
  refine ay_aload dX8_init_89 rfl ?_
  refine ay_ldc dX8_init_90 kcX8_35 ?_
  refine ay_newa1 (n := 65536) dX8_init_92 ac_int rfl (by decide) (by decide) (by decide) (fun q11 => ?_)
  refine ay_putF dX8_init_94 ffX8_42 rfl (Nat.le_of_ble_eq_true rfl) ?_
  refine ay_aload dX8_init_97 rfl ?_
  refine ay_sipush (v := 1024) dX8_init_98 (by decide) ?_
  refine ay_newa1 (n := 1024) dX8_init_101 ac_int rfl (by decide) (by decide) (by decide) (fun q12 => ?_)
  refine ay_putF dX8_init_103 ffX8_45 rfl (Nat.le_of_ble_eq_true rfl) ?_
  obtain ⟨ad', had⟩ : ∃ ad' : Nat → Nat, ∀ x, ad' x = (fun x => if x < 391 then ad x else if x = 391 then h0 else if x = 392 then q1 else if x = 393 then q2 else if x = 394 then q3 else if x = 395 then q4 else if x = 396 then q5 else if x = 397 then q6 else if x = 398 then q7 else if x = 399 then q8 else if x = 400 then q9 else if x = 401 then q10 else if x = 402 then q11 else if x = 403 then q12 else 0) x := ⟨_, fun _ => rfl⟩
  obtain ⟨mem', hmem⟩ : ∃ mem' : az_M, ∀ x, mem' x = (fun x => if x < 391 then mem x else (fun _ => 0) : az_M) x := ⟨_, fun _ => rfl⟩
  have hlo : ∀ x, x < 391 → ad' x = ad x := fun x h => by rw [had]; dsimp only; rw [if_pos h]
  have mlo : ∀ x, x < 391 → mem' x = mem x := fun x h => by rw [hmem]; dsimp only; rw [if_pos h]
  have mhi : ∀ x, 391 ≤ x → mem' x = fun _ => 0 := fun x h => by rw [hmem]; dsimp only; rw [if_neg (by omega)]
  have b391 : ad' 391 = h0 := had 391
  have b392 : ad' 392 = q1 := had 392
  have b393 : ad' 393 = q2 := had 393
  have b394 : ad' 394 = q3 := had 394
  have b395 : ad' 395 = q4 := had 395
  have b396 : ad' 396 = q5 := had 396
  have b397 : ad' 397 = q6 := had 397
  have b398 : ad' 398 = q7 := had 398
  have b399 : ad' 399 = q8 := had 399
  have b400 : ad' 400 = q9 := had 400
  have b401 : ad' 401 = q10 := had 401
  have b402 : ad' 402 = q11 := had 402
  have b403 : ad' 403 = q12 := had 403
  have hseg : ay_bl Y ad mem 0 391 = ay_bl Y ad' mem' 0 391 := (ay_bl_congr (fun x _ h => hlo x (by omega)) (fun x _ h => mlo x (by omega)) (fun x _ h r hr => hlo r (az_rf_lo x (by omega) r hr))).symm
  have hnew : ay_bl Y ad' mem' (0 + 391) 13 = [(h0, .inr (8, [.ref q1, .ref q2, .int 0, .int 0, .ref q3, .int 0, .int 0, .ref q4, .ref q5, .ref q6, .ref q7, .ref q8, .ref q9, .ref q10, .ref q11, .ref q12])), (q1, .inl (Y.2.2.1, 600, .inl (fun _ => 0))), (q2, .inl (Y.2.2.1, 36000, .inl (fun _ => 0))), (q3, .inl (Y.2.2.1, 400, .inl (fun _ => 0))), (q4, .inl (Y.2.2.1, 256, .inl (fun _ => 0))), (q5, .inl (Y.2.2.1, 256, .inl (fun _ => 0))), (q6, .inl (Y.2.2.1, 256, .inl (fun _ => 0))), (q7, .inl (Y.2.2.1, 16, .inl (fun _ => 0))), (q8, .inl (Y.2.2.1, 120, .inl (fun _ => 0))), (q9, .inl (Y.2.2.1, 65536, .inl (fun _ => 0))), (q10, .inl (Y.2.2.1, 65536, .inl (fun _ => 0))), (q11, .inl (Y.2.2.1, 65536, .inl (fun _ => 0))), (q12, .inl (Y.2.2.1, 1024, .inl (fun _ => 0)))] := by
    rw [ay_bl_13]
    show [(ad' 391, az_ce (Y.1, Y.2.1, Y.2.2, ad') 391 (mem' 391)), (ad' 392, az_ce (Y.1, Y.2.1, Y.2.2, ad') 392 (mem' 392)), (ad' 393, az_ce (Y.1, Y.2.1, Y.2.2, ad') 393 (mem' 393)), (ad' 394, az_ce (Y.1, Y.2.1, Y.2.2, ad') 394 (mem' 394)), (ad' 395, az_ce (Y.1, Y.2.1, Y.2.2, ad') 395 (mem' 395)), (ad' 396, az_ce (Y.1, Y.2.1, Y.2.2, ad') 396 (mem' 396)), (ad' 397, az_ce (Y.1, Y.2.1, Y.2.2, ad') 397 (mem' 397)), (ad' 398, az_ce (Y.1, Y.2.1, Y.2.2, ad') 398 (mem' 398)), (ad' 399, az_ce (Y.1, Y.2.1, Y.2.2, ad') 399 (mem' 399)), (ad' 400, az_ce (Y.1, Y.2.1, Y.2.2, ad') 400 (mem' 400)), (ad' 401, az_ce (Y.1, Y.2.1, Y.2.2, ad') 401 (mem' 401)), (ad' 402, az_ce (Y.1, Y.2.1, Y.2.2, ad') 402 (mem' 402)), (ad' 403, az_ce (Y.1, Y.2.1, Y.2.2, ad') 403 (mem' 403))] = _
    rw [az_ce_ob sh_391, az_ce_ar sh_392, az_ce_ar sh_393, az_ce_ar sh_394, az_ce_ar sh_395, az_ce_ar sh_396, az_ce_ar sh_397, az_ce_ar sh_398, az_ce_ar sh_399, az_ce_ar sh_400, az_ce_ar sh_401, az_ce_ar sh_402, az_ce_ar sh_403, mhi 391 (by omega), mhi 392 (by omega), mhi 393 (by omega), mhi 394 (by omega), mhi 395 (by omega), mhi 396 (by omega), mhi 397 (by omega), mhi 398 (by omega), mhi 399 (by omega), mhi 400 (by omega), mhi 401 (by omega), mhi 402 (by omega), mhi 403 (by omega)]
    rw [b391, b392, b393, b394, b395, b396, b397, b398, b399, b400, b401, b402, b403]
    have efl : az_fl (Y.1, Y.2.1, Y.2.2, ad') [some 392, some 393, none, none, some 394, none, none, some 395, some 396, some 397, some 398, some 399, some 400, some 401, some 402, some 403] (fun _ => 0) = [.ref (ad' 392), .ref (ad' 393), .int 0, .int 0, .ref (ad' 394), .int 0, .int 0, .ref (ad' 395), .ref (ad' 396), .ref (ad' 397), .ref (ad' 398), .ref (ad' 399), .ref (ad' 400), .ref (ad' 401), .ref (ad' 402), .ref (ad' 403)] := rfl
    rw [efl, b392, b393, b394, b395, b396, b397, b398, b399, b400, b401, b402, b403]
  have hall : az_wl (Y.1, Y.2.1, Y.2.2, ad') mem' = ay_bl Y ad mem 0 391 ++ [(h0, .inr (8, [.ref q1, .ref q2, .int 0, .int 0, .ref q3, .int 0, .int 0, .ref q4, .ref q5, .ref q6, .ref q7, .ref q8, .ref q9, .ref q10, .ref q11, .ref q12])), (q1, .inl (Y.2.2.1, 600, .inl (fun _ => 0))), (q2, .inl (Y.2.2.1, 36000, .inl (fun _ => 0))), (q3, .inl (Y.2.2.1, 400, .inl (fun _ => 0))), (q4, .inl (Y.2.2.1, 256, .inl (fun _ => 0))), (q5, .inl (Y.2.2.1, 256, .inl (fun _ => 0))), (q6, .inl (Y.2.2.1, 256, .inl (fun _ => 0))), (q7, .inl (Y.2.2.1, 16, .inl (fun _ => 0))), (q8, .inl (Y.2.2.1, 120, .inl (fun _ => 0))), (q9, .inl (Y.2.2.1, 65536, .inl (fun _ => 0))), (q10, .inl (Y.2.2.1, 65536, .inl (fun _ => 0))), (q11, .inl (Y.2.2.1, 65536, .inl (fun _ => 0))), (q12, .inl (Y.2.2.1, 1024, .inl (fun _ => 0)))] := by
    rw [← ay_wl, show (404 : Nat) = 391 + 13 from rfl, ay_bl_app, hnew, hseg]
  refine ay_perm (ws' := az_wl (Y.1, Y.2.1, Y.2.2, ad') mem') ?_ ?_
  · rw [hall]
    simp only [List.append_assoc, List.cons_append, List.nil_append]
    exact List.perm_middle.symm
  have z391 : ∀ j, mem' 391 j = 0 := fun j => by rw [mhi 391 (by omega)]
  have z392 : ∀ j, mem' 392 j = 0 := fun j => by rw [mhi 392 (by omega)]
  have zc : ∀ m2 : az_M, (∀ k, k < 391 → m2 k = mem' k) → zCls0 m2 := fun m2 h => by
    have h2 : ∀ k, k < 391 → m2 k = mem k := fun k hk => by rw [h k hk, mlo k hk]
    obtain ⟨c1, ⟨c2, c3⟩, c4, c5, c6⟩ := hc
    exact ⟨zNet0_cg (fun q hq => h2 _ (by omega)) c1, ⟨fun j => by rw [h2 7 (by omega)]; exact c2 j, fun i hi => zNet0_cg (fun q hq => h2 _ (by omega)) (c3 i hi)⟩, by rw [h2 369 (by omega)]; exact c4, by rw [h2 0 (by omega)]; exact c5, by rw [h2 0 (by omega)]; exact c6⟩
  rw [← b391]
  refine ay_aload dX8_init_106 rfl ?_
  refine ax_getr dX8_init_107 flX8_7 sh_391 (b := 392) rfl ?_
  refine ay_iconst (v := 0) dX8_init_110 (by decide) ?_
  refine ay_iconst (v := 1) dX8_init_111 (by decide) ?_
  refine ax_iast (i := 0) dX8_init_112 sh_392 (by decide) (by decide) rfl ?_
  refine ay_aload dX8_init_113 rfl ?_
  refine ay_iconst (v := 0) dX8_init_114 (by decide) ?_
  refine ax_callE (st := []) (N := mX8_first) (k := 391) (d := 0) [.inl 0] dX8_init_115 lkX8_48 okX8_first sh_391 rfl rfl (by decide) (by decide) (by decide) (by decide) (by decide) (z_first (fun j => ?_) (fun m2 g1 g2 => ?_)) (fun r m2 hq => hq)
  · exact (az_w_same mem' 392 0 1 ▸ rfl : az_w mem' 392 0 1 392 j = upd (mem' 392) 0 1 j).trans (by unfold upd; rw [z392 j])
  refine ay_aload dX8_init_118 rfl ?_
  refine ax_callE (st := []) (N := mX8_walk) (k := 391) (d := 2) [] dX8_init_119 lkX8_52 okX8_walk sh_391 rfl rfl (by decide) (by decide) (by decide) (by decide) (by decide) (t_X8_walk (N := 1) (by rw [g2]; rfl) (by omega) (fun m3 g3 g4 => ?_)) (fun r m3 hq => hq)
  refine ay_vret dX8_init_122 rfl rfl ⟨ad', m3, rfl, hlo 0 (by omega), rfl, zJ_start (zc m3 (fun k hk => by rw [g3 k (by omega) (by omega), g1 k (by omega), az_w_ne _ (by omega)])) (fun j => ?_) (fun j => ?_) g4⟩
  · rw [g3 391 (by decide) (by decide), g1 391 (by decide), az_w_ne _ (by decide)]; exact z391 j
  · rw [g3 392 (by decide) (by decide)]; exact g2 j

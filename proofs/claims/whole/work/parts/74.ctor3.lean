/-! WayMarks() -/
theorem az_gr_rng {k r : Nat} (h : az_gr r = az_gr k) (hr : r < 404) : (1 ≤ k → k < 7 → 1 ≤ r ∧ r < 7) ∧ (7 ≤ k → k < 369 → 7 ≤ r ∧ r < 369) ∧ (369 ≤ k → k < 371 → 369 ≤ r ∧ r < 371) ∧ (371 ≤ k → k < 379 → 371 ≤ r ∧ r < 379) ∧ (379 ≤ k → k < 382 → 379 ≤ r ∧ r < 382) ∧ (382 ≤ k → k < 388 → 382 ≤ r ∧ r < 388) ∧ (388 ≤ k → k < 391 → 388 ≤ r ∧ r < 391) ∧ (391 ≤ k → 391 ≤ r) := by
  unfold az_gr at h
  refine ⟨fun _ _ => ?_, fun _ _ => ?_, fun _ _ => ?_, fun _ _ => ?_, fun _ _ => ?_, fun _ _ => ?_, fun _ _ => ?_, fun _ => ?_⟩ <;> ((repeat' split at h) <;> omega)
def zCls0 (mem : az_M) : Prop := zNet0 mem 1 ∧ zPast0 mem ∧ mem 369 1 = 0 ∧ mem 0 7 = 1 ∧ mem 0 8 = 0
theorem c_X7_init {Y : ay_Y} {h0 : Nat} : ay_Sp Y 3 mX7_init [.ref h0] [(h0, .inr (7, dvX7))] 390 28529 (fun ws => ∃ (ad : Nat → Nat) (mem : az_M), ws = ay_bl Y ad mem 0 391 ∧ ad 0 = h0 ∧ zCls0 mem) := by
  refine ay_body (by decide +kernel) rfl (by simp [Value.category]) (Nat.le_of_ble_eq_true rfl) ?_
  show ay_Ev Y _ mX7_init _ _ _ _ 0 [some (.ref h0)] [] [(h0, .inr (7, dvX7))] 0 0
  refine ay_aload dX7_init_0 rfl ?_
  refine ay_objInit dX7_init_1 oiX7_3 oi_i oi_c (by decide) (by decide) ?_
  refine ay_aload dX7_init_4 rfl ?_
  refine ay_new1 dX7_init_5 nwX7_9 (by decide) (by decide) (fun q1 => ?_)
  refine ay_dup dX7_init_8 ?_
  refine ay_call1 (N := mX2_init) dX7_init_9 lkX7_11 okX2_init (c_X2_init (b := 1) zc_net_1) (Nat.le_of_ble_eq_true rfl) (Nat.le_of_ble_eq_true rfl) (by decide) (by decide) (by decide) (by decide) (fun w1 hw1 => ?_)
  obtain ⟨ad1, mem1, rfl, ha1, hz1⟩ := hw1
  refine ay_putF dX7_init_12 ffX7_12 rfl (Nat.le_of_ble_eq_true rfl) ?_
  refine ay_aload dX7_init_15 rfl ?_
  refine ay_new1 dX7_init_16 nwX7_16 (by decide) (by decide) (fun q2 => ?_)
  refine ay_dup dX7_init_19 ?_
  refine ay_call1 (N := mX3_init) dX7_init_20 lkX7_18 okX3_init c_X3_init (Nat.le_of_ble_eq_true rfl) (Nat.le_of_ble_eq_true rfl) (by decide) (by decide) (by decide) (by decide) (fun w2 hw2 => ?_)
  obtain ⟨ad2, mem2, rfl, ha2, hz2⟩ := hw2
  refine ay_putF dX7_init_23 ffX7_19 rfl (Nat.le_of_ble_eq_true rfl) ?_
  refine ay_aload dX7_init_26 rfl ?_
  refine ay_new1 dX7_init_27 nwX7_23 (by decide) (by decide) (fun q3 => ?_)
  refine ay_dup dX7_init_30 ?_
  refine ay_call1 (N := mX6_init) dX7_init_31 lkX7_25 okX6_init c_X6_init (Nat.le_of_ble_eq_true rfl) (Nat.le_of_ble_eq_true rfl) (by decide) (by decide) (by decide) (by decide) (fun w3 hw3 => ?_)
  obtain ⟨ad3, mem3, rfl, ha3, hz3⟩ := hw3
  refine ay_putF dX7_init_34 ffX7_26 rfl (Nat.le_of_ble_eq_true rfl) ?_
  refine ay_aload dX7_init_37 rfl ?_
  refine ay_new1 dX7_init_38 nwX7_30 (by decide) (by decide) (fun q4 => ?_)
  refine ay_dup dX7_init_41 ?_
  refine ay_call1 (N := mX5_init) dX7_init_42 lkX7_32 okX5_init c_X5_init (Nat.le_of_ble_eq_true rfl) (Nat.le_of_ble_eq_true rfl) (by decide) (by decide) (by decide) (by decide) (fun w4 hw4 => ?_)
  obtain ⟨ad4, mem4, rfl, ha4⟩ := hw4
  refine ay_putF dX7_init_45 ffX7_33 rfl (Nat.le_of_ble_eq_true rfl) ?_
  refine ay_aload dX7_init_48 rfl ?_
  refine ay_new1 dX7_init_49 nwX7_37 (by decide) (by decide) (fun q5 => ?_)
  refine ay_dup dX7_init_52 ?_
  refine ay_call1 (N := mX1_init) dX7_init_53 lkX7_39 okX1_init c_X1_init (Nat.le_of_ble_eq_true rfl) (Nat.le_of_ble_eq_true rfl) (by decide) (by decide) (by decide) (by decide) (fun w5 hw5 => ?_)
  obtain ⟨ad5, mem5, rfl, ha5⟩ := hw5
  refine ay_putF dX7_init_56 ffX7_40 rfl (Nat.le_of_ble_eq_true rfl) ?_
  refine ay_aload dX7_init_59 rfl ?_
  refine ay_new1 dX7_init_60 nwX7_44 (by decide) (by decide) (fun q6 => ?_)
  refine ay_dup dX7_init_63 ?_
  refine ay_call1 (N := mX0_init) dX7_init_64 lkX7_46 okX0_init c_X0_init (Nat.le_of_ble_eq_true rfl) (Nat.le_of_ble_eq_true rfl) (by decide) (by decide) (by decide) (by decide) (fun w6 hw6 => ?_)
  obtain ⟨ad6, mem6, rfl, ha6⟩ := hw6
  refine ay_putF dX7_init_67 ffX7_47 rfl (Nat.le_of_ble_eq_true rfl) ?_
  refine ay_aload dX7_init_70 rfl ?_
  refine ay_new1 dX7_init_71 nwX7_51 (by decide) (by decide) (fun q7 => ?_)
  refine ay_dup dX7_init_74 ?_
  refine ay_call1 (N := mX4_init) dX7_init_75 lkX7_53 okX4_init c_X4_init (Nat.le_of_ble_eq_true rfl) (Nat.le_of_ble_eq_true rfl) (by decide) (by decide) (by decide) (by decide) (fun w7 hw7 => ?_)
  obtain ⟨ad7, mem7, rfl, ha7⟩ := hw7
  refine ay_putF dX7_init_78 ffX7_54 rfl (Nat.le_of_ble_eq_true rfl) ?_
  refine ay_aload dX7_init_81 rfl ?_
  refine ay_iconst (v := 1) dX7_init_82 (by decide) ?_
  refine ay_put dX7_init_83 plX7_58 rfl rfl (Nat.le_of_ble_eq_true rfl) ?_
  refine ay_aload dX7_init_86 rfl ?_
  refine ay_iconst (v := 0) dX7_init_87 (by decide) ?_
  refine ay_put dX7_init_88 plX7_62 rfl rfl (Nat.le_of_ble_eq_true rfl) ?_
  refine ay_vret dX7_init_91 rfl rfl ?_
  obtain ⟨ad, had⟩ : ∃ ad : Nat → Nat, ∀ x, ad x = (fun x => if x < 1 then h0 else if x < 7 then ad1 x else if x < 369 then ad2 x else if x < 371 then ad3 x else if x < 379 then ad4 x else if x < 382 then ad5 x else if x < 388 then ad6 x else ad7 x) x := ⟨_, fun _ => rfl⟩
  obtain ⟨mem, hmem⟩ : ∃ mem : az_M, ∀ x, mem x = (fun x => if x < 1 then (fun j => if j = 7 then 1 else 0) else if x < 7 then mem1 x else if x < 369 then mem2 x else if x < 371 then mem3 x else if x < 379 then mem4 x else if x < 382 then mem5 x else if x < 388 then mem6 x else mem7 x : az_M) x := ⟨_, fun _ => rfl⟩
  have a1 : ∀ x, 1 ≤ x → x < 7 → ad x = ad1 x := fun x h1 h2 => by rw [had]; dsimp only; rw [if_neg (by omega), if_pos (by omega)]
  have m1 : ∀ x, 1 ≤ x → x < 7 → mem x = mem1 x := fun x h1 h2 => by rw [hmem]; dsimp only; rw [if_neg (by omega), if_pos (by omega)]
  have a2 : ∀ x, 7 ≤ x → x < 369 → ad x = ad2 x := fun x h1 h2 => by rw [had]; dsimp only; rw [if_neg (by omega), if_neg (by omega), if_pos (by omega)]
  have m2 : ∀ x, 7 ≤ x → x < 369 → mem x = mem2 x := fun x h1 h2 => by rw [hmem]; dsimp only; rw [if_neg (by omega), if_neg (by omega), if_pos (by omega)]
  have a3 : ∀ x, 369 ≤ x → x < 371 → ad x = ad3 x := fun x h1 h2 => by rw [had]; dsimp only; rw [if_neg (by omega), if_neg (by omega), if_neg (by omega), if_pos (by omega)]
  have m3 : ∀ x, 369 ≤ x → x < 371 → mem x = mem3 x := fun x h1 h2 => by rw [hmem]; dsimp only; rw [if_neg (by omega), if_neg (by omega), if_neg (by omega), if_pos (by omega)]
  have a4 : ∀ x, 371 ≤ x → x < 379 → ad x = ad4 x := fun x h1 h2 => by rw [had]; dsimp only; rw [if_neg (by omega), if_neg (by omega), if_neg (by omega), if_neg (by omega), if_pos (by omega)]
  have m4 : ∀ x, 371 ≤ x → x < 379 → mem x = mem4 x := fun x h1 h2 => by rw [hmem]; dsimp only; rw [if_neg (by omega), if_neg (by omega), if_neg (by omega), if_neg (by omega), if_pos (by omega)]
  have a5 : ∀ x, 379 ≤ x → x < 382 → ad x = ad5 x := fun x h1 h2 => by rw [had]; dsimp only; rw [if_neg (by omega), if_neg (by omega), if_neg (by omega), if_neg (by omega), if_neg (by omega), if_pos (by omega)]
  have m5 : ∀ x, 379 ≤ x → x < 382 → mem x = mem5 x := fun x h1 h2 => by rw [hmem]; dsimp only; rw [if_neg (by omega), if_neg (by omega), if_neg (by omega), if_neg (by omega), if_neg (by omega), if_pos (by omega)]
  have a6 : ∀ x, 382 ≤ x → x < 388 → ad x = ad6 x := fun x h1 h2 => by rw [had]; dsimp only; rw [if_neg (by omega), if_neg (by omega), if_neg (by omega), if_neg (by omega), if_neg (by omega), if_neg (by omega), if_pos (by omega)]
  have m6 : ∀ x, 382 ≤ x → x < 388 → mem x = mem6 x := fun x h1 h2 => by rw [hmem]; dsimp only; rw [if_neg (by omega), if_neg (by omega), if_neg (by omega), if_neg (by omega), if_neg (by omega), if_neg (by omega), if_pos (by omega)]
  have a7 : ∀ x, 388 ≤ x → x < 391 → ad x = ad7 x := fun x h1 h2 => by rw [had]; dsimp only; rw [if_neg (by omega), if_neg (by omega), if_neg (by omega), if_neg (by omega), if_neg (by omega), if_neg (by omega), if_neg (by omega)]
  have m7 : ∀ x, 388 ≤ x → x < 391 → mem x = mem7 x := fun x h1 h2 => by rw [hmem]; dsimp only; rw [if_neg (by omega), if_neg (by omega), if_neg (by omega), if_neg (by omega), if_neg (by omega), if_neg (by omega), if_neg (by omega)]
  have a0 : ad 0 = h0 := had 0
  have m0 : mem 0 = fun j => if j = 7 then 1 else 0 := hmem 0
  refine ⟨ad, mem, ?_, a0, zNet0_cg (fun q hq => m1 _ (by omega) (by omega)) hz1, ⟨fun j => by rw [m2 7 (by omega) (by omega)]; exact hz2.1 j, fun i hi => zNet0_cg (fun q hq => m2 _ (by omega) (by omega)) (hz2.2 i hi)⟩, by rw [m3 369 (by omega) (by omega)]; exact hz3, by rw [m0]; rfl, by rw [m0]; rfl⟩
  have seg : ∀ (b n : Nat) (ad' : Nat → Nat) (mem' : az_M), (∀ x, b ≤ x → x < b + n → ad x = ad' x) → (∀ x, b ≤ x → x < b + n → mem x = mem' x) → (∀ x, b ≤ x → x < b + n → ∀ r ∈ az_rf x, b ≤ r ∧ r < b + n) → ay_bl Y ad' mem' b n = ay_bl Y ad mem b n := fun b n ad' mem' g1 g2 g3 => (ay_bl_congr g1 g2 (fun x h1 h2 r hr => g1 r (g3 x h1 h2 r hr).1 (g3 x h1 h2 r hr).2)).symm
  have s1 := seg 1 6 ad1 mem1 a1 m1 (fun x h1 h2 r hr => by have g := (az_rf_gr x (by omega) r hr).resolve_left (by omega); exact (az_gr_rng g.1 g.2).1 h1 h2)
  have s2 := seg 7 362 ad2 mem2 a2 m2 (fun x h1 h2 r hr => by have g := (az_rf_gr x (by omega) r hr).resolve_left (by omega); exact (az_gr_rng g.1 g.2).2.1 h1 h2)
  have s3 := seg 369 2 ad3 mem3 a3 m3 (fun x h1 h2 r hr => by have g := (az_rf_gr x (by omega) r hr).resolve_left (by omega); exact (az_gr_rng g.1 g.2).2.2.1 h1 h2)
  have s4 := seg 371 8 ad4 mem4 a4 m4 (fun x h1 h2 r hr => by have g := (az_rf_gr x (by omega) r hr).resolve_left (by omega); exact (az_gr_rng g.1 g.2).2.2.2.1 h1 h2)
  have s5 := seg 379 3 ad5 mem5 a5 m5 (fun x h1 h2 r hr => by have g := (az_rf_gr x (by omega) r hr).resolve_left (by omega); exact (az_gr_rng g.1 g.2).2.2.2.2.1 h1 h2)
  have s6 := seg 382 6 ad6 mem6 a6 m6 (fun x h1 h2 r hr => by have g := (az_rf_gr x (by omega) r hr).resolve_left (by omega); exact (az_gr_rng g.1 g.2).2.2.2.2.2.1 h1 h2)
  have s7 := seg 388 3 ad7 mem7 a7 m7 (fun x h1 h2 r hr => by have g := (az_rf_gr x (by omega) r hr).resolve_left (by omega); exact (az_gr_rng g.1 g.2).2.2.2.2.2.2.1 h1 h2)
  have e0 : ay_bl Y ad mem 0 1 = [(h0, .inr (7, [.ref (ad 1), .ref (ad 7), .ref (ad 369), .ref (ad 371), .ref (ad 379), .ref (ad 382), .ref (ad 388), .int 1, .int 0]))] := by
    rw [ay_bl_1, az_ce_ob sh_0, a0, m0]
    rfl
  rw [show (391 : Nat) = 1 + (6 + (362 + (2 + (8 + (3 + (6 + 3)))))) from rfl, ay_bl_app, e0, ay_bl_app (b := 0 + 1), ay_bl_app (b := 0 + 1 + 6), ay_bl_app (b := 0 + 1 + 6 + 362), ay_bl_app (b := 0 + 1 + 6 + 362 + 2), ay_bl_app (b := 0 + 1 + 6 + 362 + 2 + 8), ay_bl_app (b := 0 + 1 + 6 + 362 + 2 + 8 + 3)]
  rw [a1 1 (by omega) (by omega), a2 7 (by omega) (by omega), a3 369 (by omega) (by omega), a4 371 (by omega) (by omega), a5 379 (by omega) (by omega), a6 382 (by omega) (by omega), a7 388 (by omega) (by omega), ha1, ha2, ha3, ha4, ha5, ha6, ha7, s1, s2, s3, s4, s5, s6, s7]
  simp only [List.append_assoc, List.nil_append]
  rfl

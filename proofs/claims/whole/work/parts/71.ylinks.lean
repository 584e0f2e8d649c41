/-! by program: what the constructors link -/
theorem oi_i : Cond.instanceMethod objectInit ∈ az_tb := az_in 120 (by decide +kernel) (by decide +kernel)
theorem oi_c : Cond.code objectInit ⟨#[0xb1]⟩ 1 none ∈ az_tb := az_in 121 (by decide +kernel) (by decide +kernel)
theorem ac_int : Cond.arrayClass .int ∈ az_tb := az_in 189 (by decide +kernel) (by decide +kernel)
theorem lkL_9 : az_Lk RL 9 yX7_init := Or.inl (az_in 116 (by decide +kernel) (by decide +kernel))
theorem oiX7_3 : Cond.methodLink RX7 3 objectInit ∈ az_tb := az_in 119 (by decide +kernel) (by decide +kernel)
theorem lkX7_11 : az_Lk RX7 11 yX2_init := Or.inr ⟨"WayMarks", az_inN 124 (by decide +kernel) (by decide +kernel)⟩
theorem oiX2_3 : Cond.methodLink RX2 3 objectInit ∈ az_tb := az_in 127 (by decide +kernel) (by decide +kernel)
theorem lkX7_18 : az_Lk RX7 18 yX3_init := Or.inr ⟨"WayMarks", az_inN 192 (by decide +kernel) (by decide +kernel)⟩
theorem oiX3_3 : Cond.methodLink RX3 3 objectInit ∈ az_tb := az_in 195 (by decide +kernel) (by decide +kernel)
theorem lkX3_24 : az_Lk RX3 24 yX2_init := Or.inr ⟨"WayMarks", az_inN 198 (by decide +kernel) (by decide +kernel)⟩
theorem lkX7_25 : az_Lk RX7 25 yX6_init := Or.inr ⟨"WayMarks", az_inN 212 (by decide +kernel) (by decide +kernel)⟩
theorem oiX6_3 : Cond.methodLink RX6 3 objectInit ∈ az_tb := az_in 215 (by decide +kernel) (by decide +kernel)
theorem lkX7_32 : az_Lk RX7 32 yX5_init := Or.inr ⟨"WayMarks", az_inN 226 (by decide +kernel) (by decide +kernel)⟩
theorem oiX5_3 : Cond.methodLink RX5 3 objectInit ∈ az_tb := az_in 229 (by decide +kernel) (by decide +kernel)
theorem lkX7_39 : az_Lk RX7 39 yX1_init := Or.inr ⟨"WayMarks", az_inN 268 (by decide +kernel) (by decide +kernel)⟩
theorem oiX1_3 : Cond.methodLink RX1 3 objectInit ∈ az_tb := az_in 271 (by decide +kernel) (by decide +kernel)
theorem lkX7_46 : az_Lk RX7 46 yX0_init := Or.inr ⟨"WayMarks", az_inN 308 (by decide +kernel) (by decide +kernel)⟩
theorem oiX0_3 : Cond.methodLink RX0 3 objectInit ∈ az_tb := az_in 311 (by decide +kernel) (by decide +kernel)
theorem lkX7_53 : az_Lk RX7 53 yX4_init := Or.inr ⟨"WayMarks", az_inN 339 (by decide +kernel) (by decide +kernel)⟩
theorem oiX4_3 : Cond.methodLink RX4 3 objectInit ∈ az_tb := az_in 342 (by decide +kernel) (by decide +kernel)
theorem lkL_12 : az_Lk RL 12 yX8_init := Or.inl (az_in 829 (by decide +kernel) (by decide +kernel))
theorem oiX8_1 : Cond.methodLink RX8 1 objectInit ∈ az_tb := az_in 832 (by decide +kernel) (by decide +kernel)
theorem okX0_init : ay_OI mX0_init := ⟨az_in 310 (by decide +kernel) (by decide +kernel), rfl, az_in 108 (by decide +kernel) (by decide +kernel), az_in 309 (by decide +kernel) (by decide +kernel), rfl, ⟨by decide +kernel, by decide +kernel, by decide +kernel⟩, by decide +kernel⟩
theorem okX1_init : ay_OI mX1_init := ⟨az_in 270 (by decide +kernel) (by decide +kernel), rfl, az_in 107 (by decide +kernel) (by decide +kernel), az_in 269 (by decide +kernel) (by decide +kernel), rfl, ⟨by decide +kernel, by decide +kernel, by decide +kernel⟩, by decide +kernel⟩
theorem okX2_init : ay_OI mX2_init := ⟨az_in 126 (by decide +kernel) (by decide +kernel), rfl, az_in 102 (by decide +kernel) (by decide +kernel), az_in 125 (by decide +kernel) (by decide +kernel), rfl, ⟨by decide +kernel, by decide +kernel, by decide +kernel⟩, by decide +kernel⟩
theorem okX3_init : ay_OI mX3_init := ⟨az_in 194 (by decide +kernel) (by decide +kernel), rfl, az_in 104 (by decide +kernel) (by decide +kernel), az_in 193 (by decide +kernel) (by decide +kernel), rfl, ⟨by decide +kernel, by decide +kernel, by decide +kernel⟩, by decide +kernel⟩
theorem okX4_init : ay_OI mX4_init := ⟨az_in 341 (by decide +kernel) (by decide +kernel), rfl, az_in 109 (by decide +kernel) (by decide +kernel), az_in 340 (by decide +kernel) (by decide +kernel), rfl, ⟨by decide +kernel, by decide +kernel, by decide +kernel⟩, by decide +kernel⟩
theorem okX5_init : ay_OI mX5_init := ⟨az_in 228 (by decide +kernel) (by decide +kernel), rfl, az_in 106 (by decide +kernel) (by decide +kernel), az_in 227 (by decide +kernel) (by decide +kernel), rfl, ⟨by decide +kernel, by decide +kernel, by decide +kernel⟩, by decide +kernel⟩
theorem okX6_init : ay_OI mX6_init := ⟨az_in 214 (by decide +kernel) (by decide +kernel), rfl, az_in 105 (by decide +kernel) (by decide +kernel), az_in 213 (by decide +kernel) (by decide +kernel), rfl, ⟨by decide +kernel, by decide +kernel, by decide +kernel⟩, by decide +kernel⟩
theorem okX7_init : ay_OI mX7_init := ⟨az_in 118 (by decide +kernel) (by decide +kernel), rfl, az_in 101 (by decide +kernel) (by decide +kernel), az_in 117 (by decide +kernel) (by decide +kernel), rfl, ⟨by decide +kernel, by decide +kernel, by decide +kernel⟩, by decide +kernel⟩
theorem okX8_init : ay_OI mX8_init := ⟨az_in 831 (by decide +kernel) (by decide +kernel), rfl, az_in 110 (by decide +kernel) (by decide +kernel), az_in 830 (by decide +kernel) (by decide +kernel), rfl, ⟨by decide +kernel, by decide +kernel, by decide +kernel⟩, by decide +kernel⟩
theorem ffX2_34 : ay_FF RX2 34 2 7 := ⟨TX2, 12, tyX2, rfl, by decide +kernel, iaX2, rfl, az_in 151 (by decide +kernel) (by decide +kernel), tyX2_ok, nmX2, rfl, fun v => ⟨rfl, rfl⟩⟩
theorem ffX2_38 : ay_FF RX2 38 2 8 := ⟨TX2, 12, tyX2, rfl, by decide +kernel, iaX2, rfl, az_in 153 (by decide +kernel) (by decide +kernel), tyX2_ok, nmX2, rfl, fun v => ⟨rfl, rfl⟩⟩
theorem ffX2_41 : ay_FF RX2 41 2 9 := ⟨TX2, 12, tyX2, rfl, by decide +kernel, iaX2, rfl, az_in 156 (by decide +kernel) (by decide +kernel), tyX2_ok, nmX2, rfl, fun v => ⟨rfl, rfl⟩⟩
theorem ffX2_44 : ay_FF RX2 44 2 10 := ⟨TX2, 12, tyX2, rfl, by decide +kernel, iaX2, rfl, az_in 159 (by decide +kernel) (by decide +kernel), tyX2_ok, nmX2, rfl, fun v => ⟨rfl, rfl⟩⟩
theorem ffX2_47 : ay_FF RX2 47 2 11 := ⟨TX2, 12, tyX2, rfl, by decide +kernel, iaX2, rfl, az_in 162 (by decide +kernel) (by decide +kernel), tyX2_ok, nmX2, rfl, fun v => ⟨rfl, rfl⟩⟩
theorem ffX3_11 : ay_FF RX3 11 3 0 := ⟨TX3, 3, tyX3, rfl, by decide +kernel, iaX3, rfl, az_in 199 (by decide +kernel) (by decide +kernel), tyX3_ok, nmX3, rfl, fun v => ⟨rfl, rfl⟩⟩
theorem ffX6_9 : ay_FF RX6 9 6 0 := ⟨TX6, 2, tyX6, rfl, by decide +kernel, iaX6, rfl, az_in 216 (by decide +kernel) (by decide +kernel), tyX6_ok, nmX6, rfl, fun v => ⟨rfl, rfl⟩⟩
theorem ffX5_15 : ay_FF RX5 15 5 1 := ⟨TX5, 8, tyX5, rfl, by decide +kernel, iaX5, rfl, az_in 232 (by decide +kernel) (by decide +kernel), tyX5_ok, nmX5, rfl, fun v => ⟨rfl, rfl⟩⟩
theorem ffX5_19 : ay_FF RX5 19 5 2 := ⟨TX5, 8, tyX5, rfl, by decide +kernel, iaX5, rfl, az_in 234 (by decide +kernel) (by decide +kernel), tyX5_ok, nmX5, rfl, fun v => ⟨rfl, rfl⟩⟩
theorem ffX5_22 : ay_FF RX5 22 5 3 := ⟨TX5, 8, tyX5, rfl, by decide +kernel, iaX5, rfl, az_in 236 (by decide +kernel) (by decide +kernel), tyX5_ok, nmX5, rfl, fun v => ⟨rfl, rfl⟩⟩
theorem ffX5_25 : ay_FF RX5 25 5 4 := ⟨TX5, 8, tyX5, rfl, by decide +kernel, iaX5, rfl, az_in 238 (by decide +kernel) (by decide +kernel), tyX5_ok, nmX5, rfl, fun v => ⟨rfl, rfl⟩⟩
theorem ffX5_28 : ay_FF RX5 28 5 5 := ⟨TX5, 8, tyX5, rfl, by decide +kernel, iaX5, rfl, az_in 241 (by decide +kernel) (by decide +kernel), tyX5_ok, nmX5, rfl, fun v => ⟨rfl, rfl⟩⟩
theorem ffX5_31 : ay_FF RX5 31 5 6 := ⟨TX5, 8, tyX5, rfl, by decide +kernel, iaX5, rfl, az_in 243 (by decide +kernel) (by decide +kernel), tyX5_ok, nmX5, rfl, fun v => ⟨rfl, rfl⟩⟩
theorem ffX5_34 : ay_FF RX5 34 5 7 := ⟨TX5, 8, tyX5, rfl, by decide +kernel, iaX5, rfl, az_in 246 (by decide +kernel) (by decide +kernel), tyX5_ok, nmX5, rfl, fun v => ⟨rfl, rfl⟩⟩
theorem ffX1_9 : ay_FF RX1 9 1 0 := ⟨TX1, 10, tyX1, rfl, by decide +kernel, iaX1, rfl, az_in 272 (by decide +kernel) (by decide +kernel), tyX1_ok, nmX1, rfl, fun v => ⟨rfl, rfl⟩⟩
theorem ffX1_22 : ay_FF RX1 22 1 3 := ⟨TX1, 10, tyX1, rfl, by decide +kernel, iaX1, rfl, az_in 275 (by decide +kernel) (by decide +kernel), tyX1_ok, nmX1, rfl, fun v => ⟨rfl, rfl⟩⟩
theorem ffX0_9 : ay_FF RX0 9 0 0 := ⟨TX0, 8, tyX0, rfl, by decide +kernel, iaX0, rfl, az_in 312 (by decide +kernel) (by decide +kernel), tyX0_ok, nmX0, rfl, fun v => ⟨rfl, rfl⟩⟩
theorem ffX0_15 : ay_FF RX0 15 0 1 := ⟨TX0, 8, tyX0, rfl, by decide +kernel, iaX0, rfl, az_in 313 (by decide +kernel) (by decide +kernel), tyX0_ok, nmX0, rfl, fun v => ⟨rfl, rfl⟩⟩
theorem ffX0_18 : ay_FF RX0 18 0 2 := ⟨TX0, 8, tyX0, rfl, by decide +kernel, iaX0, rfl, az_in 314 (by decide +kernel) (by decide +kernel), tyX0_ok, nmX0, rfl, fun v => ⟨rfl, rfl⟩⟩
theorem ffX0_32 : ay_FF RX0 32 0 6 := ⟨TX0, 8, tyX0, rfl, by decide +kernel, iaX0, rfl, az_in 318 (by decide +kernel) (by decide +kernel), tyX0_ok, nmX0, rfl, fun v => ⟨rfl, rfl⟩⟩
theorem ffX0_35 : ay_FF RX0 35 0 7 := ⟨TX0, 8, tyX0, rfl, by decide +kernel, iaX0, rfl, az_in 319 (by decide +kernel) (by decide +kernel), tyX0_ok, nmX0, rfl, fun v => ⟨rfl, rfl⟩⟩
theorem ffX4_11 : ay_FF RX4 11 4 0 := ⟨TX4, 2, tyX4, rfl, by decide +kernel, iaX4, rfl, az_in 343 (by decide +kernel) (by decide +kernel), tyX4_ok, nmX4, rfl, fun v => ⟨rfl, rfl⟩⟩
theorem ffX4_15 : ay_FF RX4 15 4 1 := ⟨TX4, 2, tyX4, rfl, by decide +kernel, iaX4, rfl, az_in 344 (by decide +kernel) (by decide +kernel), tyX4_ok, nmX4, rfl, fun v => ⟨rfl, rfl⟩⟩
theorem ffX7_12 : ay_FF RX7 12 7 0 := ⟨TX7, 9, tyX7, rfl, by decide +kernel, iaX7, rfl, az_in 350 (by decide +kernel) (by decide +kernel), tyX7_ok, nmX7, rfl, fun v => ⟨rfl, rfl⟩⟩
theorem ffX7_19 : ay_FF RX7 19 7 1 := ⟨TX7, 9, tyX7, rfl, by decide +kernel, iaX7, rfl, az_in 351 (by decide +kernel) (by decide +kernel), tyX7_ok, nmX7, rfl, fun v => ⟨rfl, rfl⟩⟩
theorem ffX7_26 : ay_FF RX7 26 7 2 := ⟨TX7, 9, tyX7, rfl, by decide +kernel, iaX7, rfl, az_in 352 (by decide +kernel) (by decide +kernel), tyX7_ok, nmX7, rfl, fun v => ⟨rfl, rfl⟩⟩
theorem ffX7_33 : ay_FF RX7 33 7 3 := ⟨TX7, 9, tyX7, rfl, by decide +kernel, iaX7, rfl, az_in 353 (by decide +kernel) (by decide +kernel), tyX7_ok, nmX7, rfl, fun v => ⟨rfl, rfl⟩⟩
theorem ffX7_40 : ay_FF RX7 40 7 4 := ⟨TX7, 9, tyX7, rfl, by decide +kernel, iaX7, rfl, az_in 354 (by decide +kernel) (by decide +kernel), tyX7_ok, nmX7, rfl, fun v => ⟨rfl, rfl⟩⟩
theorem ffX7_47 : ay_FF RX7 47 7 5 := ⟨TX7, 9, tyX7, rfl, by decide +kernel, iaX7, rfl, az_in 355 (by decide +kernel) (by decide +kernel), tyX7_ok, nmX7, rfl, fun v => ⟨rfl, rfl⟩⟩
theorem ffX7_54 : ay_FF RX7 54 7 6 := ⟨TX7, 9, tyX7, rfl, by decide +kernel, iaX7, rfl, az_in 356 (by decide +kernel) (by decide +kernel), tyX7_ok, nmX7, rfl, fun v => ⟨rfl, rfl⟩⟩
theorem ffX8_7 : ay_FF RX8 7 8 0 := ⟨TX8, 16, tyX8, rfl, by decide +kernel, iaX8, rfl, az_in 856 (by decide +kernel) (by decide +kernel), tyX8_ok, nmX8, rfl, fun v => ⟨rfl, rfl⟩⟩
theorem ffX8_14 : ay_FF RX8 14 8 1 := ⟨TX8, 16, tyX8, rfl, by decide +kernel, iaX8, rfl, az_in 857 (by decide +kernel) (by decide +kernel), tyX8_ok, nmX8, rfl, fun v => ⟨rfl, rfl⟩⟩
theorem ffX8_17 : ay_FF RX8 17 8 4 := ⟨TX8, 16, tyX8, rfl, by decide +kernel, iaX8, rfl, az_in 860 (by decide +kernel) (by decide +kernel), tyX8_ok, nmX8, rfl, fun v => ⟨rfl, rfl⟩⟩
theorem ffX8_20 : ay_FF RX8 20 8 7 := ⟨TX8, 16, tyX8, rfl, by decide +kernel, iaX8, rfl, az_in 863 (by decide +kernel) (by decide +kernel), tyX8_ok, nmX8, rfl, fun v => ⟨rfl, rfl⟩⟩
theorem ffX8_23 : ay_FF RX8 23 8 8 := ⟨TX8, 16, tyX8, rfl, by decide +kernel, iaX8, rfl, az_in 864 (by decide +kernel) (by decide +kernel), tyX8_ok, nmX8, rfl, fun v => ⟨rfl, rfl⟩⟩
theorem ffX8_26 : ay_FF RX8 26 8 9 := ⟨TX8, 16, tyX8, rfl, by decide +kernel, iaX8, rfl, az_in 865 (by decide +kernel) (by decide +kernel), tyX8_ok, nmX8, rfl, fun v => ⟨rfl, rfl⟩⟩
theorem ffX8_29 : ay_FF RX8 29 8 10 := ⟨TX8, 16, tyX8, rfl, by decide +kernel, iaX8, rfl, az_in 866 (by decide +kernel) (by decide +kernel), tyX8_ok, nmX8, rfl, fun v => ⟨rfl, rfl⟩⟩
theorem ffX8_32 : ay_FF RX8 32 8 11 := ⟨TX8, 16, tyX8, rfl, by decide +kernel, iaX8, rfl, az_in 867 (by decide +kernel) (by decide +kernel), tyX8_ok, nmX8, rfl, fun v => ⟨rfl, rfl⟩⟩
theorem ffX8_36 : ay_FF RX8 36 8 12 := ⟨TX8, 16, tyX8, rfl, by decide +kernel, iaX8, rfl, az_in 868 (by decide +kernel) (by decide +kernel), tyX8_ok, nmX8, rfl, fun v => ⟨rfl, rfl⟩⟩
theorem ffX8_39 : ay_FF RX8 39 8 13 := ⟨TX8, 16, tyX8, rfl, by decide +kernel, iaX8, rfl, az_in 869 (by decide +kernel) (by decide +kernel), tyX8_ok, nmX8, rfl, fun v => ⟨rfl, rfl⟩⟩
theorem ffX8_42 : ay_FF RX8 42 8 14 := ⟨TX8, 16, tyX8, rfl, by decide +kernel, iaX8, rfl, az_in 870 (by decide +kernel) (by decide +kernel), tyX8_ok, nmX8, rfl, fun v => ⟨rfl, rfl⟩⟩
theorem ffX8_45 : ay_FF RX8 45 8 15 := ⟨TX8, 16, tyX8, rfl, by decide +kernel, iaX8, rfl, az_in 871 (by decide +kernel) (by decide +kernel), tyX8_ok, nmX8, rfl, fun v => ⟨rfl, rfl⟩⟩
abbrev dvX0 : List Value := [.null, .null, .null, .int 0, .int 0, .int 0, .null, .null]
abbrev dvX1 : List Value := [.null, .int 0, .int 0, .null, .int 0, .int 0, .int 0, .int 0, .int 0, .int 0]
abbrev dvX2 : List Value := [.int 0, .int 0, .int 0, .int 0, .int 0, .int 0, .int 0, .null, .null, .null, .null, .null]
abbrev dvX3 : List Value := [.null, .int 0, .int 0]
abbrev dvX4 : List Value := [.null, .null]
abbrev dvX5 : List Value := [.int 0, .null, .null, .null, .null, .null, .null, .null]
abbrev dvX6 : List Value := [.null, .int 0]
abbrev dvX7 : List Value := [.null, .null, .null, .null, .null, .null, .null, .int 0, .int 0]
abbrev dvX8 : List Value := [.null, .null, .int 0, .int 0, .null, .int 0, .int 0, .null, .null, .null, .null, .null, .null, .null, .null, .null]
theorem clL_7 : Cond.classLink RL 7 "WayMarks" ∈ az_tb := az_in 114 (by decide +kernel) (by decide +kernel)
theorem nwL_7 : ay_NW RL 7 7 dvX7 := ⟨RX7, TX7, 9, tyX7, rfl, rfl, iaX7, tyX7_ok, clL_7, az_in 115 (by decide +kernel) (by decide +kernel), az_in 101 (by decide +kernel) (by decide +kernel), by decide +kernel⟩
theorem clX7_9 : Cond.classLink RX7 9 "WayMarks$Net" ∈ az_tb := az_in 122 (by decide +kernel) (by decide +kernel)
theorem nwX7_9 : ay_NW RX7 9 2 dvX2 := ⟨RX2, TX2, 12, tyX2, rfl, rfl, iaX2, tyX2_ok, clX7_9, az_in 123 (by decide +kernel) (by decide +kernel), az_in 102 (by decide +kernel) (by decide +kernel), by decide +kernel⟩
theorem clX7_16 : Cond.classLink RX7 16 "WayMarks$Past" ∈ az_tb := az_in 190 (by decide +kernel) (by decide +kernel)
theorem nwX7_16 : ay_NW RX7 16 3 dvX3 := ⟨RX3, TX3, 3, tyX3, rfl, rfl, iaX3, tyX3_ok, clX7_16, az_in 191 (by decide +kernel) (by decide +kernel), az_in 104 (by decide +kernel) (by decide +kernel), by decide +kernel⟩
theorem clX3_9 : Cond.classLink RX3 9 "WayMarks$Net" ∈ az_tb := az_in 196 (by decide +kernel) (by decide +kernel)
theorem nwX3_9 : ay_NW RX3 9 2 dvX2 := ⟨RX2, TX2, 12, tyX2, rfl, rfl, iaX2, tyX2_ok, clX3_9, az_in 123 (by decide +kernel) (by decide +kernel), az_in 102 (by decide +kernel) (by decide +kernel), by decide +kernel⟩
theorem clX7_23 : Cond.classLink RX7 23 "WayMarks$Tape" ∈ az_tb := az_in 210 (by decide +kernel) (by decide +kernel)
theorem nwX7_23 : ay_NW RX7 23 6 dvX6 := ⟨RX6, TX6, 2, tyX6, rfl, rfl, iaX6, tyX6_ok, clX7_23, az_in 211 (by decide +kernel) (by decide +kernel), az_in 105 (by decide +kernel) (by decide +kernel), by decide +kernel⟩
theorem clX7_30 : Cond.classLink RX7 30 "WayMarks$Sight" ∈ az_tb := az_in 224 (by decide +kernel) (by decide +kernel)
theorem nwX7_30 : ay_NW RX7 30 5 dvX5 := ⟨RX5, TX5, 8, tyX5, rfl, rfl, iaX5, tyX5_ok, clX7_30, az_in 225 (by decide +kernel) (by decide +kernel), az_in 106 (by decide +kernel) (by decide +kernel), by decide +kernel⟩
theorem clX7_37 : Cond.classLink RX7 37 "WayMarks$Choice" ∈ az_tb := az_in 266 (by decide +kernel) (by decide +kernel)
theorem nwX7_37 : ay_NW RX7 37 1 dvX1 := ⟨RX1, TX1, 10, tyX1, rfl, rfl, iaX1, tyX1_ok, clX7_37, az_in 267 (by decide +kernel) (by decide +kernel), az_in 107 (by decide +kernel) (by decide +kernel), by decide +kernel⟩
theorem clX7_44 : Cond.classLink RX7 44 "WayMarks$Asking" ∈ az_tb := az_in 306 (by decide +kernel) (by decide +kernel)
theorem nwX7_44 : ay_NW RX7 44 0 dvX0 := ⟨RX0, TX0, 8, tyX0, rfl, rfl, iaX0, tyX0_ok, clX7_44, az_in 307 (by decide +kernel) (by decide +kernel), az_in 108 (by decide +kernel) (by decide +kernel), by decide +kernel⟩
theorem clX7_51 : Cond.classLink RX7 51 "WayMarks$Seeking" ∈ az_tb := az_in 337 (by decide +kernel) (by decide +kernel)
theorem nwX7_51 : ay_NW RX7 51 4 dvX4 := ⟨RX4, TX4, 2, tyX4, rfl, rfl, iaX4, tyX4_ok, clX7_51, az_in 338 (by decide +kernel) (by decide +kernel), az_in 109 (by decide +kernel) (by decide +kernel), by decide +kernel⟩
theorem clL_10 : Cond.classLink RL 10 "WayMarksModel" ∈ az_tb := az_in 827 (by decide +kernel) (by decide +kernel)
theorem nwL_10 : ay_NW RL 10 8 dvX8 := ⟨RX8, TX8, 16, tyX8, rfl, rfl, iaX8, tyX8_ok, clL_10, az_in 828 (by decide +kernel) (by decide +kernel), az_in 110 (by decide +kernel) (by decide +kernel), by decide +kernel⟩

/-! the whole world, however its cells are ordered; a call of a contract of the abstract layer from any walk -/
theorem va_P_iff {D : va_G} {cl : List vw_C} {ws : va_W} {H : Heap} : va_P D cl ws H ↔ ∀ q ∈ ws, va_at D cl q H :=
  ⟨fun h q hq => by obtain ⟨i, hi⟩ := List.mem_iff_getElem?.mp hq; exact h i q hi, fun h k q hk => h q (List.mem_of_getElem? hk)⟩
theorem va_D_iff {A : Nat → Prop} {ws : va_W} : va_D A ws ↔ ((ws.map Prod.fst).Pairwise (fun a b => a ≠ b)) ∧ ∀ q ∈ ws, A q.1 := by
  constructor
  · intro h
    refine ⟨List.pairwise_iff_getElem.mpr (fun i j hi hj hij he => ?_), fun q hq => by obtain ⟨i, hi⟩ := List.mem_iff_getElem?.mp hq; exact h.2 i q hi⟩
    rw [List.length_map] at hi hj
    rw [List.getElem_map, List.getElem_map] at he
    have := h.1 i j _ _ (List.getElem?_eq_getElem hi) (List.getElem?_eq_getElem hj) he
    omega
  · intro h
    refine ⟨fun i j p q hp hq he => ?_, fun k q hk => h.2 q (List.mem_of_getElem? hk)⟩
    obtain ⟨hi, ep⟩ := List.getElem?_eq_some_iff.mp hp
    obtain ⟨hj, eq⟩ := List.getElem?_eq_some_iff.mp hq
    have key := List.pairwise_iff_getElem.mp h.1
    rcases Nat.lt_trichotomy i j with c | c | c
    · have := key i j (by rw [List.length_map]; exact hi) (by rw [List.length_map]; exact hj) c
      rw [List.getElem_map, List.getElem_map, ep, eq] at this
      exact absurd he this
    · exact c
    · have := key j i (by rw [List.length_map]; exact hj) (by rw [List.length_map]; exact hi) c
      rw [List.getElem_map, List.getElem_map, ep, eq] at this
      exact absurd he.symm this
theorem va_P_perm {D : va_G} {cl : List vw_C} {w1 w2 : va_W} {H : Heap} (hp : w1.Perm w2) (h : va_P D cl w1 H) : va_P D cl w2 H := va_P_iff.mpr (fun q hq => va_P_iff.mp h q (hp.mem_iff.mpr hq))
theorem va_D_perm {A : Nat → Prop} {w1 w2 : va_W} (hp : w1.Perm w2) (h : va_D A w1) : va_D A w2 := by
  rw [va_D_iff] at h ⊢
  exact ⟨(hp.map Prod.fst).pairwise_iff (fun hne => hne.symm) |>.mp h.1, fun q hq => h.2 q (hp.mem_iff.mpr hq)⟩
theorem ay_wl {Y : ay_Y} {ad : Nat → Nat} {mem : az_M} : ay_bl Y ad mem 0 404 = az_wl (Y.1, Y.2.1, Y.2.2, ad) mem := by
  unfold ay_bl az_wl az_K
  refine List.map_congr_left (fun k _ => ?_)
  rw [Nat.zero_add]
theorem ax_A {X : az_X} {mem : az_M} {A0 : Nat → Prop} (hD : va_D A0 (az_wl X mem)) : ∀ q, az_A X q → A0 q := by
  rintro q ⟨k, hk, rfl⟩
  exact hD.2 k _ (az_wl_at hk)
theorem ax_D {X : az_X} {mem : az_M} {A0 : Nat → Prop} (hD : va_D A0 (az_wl X mem)) : va_D (az_A X) (az_wl X mem) := ⟨hD.1, fun k q hq => by
  have hk : k < az_K := by have := (List.getElem?_eq_some_iff.mp hq).1; simpa [az_wl] using this
  rw [az_wl_at hk] at hq
  cases hq
  exact ⟨k, hk, rfl⟩⟩
section AX1
variable {p : Program} {e : Env} {R : Room} {s : State} {m : MethodId} {args : Array Value} {below : List Frame} {meth : Method} {c : Code} {H : Heap} {locs : List Loc} {cells slots : Nat} {Z : State → Prop} {A0 : Nat → Prop} {X : az_X} {mem : az_M} {cc : ByteArray} {own : String} {nL pc : Nat} {ls : Array Slot}
theorem ax_call {idx ci n k d : Nat} {N : az_Me} {fs : List (Option Nat)} {T : u_T} {nn : Nat} {rest : List Value} {Q1 : Option az_V → az_M → Prop} (As : List az_V) (hx : p.tables.exec = Jvm.exec) (hb : c.code = cc) (hml : c.maxLocals = nL) (hown : s.vm.findClass own = some m.cls) (hts : ∀ w ∈ az_tb, w.before args s = true) (hnw : az_nw s) (hK : va_K X.2.1 az_cl (az_ty X) s) (hP : va_P X.2.1 az_cl (az_wl X mem) H) (hD : va_D A0 (az_wl X mem)) (hS : va_S A0 s.heap H locs) (hsz : ls.size = nL)
    (hd : decode cc pc = .ok (.invokevirtual idx, 3)) (hk : az_Lk own idx N.1) (hN : az_OV N n) (hob : az_Ob k ci fs) (hc : az_cl[ci]? = some (N.1.cls, T, nn)) (hn : As.length = n) (hr : (rest.map fun v => v.category).sum ≤ 8) (hRf : d + 1 ≤ R.frames) (hRl : 59 + 64 * d ≤ R.locals) (hcl : cells ≤ R.cells) (hsl : slots ≤ R.slots) (hs : az_Sp X d N (.inr k :: As) mem Q1)
    (kk : ∀ (r : Option az_V) (mem' : az_M) (H1 : Heap) (locs1 : List Loc), Q1 r mem' → va_P X.2.1 az_cl (az_wl X mem') H1 → va_D A0 (az_wl X mem') → va_S A0 s.heap H1 locs1 → W p X.1 e R s m args below meth c H1 locs1 cells slots Z (F0 m (pc + 3) ls ((r.map (az_cv X)).toList ++ rest))) : W p X.1 e R s m args below meth c H locs cells slots Z (F0 m pc ls ((As.map (az_cv X)).reverse ++ .ref (X.2.2.2 k) :: rest)) := by
  have he : (az_wl X mem)[k]? = some (X.2.2.2 k, .inr (ci, az_fl X fs (mem k))) := by rw [az_wl_at hob.1, az_ce_ob hob]
  have hA := ax_A hD
  have hPV : PreV s H N.1.cls (X.2.2.2 k) (va_Pc ((Sum.inr k :: As).map (az_cv X)) (fun U => az_Wd X mem U.heap ∧ va_K X.2.1 az_cl (az_ty X) U ∧ az_nw U)) (As.map (az_cv X)) :=
    ⟨az_blind _, va_recv (q := (N.1.cls, T, nn)) hK hP hc he, fun U hU hWm => ⟨rfl, ⟨by rw [hU]; exact hP, ax_D hD⟩, va_K.moved hWm.alike hK, az_nw_warm hWm hnw⟩⟩
  have hsum : 2 * (F0 m pc ls ((As.map (az_cv X)).reverse ++ .ref (X.2.2.2 k) :: rest)).monitorRoom + (rest.map fun v => v.category).sum ≤ 8 := by simpa [JFrame.monitorRoom] using hr
  have hm40 := hN.1.2.2.2
  have hroom : (az_rm d).frames + 1 ≤ R.frames ∧ 8 + (N.2.2.1 + 11) + (az_rm d).locals ≤ R.locals := ⟨hRf, by show 8 + (N.2.2.1 + 11) + 64 * d ≤ _; omega⟩
  have run : va_Run p X.1 e R s m args below meth c H locs cells slots 0 0 (F0 m pc ls ((As.map (az_cv X)).reverse ++ .ref (X.2.2.2 k) :: rest)) rest (az_Q X Q1 (Value.ref (X.2.2.2 k) :: As.map (az_cv X)).toArray) (az_A X) := by
    rcases hk with hk | ⟨host, hk⟩
    · exact va_runV (C := N.1.cls) ⟨hx, hb, hml, hown, hts⟩ hs (⟨callB_of n hts (az_goodIn hN.1) rfl rfl rfl (hts _ hN.1.2.1) (hts _ hk) hN.1.2.2.1 hroom, hts _ hN.2.1, hts _ hN.2.2⟩) hPV rfl (by simpa using hn) hsz rfl hsum hd ⟨hcl, hsl⟩
    · exact va_runVN (C := N.1.cls) (host := host) ⟨hx, hb, hml, hown, hts⟩ hs ⟨va_cnB n hts (az_goodIn hN.1) rfl rfl rfl (hnw _ hk) (hts _ hN.1.2.1) hN.1.2.2.1 hroom, hts _ hN.2.1, hts _ hN.2.2⟩ hPV rfl (by simpa using hn) hsz rfl hsum hd ⟨hcl, hsl⟩
  intro T0 hT0 X0
  obtain ⟨v, st₀, t, T', L, h0, X', hL, e1, e2, ⟨⟨r, mem', hv, hq, hw, hk'⟩, hz, hkp⟩, st⟩ := run T0 hT0 X0
  cases hv
  rw [h0] at hz hkp
  obtain ⟨t2, a1, b1⟩ := kk r mem' T'.heap (locs ++ L) hq (by rw [e1]; exact hw.1) (hw.2.weaken (fun _ q _ h => hA q.1 h))
    ⟨Nat.le_trans hS.1 (by rw [e1]; exact hz), fun q h1 h2 => by rw [e1, hkp q (Nat.lt_of_lt_of_le h1 hS.1) (fun z => h2 (hA q z))]; exact hS.2.1 q h1 h2, fun q hq => by
      rcases List.mem_append.mp hq with h | h
      · exact hS.2.2 q h
      · exact hA _ (hL q h)⟩ T' rfl X'
  exact ⟨t2, st t2 a1, b1⟩
end AX1
/-- behind the reference's field rows: its first post, and the ways -/
def zM0 (mem : az_M) : Prop := (∀ j, mem 391 j = 0) ∧ ∀ j, mem 392 j = 0
theorem z_first {X : az_X} {d : Nat} {mem : az_M} {Q : Option az_V → az_M → Prop} (h1 : ∀ j, mem 392 j = if j = 0 then 1 else 0) (hQ : ∀ m', (∀ k, k ≠ 392 → m' k = mem k) → (∀ j, m' 392 j = if j = 0 ∨ j = 279 ∨ j = 295 then 1 else 0) → Q none m') : az_Sp X d mX8_first [.inr 391, .inl 0] mem Q := by
  refine s_X8_first (p := 0) (by decide) (hQ _ (fun k hk => by rw [az_w_ne _ hk, az_w_ne _ hk]) (fun j => ?_))
  rw [az_w_same, az_w_same]
  unfold upd
  by_cases e1 : j = 295
  · rw [if_pos e1, if_pos (by omega)]
  · rw [if_neg e1]
    by_cases e2 : j = 279
    · rw [if_pos e2, if_pos (by omega)]
    · rw [if_neg e2, h1 j]
      by_cases e3 : j = 0
      · rw [if_pos e3, if_pos (by omega)]
      · rw [if_neg e3, if_neg (by omega)]
theorem zJ_start {mem : az_M} (hc : zCls0 mem) (h391 : ∀ j, mem 391 j = 0) (h392 : ∀ j, mem 392 j = if j = 0 ∨ j = 279 ∨ j = 295 then 1 else 0) (hF : zF mem 1) : zJ mem := by
  obtain ⟨⟨n1, n2, n3, n4, n5⟩, ⟨p1, p2⟩, t1, x1, x2⟩ := hc
  have s0 : ∀ j, j ≠ 0 → j ≠ 279 → j ≠ 295 → mem 392 j = 0 := fun j a b c => by rw [h392, if_neg (by omega)]
  have n0 : ∀ j, j ≠ 0 → mem 1 j = 0 := fun j a => by rw [n1, if_neg a]
  refine ⟨1, 0, 0, 0, ⟨⟨?_, ?_, by omega, by omega⟩, ⟨?_, ⟨0, by omega, ?_⟩, ?_⟩, ⟨?_, ⟨0, by omega, ?_⟩, ?_, ?_⟩, ⟨?_, ?_⟩, ⟨0, by omega, ?_, ?_, fun m hm => ?_, fun m _ hb => ?_⟩, ⟨fun _ => 0, fun i hi => ⟨?_, ?_, Nat.zero_le _⟩, fun _ _ _ _ => rfl, fun _ _ => rfl⟩, fun i hi => ?_, ⟨fun _ => 1, fun q hq => ⟨?_, Nat.le_refl _, Nat.le_of_ble_eq_true rfl, fun hq1 => ?_, fun _ => rfl⟩⟩, ⟨fun _ => 1, fun q hq => ⟨?_, Nat.le_of_ble_eq_true rfl, fun hq1 => ?_, fun _ => rfl⟩⟩⟩, ⟨?_, by omega, ?_, by omega⟩, ⟨?_, by omega, ?_, by omega⟩, fun k hk => absurd hk (by omega), fun i hi => ?_, ⟨Or.inr x1, fun q => ?_, hF⟩, ?_, ?_, ?_, by omega, fun i hi => absurd hi (by omega)⟩
  · rw [n1]; rfl
  · rw [h392]; rfl
  · rw [n0 1 (by decide), s0 1 (by decide) (by decide) (by decide)]
  · rw [s0 1 (by decide) (by decide) (by decide)]; rfl
  · rw [n0 2 (by decide), s0 2 (by decide) (by decide) (by decide)]
  · rw [n0 3 (by decide), s0 3 (by decide) (by decide) (by decide)]
  · rw [s0 3 (by decide) (by decide) (by decide)]; rfl
  · rw [n0 4 (by decide), s0 4 (by decide) (by decide) (by decide)]
  · exact Or.inl (s0 4 (by decide) (by decide) (by decide))
  · rw [n0 5 (by decide), s0 5 (by decide) (by decide) (by decide)]
  · exact Or.inl (s0 5 (by decide) (by decide) (by decide))
  · rw [n0 6 (by decide)]; rfl
  · rw [s0 6 (by decide) (by decide) (by decide), zn_pc_0]; rfl
  · rw [s0 _ (by omega) (by omega) (by omega), Nat.zero_testBit]; rfl
  · rw [Nat.zero_testBit] at hb; cases hb
  · rw [n2 i hi]; rfl
  · rw [s0 _ (by omega) (by omega) (by omega)]; rfl
  · rw [n3 i hi, s0 _ (by omega) (by omega) (by omega)]
  · rw [n4 q hq]; rfl
  · have : q = 0 := by omega
    subst this; rw [h392, if_pos (by omega)]; rfl
  · rw [n5 q hq]; rfl
  · have : q = 0 := by omega
    subst this; rw [h392, if_pos (by omega)]; rfl
  · rw [p1]; rfl
  · rw [p1]; rfl
  · rw [h391]; rfl
  · rw [h391]; rfl
  · have := (p2 i hi).1
    exact ⟨Or.inl (by rw [this]; rfl), Or.inl (by rw [this]; rfl)⟩
  · rw [x1] at q; exact absurd q (by decide)
  · rw [h391, x2]
  · rw [h391]; rfl
  · rw [t1]; rfl
section AX2
variable {Y : ay_Y} {R : Room} {M : az_Me} {w0 : va_W} {mc ms : Nat} {Q : va_W → Prop} {pc : Nat} {L : List (Option Value)} {st : List Value} {ws : va_W} {cells slots : Nat} {ad : Nat → Nat} {mem : az_M}
theorem ay_perm {ws' : va_W} (hp : ws.Perm ws') (k : ay_Ev Y R M w0 mc ms Q pc L st ws' cells slots) : ay_Ev Y R M w0 mc ms Q pc L st ws cells slots := by
  intro p e s m args below meth c H locs ls hx hb hml hown hr hlk hnm hts hnw hK hP hD hS hL
  exact k p e s m args below meth c H locs ls hx hb hml hown hr hlk hnm hts hnw hK (va_P_perm hp hP) (va_D_perm hp hD) hS hL
theorem ax_getr {idx ci j b k : Nat} {fs : List (Option Nat)} (hd : decode M.2.1 pc = .ok (.getfield idx, 3)) (hf : az_FL M.1.cls idx ci j) (hob : az_Ob k ci fs) (ho : fs[j]? = some (some b)) (kk : ay_Ev Y R M w0 mc ms Q (pc + 3) L (.ref (ad b) :: st) (az_wl (Y.1, Y.2.1, Y.2.2, ad) mem) cells slots) : ay_Ev Y R M w0 mc ms Q pc L (.ref (ad k) :: st) (az_wl (Y.1, Y.2.1, Y.2.2, ad) mem) cells slots := by
  intro p e s m args below meth c H locs ls hx hb hml hown hr hlk hnm hts hnw hK hP hD hS hL
  obtain ⟨C, T, N, hc, hjN, hin, hC, hl⟩ := hf
  have he : (az_wl (Y.1, Y.2.1, Y.2.2, ad) mem)[k]? = some (ad k, .inr (ci, az_fl (Y.1, Y.2.1, Y.2.2, ad) fs (mem k))) := by rw [az_wl_at hob.1, az_ce_ob hob]
  have k2 := kk p e s m args below meth c H locs ls hx hb hml hown hr hlk hnm hts hnw hK hP hD hS hL
  have hat := az_fl_at (X := (Y.1, Y.2.1, Y.2.2, ad)) (f := mem k) ho
  rcases hl with hl | ⟨host, hl⟩
  · exact va_get (ref := C) hx hb hts hin hown hK hP k he hc j hjN (hts _ hl) (fun x h => by rw [hC] at h; exact h) hat hd k2
  · exact va_getN (ref := C) (host := host) hx hb hts hin hown hK hP k he hc j hjN (az_nw_use hnw.1 hl) (fun x h => by rw [hC] at h; exact h) hat hd k2
theorem ax_iast {n i k : Nat} {x v : Int32} (hd : decode M.2.1 pc = .ok (.iastore, 1)) (ha : az_Ar k n) (hi : i < n) (hn : n < 2 ^ 31) (hxi : x = nI i) (kk : ay_Ev Y R M w0 mc ms Q (pc + 1) L st (az_wl (Y.1, Y.2.1, Y.2.2, ad) (az_w mem k i v)) cells slots) : ay_Ev Y R M w0 mc ms Q pc L (.int v :: .int x :: .ref (ad k) :: st) (az_wl (Y.1, Y.2.1, Y.2.2, ad) mem) cells slots := by
  intro p e s m args below meth c H locs ls hx hb hml hown hr hlk hnm hts hnw hK hP hD hS hL
  subst hxi
  have he : (az_wl (Y.1, Y.2.1, Y.2.2, ad) mem)[k]? = some (ad k, .inl (Y.2.2.1, n, .inl (mem k))) := by rw [az_wl_at ha.1, az_ce_ar ha]
  have hset : (az_wl (Y.1, Y.2.1, Y.2.2, ad) mem).set k (ad k, .inl (Y.2.2.1, n, .inl (upd (mem k) (nI i).toNatClampNeg v))) = az_wl (Y.1, Y.2.1, Y.2.2, ad) (az_w mem k i v) := by
    rw [nI_clamp (by omega)]
    have := az_wl_set (X := (Y.1, Y.2.1, Y.2.2, ad)) (mem := mem) (f := upd (mem k) i v) ha.1
    rw [az_ce_ar ha] at this
    exact this
  refine va_iast hx hb hK hP hD hS k 0 he rfl (vp_in_nI hi hn) hd (fun H1 locs1 h1 h2 h3 => ?_)
  rw [hset] at h1 h2
  exact kk p e s m args below meth c H1 locs1 ls hx hb hml hown hr hlk hnm hts hnw hK h1 h2 h3 hL
theorem ax_callE {idx ci n k d : Nat} {N : az_Me} {fs : List (Option Nat)} {T : u_T} {nn : Nat} {Q1 : Option az_V → az_M → Prop} (As : List az_V) (hd : decode M.2.1 pc = .ok (.invokevirtual idx, 3)) (hk : az_Lk M.1.cls idx N.1) (hN : az_OV N n) (hob : az_Ob k ci fs) (hc : az_cl[ci]? = some (N.1.cls, T, nn)) (hn : As.length = n) (hr : (st.map fun v => v.category).sum ≤ 8) (hRf : d + 1 ≤ R.frames) (hRl : 59 + 64 * d ≤ R.locals) (hcl : cells ≤ R.cells) (hsl : slots ≤ R.slots) (hs : az_Sp (Y.1, Y.2.1, Y.2.2, ad) d N (.inr k :: As) mem Q1)
    (kk : ∀ (r : Option az_V) (mem' : az_M), Q1 r mem' → ay_Ev Y R M w0 mc ms Q (pc + 3) L ((r.map (az_cv (Y.1, Y.2.1, Y.2.2, ad))).toList ++ st) (az_wl (Y.1, Y.2.1, Y.2.2, ad) mem') cells slots) : ay_Ev Y R M w0 mc ms Q pc L ((As.map (az_cv (Y.1, Y.2.1, Y.2.2, ad))).reverse ++ .ref (ad k) :: st) (az_wl (Y.1, Y.2.1, Y.2.2, ad) mem) cells slots := by
  intro p e s m args below meth c H locs ls hx hb hml hown hrt hlk hnm hts hnw hK hP hD hS hL
  exact ax_call (X := (Y.1, Y.2.1, Y.2.2, ad)) As hx hb hml hown hts hnw.1 hK hP hD hS hL.1 hd hk hN hob hc hn hr hRf hRl hcl hsl hs (fun r mem' H1 locs1 hq h1 h2 h3 => kk r mem' hq p e s m args below meth c H1 locs1 ls hx hb hml hown hrt hlk hnm hts hnw hK h1 h2 h3 hL)
end AX2

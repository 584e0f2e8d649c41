/-! CONSTRUCTORS: a world that grows. 'this' is the world's first cell; w0 is the world at the entry. -/
abbrev ay_Y : Type := Launch × va_G × (ClassId × ClassId)
def ay_ty (Y : ay_Y) : List (ClassId × FieldType) := [(Y.2.2.1, .int), (Y.2.2.2, .object "WayMarks$Net")]
def ay_B (Y : ay_Y) (A : Nat → Prop) (ws : va_W) (t : State) : Prop := va_P Y.2.1 az_cl ws t.heap ∧ va_K Y.2.1 az_cl (ay_ty Y) t ∧ va_D A ws
def ay_nw (U : State) : Prop := az_nw U ∧ va_AO "WayMarks$Net" U
theorem ay_nw_warm {s U : State} (hW : s.WarmedH U.vm) (h : ay_nw s) : ay_nw U := ⟨az_nw_warm hW h.1, va_AO.moved hW.alike h.2⟩
theorem ay_nw_same {s U : State} (hv : s.vm = U.vm) (h : ay_nw s) : ay_nw U := ⟨az_nw_same hv h.1, va_AO.moved (by rw [hv]; exact Vm.Alike.refl U.vm) h.2⟩
def ay_LR (ls : Array Slot) (n : Nat) (L : List (Option Value)) : Prop := ls.size = n ∧ lv_wf ls ∧ ∀ (i : Nat) (v : Value), L[i]? = some (some v) → ls[i]? = some (.val v)
def ay_Ev (Y : ay_Y) (R : Room) (M : az_Me) (w0 : va_W) (mc ms : Nat) (Q : va_W → Prop) (pc : Nat) (L : List (Option Value)) (st : List Value) (ws : va_W) (cells slots : Nat) : Prop :=
  ∀ (p : Program) (e : Env) (s : State) (m : MethodId) (args : Array Value) (below : List Frame) (meth : Method) (c : Code) (H : Heap) (locs : List Loc) (ls : Array Slot),
    p.tables.exec = Jvm.exec → c.code = M.2.1 → c.maxLocals = M.2.2.1 → s.vm.findClass M.1.cls = some m.cls → meth.sig.returnType = none → meth.locks = false → meth.name = M.1.name → (∀ w ∈ az_tb, w.before args s = true) → ay_nw s → va_K Y.2.1 az_cl (ay_ty Y) s → va_P Y.2.1 az_cl ws H → va_D (va_A w0 s.heap.size) ws → va_S (va_A w0 s.heap.size) s.heap H locs → ay_LR ls M.2.2.1 L →
    W p Y.1 e R s m args below meth c H locs cells slots (MQ below (va_Qv Q (ay_B Y (va_A w0 s.heap.size)) (va_A w0 s.heap.size)) args s mc ms (va_A w0 s.heap.size)) (F0 m pc ls st)
def ay_Pc (Y : ay_Y) (as : List Value) (w0 : va_W) (sz : Nat) : Array Value → State → Prop := va_Pc as (fun U => U.heap.size = sz ∧ va_P Y.2.1 az_cl w0 U.heap ∧ va_K Y.2.1 az_cl (ay_ty Y) U ∧ va_D (fun _ => True) w0 ∧ ay_nw U)
def ay_rm (f mc ms : Nat) : Room := { frames := f, cells := mc, slots := ms, locals := 64 * f }
def ay_Sp (Y : ay_Y) (f : Nat) (M : az_Me) (as : List Value) (w0 : va_W) (mc ms : Nat) (Q : va_W → Prop) : Prop := ∀ sz, Met Y.1 M.1 (az_ws M) (ay_rm f mc ms) (ay_Pc Y as w0 sz) (va_Qv Q (ay_B Y (va_A w0 sz)) (va_A w0 sz)) mc ms (va_A w0 sz)
theorem ay_blind {Y : ay_Y} {as : List Value} {w0 : va_W} {sz : Nat} : FrameBlind (ay_Pc Y as w0 sz) :=
  fun a U g mk q => ⟨q.1, q.2.1, q.2.2.1, va_K.moved (u := U) (U := U.calling g mk a) (Vm.Alike.refl U.vm) q.2.2.2.1, q.2.2.2.2.1, ay_nw_same (s := U) (U := U.calling g mk a) rfl q.2.2.2.2.2⟩
/-- the same int array class -/
theorem ay_int {Y : ay_Y} {cA : ClassId} {s : State} (hK : va_K Y.2.1 az_cl (ay_ty Y ++ [(cA, .int)]) s) : cA = Y.2.2.1 := by
  have h1 := (hK.2 0 (Y.2.2.1, .int) rfl).2
  have h2 := (hK.2 2 (cA, .int) rfl).2
  exact Option.some.inj (h2.symm.trans h1)
theorem ay_net {Y : ay_Y} {cA : ClassId} {s : State} (hK : va_K Y.2.1 az_cl (ay_ty Y ++ [(cA, .object "WayMarks$Net")]) s) : cA = Y.2.2.2 := by
  obtain ⟨_, _, _, _, _, h1⟩ := (hK.2 1 (Y.2.2.2, .object "WayMarks$Net") rfl).2
  obtain ⟨_, _, _, _, _, h2⟩ := (hK.2 2 (cA, .object "WayMarks$Net") rfl).2
  exact Option.some.inj (h2.symm.trans h1)
theorem ay_join {A0 : Nat → Prop} {D : va_G} {cl : List vw_C} {V wc w1 : va_W} {H H1 : Heap} (hP : va_P D cl (V ++ wc) H) (hD : va_D A0 (V ++ wc)) (hk : ∀ q : Nat, q < H.size → ¬ va_A wc H.size q → H1[q]? = H[q]?) (hF : ∀ q, va_A wc H.size q → A0 q) (hP1 : va_P D cl w1 H1) (hD1 : va_D (va_A wc H.size) w1) : va_P D cl (V ++ w1) H1 ∧ va_D A0 (V ++ w1) := by
  have inl : ∀ (k : Nat) (q : Nat × va_E), V[k]? = some q → (V ++ wc)[k]? = some q := fun k q h => by
    rw [List.getElem?_append_left (List.getElem?_eq_some_iff.mp h).1]; exact h
  have apart : ∀ (k : Nat) (q : Nat × va_E), V[k]? = some q → q.1 < H.size ∧ ¬ va_A wc H.size q.1 := by
    intro k q hq
    have hl := (hP k q (inl k q hq)).lt
    have hkl := (List.getElem?_eq_some_iff.mp hq).1
    refine ⟨hl, fun h => ?_⟩
    rcases h with ⟨k2, e, h⟩ | h
    · have h4 : (V ++ wc)[V.length + k2]? = some (q.1, e) := by
        rw [List.getElem?_append_right (by omega), Nat.add_sub_cancel_left]; exact h
      have := hD.1 k (V.length + k2) q (q.1, e) (inl k q hq) h4 rfl
      omega
    · omega
  have hDV : va_D A0 V := ⟨fun i j x y hx hy he => hD.1 i j x y (inl i x hx) (inl j y hy) he, fun k q hq => hD.2 k q (inl k q hq)⟩
  refine ⟨va_P.app (fun k q hq => ?_) hP1, va_D.app hDV (hD1.weaken (fun k q _ h => hF q.1 h)) (fun i j x y hx hy hxy => ?_)⟩
  · obtain ⟨g1, g2⟩ := apart k q hq
    exact (hP k q (inl k q hq)).kept (hk q.1 g1 g2)
  · exact (apart i x hx).2 (by rw [hxy]; exact hD1.2 j y hy)
theorem ay_right {D : va_G} {cl : List vw_C} {V wc : va_W} {H : Heap} (hP : va_P D cl (V ++ wc) H) : va_P D cl wc H := fun k q h => hP (V.length + k) q (by rw [List.getElem?_append_right (by omega), Nat.add_sub_cancel_left]; exact h)
theorem ay_rightD {A : Nat → Prop} {V wc : va_W} (hD : va_D A (V ++ wc)) : va_D A wc := ⟨fun i j x y hx hy he => by
  have := hD.1 (V.length + i) (V.length + j) x y (by rw [List.getElem?_append_right (by omega), Nat.add_sub_cancel_left]; exact hx) (by rw [List.getElem?_append_right (by omega), Nat.add_sub_cancel_left]; exact hy) he
  omega, fun k q h => hD.2 (V.length + k) q (by rw [List.getElem?_append_right (by omega), Nat.add_sub_cancel_left]; exact h)⟩
theorem ay_freeR {A0 : Nat → Prop} {V wc : va_W} {H0 H : Heap} {locs : List Loc} (hD : va_D A0 (V ++ wc)) (hS : va_S A0 H0 H locs) (hA : ∀ q, H0.size ≤ q → A0 q) : ∀ q, va_A wc H.size q → A0 q := by
  intro q h
  rcases h with ⟨k, e, h⟩ | h
  · exact hD.2 (V.length + k) (q, e) (by rw [List.getElem?_append_right (by omega), Nat.add_sub_cancel_left]; exact h)
  · exact hA q (Nat.le_trans hS.1 h)
section AY1
variable {Y : ay_Y} {R : Room} {M : az_Me} {w0 : va_W} {mc ms : Nat} {Q : va_W → Prop} {pc : Nat} {L : List (Option Value)} {st : List Value} {ws : va_W} {cells slots : Nat}
theorem ay_pc (q : Nat) (h : q = pc) (k : ay_Ev Y R M w0 mc ms Q q L st ws cells slots) : ay_Ev Y R M w0 mc ms Q pc L st ws cells slots := by subst h; exact k
theorem ay_aload {i : Fin 4} {a : Nat} (hd : decode M.2.1 pc = .ok (.aload_n i, 1)) (hl : L[i.val]? = some (some (.ref a))) (k : ay_Ev Y R M w0 mc ms Q (pc + 1) L (.ref a :: st) ws cells slots) : ay_Ev Y R M w0 mc ms Q pc L st ws cells slots := by
  intro p e s m args below meth c H locs ls hx hb hml hown hr hlk hnm hts hnw hK hP hD hS hL
  exact lv_aload_n hx hb hd rfl (hL.2.2 _ _ hl) (k p e s m args below meth c H locs ls hx hb hml hown hr hlk hnm hts hnw hK hP hD hS hL)
theorem ay_iload {i : Fin 4} {a : Int32} (hd : decode M.2.1 pc = .ok (.iload_n i, 1)) (hl : L[i.val]? = some (some (.int a))) (k : ay_Ev Y R M w0 mc ms Q (pc + 1) L (.int a :: st) ws cells slots) : ay_Ev Y R M w0 mc ms Q pc L st ws cells slots := by
  intro p e s m args below meth c H locs ls hx hb hml hown hr hlk hnm hts hnw hK hP hD hS hL
  exact lv_iload_n hx hb hd rfl (hL.2.2 _ _ hl) (k p e s m args below meth c H locs ls hx hb hml hown hr hlk hnm hts hnw hK hP hD hS hL)
theorem ay_iconst {n : Int} {v : Int32} (hd : decode M.2.1 pc = .ok (.iconst n, 1)) (hv : Int32.ofInt n = v) (k : ay_Ev Y R M w0 mc ms Q (pc + 1) L (.int v :: st) ws cells slots) : ay_Ev Y R M w0 mc ms Q pc L st ws cells slots := by
  intro p e s m args below meth c H locs ls hx hb hml hown hr hlk hnm hts hnw hK hP hD hS hL
  exact lv_iconst hx hb hd hv (k p e s m args below meth c H locs ls hx hb hml hown hr hlk hnm hts hnw hK hP hD hS hL)
theorem ay_bipush {n : Int} {v : Int32} (hd : decode M.2.1 pc = .ok (.bipush n, 2)) (hv : (Int8.ofInt n).toInt32 = v) (k : ay_Ev Y R M w0 mc ms Q (pc + 2) L (.int v :: st) ws cells slots) : ay_Ev Y R M w0 mc ms Q pc L st ws cells slots := by
  intro p e s m args below meth c H locs ls hx hb hml hown hr hlk hnm hts hnw hK hP hD hS hL
  exact lv_bipush hx hb hd hv (k p e s m args below meth c H locs ls hx hb hml hown hr hlk hnm hts hnw hK hP hD hS hL)
theorem ay_sipush {n : Int} {v : Int32} (hd : decode M.2.1 pc = .ok (.sipush n, 3)) (hv : (Int16.ofInt n).toInt32 = v) (k : ay_Ev Y R M w0 mc ms Q (pc + 3) L (.int v :: st) ws cells slots) : ay_Ev Y R M w0 mc ms Q pc L st ws cells slots := by
  intro p e s m args below meth c H locs ls hx hb hml hown hr hlk hnm hts hnw hK hP hD hS hL
  exact lv_sipush hx hb hd hv (k p e s m args below meth c H locs ls hx hb hml hown hr hlk hnm hts hnw hK hP hD hS hL)
theorem ay_ldc {n : Nat} {v : Int32} (hd : decode M.2.1 pc = .ok (.ldc n, 2)) (hc : Cond.constant M.1.cls n v ∈ az_tb) (k : ay_Ev Y R M w0 mc ms Q (pc + 2) L (.int v :: st) ws cells slots) : ay_Ev Y R M w0 mc ms Q pc L st ws cells slots := by
  intro p e s m args below meth c H locs ls hx hb hml hown hr hlk hnm hts hnw hK hP hD hS hL
  exact lv_ldc hx hb hown (hts _ hc) hd (k p e s m args below meth c H locs ls hx hb hml hown hr hlk hnm hts hnw hK hP hD hS hL)
theorem ay_dup {a : Nat} (hd : decode M.2.1 pc = .ok (.dup, 1)) (k : ay_Ev Y R M w0 mc ms Q (pc + 1) L (.ref a :: .ref a :: st) ws cells slots) : ay_Ev Y R M w0 mc ms Q pc L (.ref a :: st) ws cells slots := by
  intro p e s m args below meth c H locs ls hx hb hml hown hr hlk hnm hts hnw hK hP hD hS hL
  exact lv_dup hx hb hd rfl (k p e s m args below meth c H locs ls hx hb hml hown hr hlk hnm hts hnw hK hP hD hS hL)
theorem ay_goto {off : Int} {t : Nat} (hd : decode M.2.1 pc = .ok (.goto off, 3)) (ht : (pc : Int) + off = (t : Int)) (k : ay_Ev Y R M w0 mc ms Q t L st ws cells slots) : ay_Ev Y R M w0 mc ms Q pc L st ws cells slots := by
  intro p e s m args below meth c H locs ls hx hb hml hown hr hlk hnm hts hnw hK hP hD hS hL
  exact lv_goto hx hb hd ht (k p e s m args below meth c H locs ls hx hb hml hown hr hlk hnm hts hnw hK hP hD hS hL)
theorem ay_icmpge {x y : Int32} {off : Int} {t : Nat} (hd : decode M.2.1 pc = .ok (.if_icmp .ge off, 3)) (ht : (pc : Int) + off = (t : Int)) (kt : y ≤ x → ay_Ev Y R M w0 mc ms Q t L st ws cells slots) (kf : ¬ y ≤ x → ay_Ev Y R M w0 mc ms Q (pc + 3) L st ws cells slots) : ay_Ev Y R M w0 mc ms Q pc L (.int y :: .int x :: st) ws cells slots := by
  intro p e s m args below meth c H locs ls hx hb hml hown hr hlk hnm hts hnw hK hP hD hS hL
  exact lv_icmp_ge hx hb hd ht (fun h => kt h p e s m args below meth c H locs ls hx hb hml hown hr hlk hnm hts hnw hK hP hD hS hL) (fun h => kf h p e s m args below meth c H locs ls hx hb hml hown hr hlk hnm hts hnw hK hP hD hS hL)
theorem ay_objInit {idx a : Nat} (hd : decode M.2.1 pc = .ok (.invokespecial idx, 3)) (hl : Cond.methodLink M.1.cls idx objectInit ∈ az_tb) (hi : Cond.instanceMethod objectInit ∈ az_tb) (hc : Cond.code objectInit ⟨#[0xb1]⟩ 1 none ∈ az_tb) (hf : 1 ≤ R.frames) (hlo : 12 ≤ R.locals) (k : ay_Ev Y R M w0 mc ms Q (pc + 3) L [] ws cells slots) : ay_Ev Y R M w0 mc ms Q pc L [.ref a] ws cells slots := by
  intro p e s m args below meth c H locs ls hx hb hml hown hr hlk hnm hts hnw hK hP hD hS hL
  exact W.objInit hx hb hown (hts _ hl) (hts _ hi) (hts _ hc) rfl (hL.1.trans hml.symm) rfl hd hf hlo (k p e s m args below meth c H locs ls hx hb hml hown hr hlk hnm hts hnw hK hP hD hS hL)
theorem ay_newa {n : Nat} {x : Int32} (hd : decode M.2.1 pc = .ok (.newarray .int, 2)) (hw : Cond.arrayClass .int ∈ az_tb) (hxn : x = nI n) (hn : n ≤ 100000) (hc : cells + 1 ≤ R.cells) (hs : slots + n ≤ R.slots) (k : ∀ q, ay_Ev Y R M w0 mc ms Q (pc + 2) L (.ref q :: st) (ws ++ [(q, .inl (Y.2.2.1, n, .inl (fun _ => 0)))]) (cells + 1) (slots + n)) : ay_Ev Y R M w0 mc ms Q pc L (.int x :: st) ws cells slots := by
  intro p e s m args below meth c H locs ls hx hb hml hown hr hlk hnm hts hnw hK hP hD hS hL
  subst hxn
  refine va_newa (atype := .int) (ty := .int) (a0 := (n, .inl (fun _ => 0))) hx hb (hts _ hw) rfl hK hP hD hS (fun q h => Or.inr h) (fun _ => rfl) (nI_pos (by omega)) (nI_clamp (by omega)) (by show n * 4 ≤ _; omega) hc hs hd (fun q cA H1 hK1 hP1 hD1 hS1 => ?_)
  have := ay_int hK1
  subst this
  exact k q p e s m args below meth c H1 locs ls hx hb hml hown hr hlk hnm hts hnw hK hP1 hD1 hS1 hL
theorem ay_newq {n idx : Nat} {x : Int32} (hd : decode M.2.1 pc = .ok (.anewarray idx, 3)) (hw : Cond.classLink M.1.cls idx "WayMarks$Net" ∈ az_tb) (hxn : x = nI n) (hn : n ≤ 100000) (hc : cells + 1 ≤ R.cells) (hs : slots + n ≤ R.slots) (k : ∀ q, ay_Ev Y R M w0 mc ms Q (pc + 3) L (.ref q :: st) (ws ++ [(q, .inl (Y.2.2.2, n, .inr (.inr (.inr (.inr (fun _ => none))))))]) (cells + 1) (slots + n)) : ay_Ev Y R M w0 mc ms Q pc L (.int x :: st) ws cells slots := by
  intro p e s m args below meth c H locs ls hx hb hml hown hr hlk hnm hts hnw hK hP hD hS hL
  subst hxn
  refine va_newq (C := "WayMarks$Net") hx hb hown (hts _ hw) hnw.2 hK hP hD hS (fun q h => Or.inr h) (nI_pos (by omega)) (nI_clamp (by omega)) (by omega) hc hs hd (fun q cA H1 hK1 hP1 hD1 hS1 => ?_)
  have := ay_net hK1
  subst this
  exact k q p e s m args below meth c H1 locs ls hx hb hml hown hr hlk hnm hts hnw hK hP1 hD1 hS1 hL
/-- a final field of 'this' -/
def ay_FF (own : String) (idx ci j : Nat) : Prop := ∃ (T : u_T) (N : Nat) (ty0 : Nat → FieldType), az_cl[ci]? = some (own, T, N) ∧ j < N ∧ (∀ w ∈ u_ws own T N, w ∈ az_tb) ∧ (T j).1 = own ∧ Cond.fieldLink own idx own (T j).2.1 (T j).2.2.1 ∈ az_tb ∧ (∀ k, k < N → parseFieldDescriptor (T k).2.2.1 = some (ty0 k)) ∧ (∀ a, a < N → ∀ b, b < N → a ≠ b → (T a).2.1 ≠ (T b).2.1) ∧ (T j).2.2.2 = true ∧ ∀ v : Nat, narrow (ty0 j) (.ref v) = .ref v ∧ fits (ty0 j) (.ref v) = true
theorem ay_putF {idx ci j a v : Nat} {fs : List Value} {tl : va_W} (hd : decode M.2.1 pc = .ok (.putfield idx, 3)) (hf : ay_FF M.1.cls idx ci j) (hin2 : M.1.name = "<init>") (hj : j < fs.length) (k : ay_Ev Y R M w0 mc ms Q (pc + 3) L st ((a, .inr (ci, fs.set j (.ref v))) :: tl) cells slots) : ay_Ev Y R M w0 mc ms Q pc L (.ref v :: .ref a :: st) ((a, .inr (ci, fs)) :: tl) cells slots := by
  intro p e s m args below meth c H locs ls hx hb hml hown hr hlk hnm hts hnw hK hP hD hS hL
  obtain ⟨T, N, ty0, hc, hjN, hin, hC, hl, hty, hap, hfin, hnf⟩ := hf
  refine va_putF (ref := M.1.cls) hx hb hts hin ty0 hty hap hown hK hP hD hS 0 rfl hc j hjN (hts _ hl) (fun x h => by rw [hC] at h; exact h) hfin (hnm.trans hin2) hC (hty j hjN) (hnf v).1 (hnf v).2 hj hd (fun H1 locs1 hP1 hD1 hS1 => ?_)
  exact k p e s m args below meth c H1 locs1 ls hx hb hml hown hr hlk hnm hts hnw hK hP1 hD1 hS1 hL
theorem ay_put {idx ci j a : Nat} {x : Int32} {ty : FieldType} {fs : List Value} {tl : va_W} (hd : decode M.2.1 pc = .ok (.putfield idx, 3)) (hf : az_PL M.1.cls idx ci j ty) (hn : narrow ty (.int x) = .int x) (hfit : fits ty (.int x) = true) (hj : j < fs.length) (k : ay_Ev Y R M w0 mc ms Q (pc + 3) L st ((a, .inr (ci, fs.set j (.int x))) :: tl) cells slots) : ay_Ev Y R M w0 mc ms Q pc L (.int x :: .ref a :: st) ((a, .inr (ci, fs)) :: tl) cells slots := by
  intro p e s m args below meth c H locs ls hx hb hml hown hr hlk hnm hts hnw hK hP hD hS hL
  obtain ⟨C, T, N, ty0, hc, hjN, hin, hC, hl, hty, hap, hfin, htj⟩ := hf
  have go : ∀ (H1 : Heap) (locs1 : List Loc), va_P Y.2.1 az_cl (((a, .inr (ci, fs)) :: tl : va_W).set 0 (a, .inr (ci, fs.set j (.int x)))) H1 → va_D (va_A w0 s.heap.size) (((a, .inr (ci, fs)) :: tl : va_W).set 0 (a, .inr (ci, fs.set j (.int x)))) → va_S (va_A w0 s.heap.size) s.heap H1 locs1 → W p Y.1 e R s m args below meth c H1 locs1 cells slots (MQ below (va_Qv Q (ay_B Y (va_A w0 s.heap.size)) (va_A w0 s.heap.size)) args s mc ms (va_A w0 s.heap.size)) (F0 m (pc + 3) ls st) := fun H1 locs1 hP1 hD1 hS1 => k p e s m args below meth c H1 locs1 ls hx hb hml hown hr hlk hnm hts hnw hK hP1 hD1 hS1 hL
  rcases hl with hl | ⟨host, hl⟩
  · exact va_put (ref := C) hx hb hts hin ty0 hty hap hown hK hP hD hS 0 rfl hc j hjN (hts _ hl) (fun x h => by rw [hC] at h; exact h) hfin (by rw [hty j hjN, htj]) hn hfit hj hd go
  · exact va_putN (ref := C) (host := host) hx hb hts hin ty0 hty hap hown hK hP hD hS 0 rfl hc j hjN (az_nw_use hnw.1 hl) (fun x h => by rw [hC] at h; exact h) hfin (by rw [hty j hjN, htj]) hn hfit hj hd go
theorem ay_getr {idx ci j a : Nat} {v : Value} {fs : List Value} {tl : va_W} (hd : decode M.2.1 pc = .ok (.getfield idx, 3)) (hf : az_FL M.1.cls idx ci j) (hj : fs[j]? = some v) (k : ay_Ev Y R M w0 mc ms Q (pc + 3) L (v :: st) ((a, .inr (ci, fs)) :: tl) cells slots) : ay_Ev Y R M w0 mc ms Q pc L (.ref a :: st) ((a, .inr (ci, fs)) :: tl) cells slots := by
  intro p e s m args below meth c H locs ls hx hb hml hown hr hlk hnm hts hnw hK hP hD hS hL
  obtain ⟨C, T, N, hc, hjN, hin, hC, hl⟩ := hf
  have kk := k p e s m args below meth c H locs ls hx hb hml hown hr hlk hnm hts hnw hK hP hD hS hL
  rcases hl with hl | ⟨host, hl⟩
  · exact va_get (ref := C) hx hb hts hin hown hK hP 0 rfl hc j hjN (hts _ hl) (fun x h => by rw [hC] at h; exact h) hj hd kk
  · exact va_getN (ref := C) (host := host) hx hb hts hin hown hK hP 0 rfl hc j hjN (az_nw_use hnw.1 hl) (fun x h => by rw [hC] at h; exact h) hj hd kk
/-- a new object of class ci -/
def ay_NW (own : String) (idx ci : Nat) (fs : List Value) : Prop := ∃ (C : String) (T : u_T) (N : Nat) (ty : Nat → FieldType), az_cl[ci]? = some (C, T, N) ∧ N = fs.length ∧ (∀ w ∈ u_ws C T N, w ∈ az_tb) ∧ (∀ k, k < N → parseFieldDescriptor (T k).2.2.1 = some (ty k)) ∧ Cond.classLink own idx C ∈ az_tb ∧ Cond.instantiable C N ∈ az_tb ∧ Cond.initialized C ∈ az_tb ∧ ∀ j, j < N → defaultValue (ty j) = vp_V fs j
theorem ay_new {idx ci : Nat} {fs : List Value} (hd : decode M.2.1 pc = .ok (.new idx, 3)) (hn : ay_NW M.1.cls idx ci fs) (hc : cells + 1 ≤ R.cells) (hs : slots + fs.length ≤ R.slots) (k : ∀ q, ay_Ev Y R M w0 mc ms Q (pc + 3) L (.ref q :: st) (ws ++ [(q, .inr (ci, fs))]) (cells + 1) (slots + fs.length)) : ay_Ev Y R M w0 mc ms Q pc L st ws cells slots := by
  intro p e s m args below meth c H locs ls hx hb hml hown hr hlk hnm hts hnw hK hP hD hS hL
  obtain ⟨C, T, N, ty, h1, h2, h3, h4, h5, h6, h7, h8⟩ := hn
  subst h2
  refine va_new hx hb hts h3 ty h4 hown (hts _ h5) (hts _ h6) (hts _ h7) hK hP hD hS (fun q h => Or.inr h) h1 h8 hc hs hd (fun q H1 hP1 hD1 hS1 => ?_)
  exact k q p e s m args below meth c H1 locs ls hx hb hml hown hr hlk hnm hts hnw hK hP1 hD1 hS1 hL
/-- what the tables say of a constructor that is called -/
def ay_OI (N : az_Me) : Prop := Cond.code N.1 N.2.1 N.2.2.1 none ∈ az_tb ∧ N.2.2.2 = none ∧ Cond.initialized N.1.cls ∈ az_tb ∧ Cond.instanceMethod N.1 ∈ az_tb ∧ N.1.name = "<init>" ∧ (N.1.cls ≠ "java/lang/invoke/MethodHandle" ∧ N.1.cls ≠ "java/lang/invoke/VarHandle" ∧ (parseMethodDescriptor N.1.desc).map (fun d => d.parameters.length) = some 0) ∧ N.2.2.1 ≤ 40
theorem ay_goodIn {N : az_Me} (h : ay_OI N) : GoodIn az_tb (az_ws N) := by
  intro w hw
  have hm : w ∈ az_tb := by
    rcases List.mem_cons.mp hw with rfl | hw
    · rw [h.2.1]; exact h.1
    · exact hw
  exact ⟨hm, good_of_word (List.all_eq_true.mp az_good w hm)⟩
theorem ay_ws {N : az_Me} (h : ay_OI N) : az_ws N = Cond.code N.1 N.2.1 N.2.2.1 none :: az_tb := by unfold az_ws; rw [h.2.1]
theorem ay_call {idx q f mcc msc : Nat} {N : az_Me} {V wc : va_W} {Qc : va_W → Prop} (hd : decode M.2.1 pc = .ok (.invokespecial idx, 3)) (hk : az_Lk M.1.cls idx N.1) (hN : ay_OI N) (hs : ay_Sp Y f N [.ref q] wc mcc msc Qc) (hr : st.length ≤ 4) (hcat : (st.map fun v => v.category).sum ≤ 8) (hRf : f + 1 ≤ R.frames) (hRl : 59 + 64 * f ≤ R.locals) (hc : cells + mcc ≤ R.cells) (hsl : slots + msc ≤ R.slots) (k : ∀ w1, Qc w1 → ay_Ev Y R M w0 mc ms Q (pc + 3) L st (V ++ w1) (cells + mcc) (slots + msc)) : ay_Ev Y R M w0 mc ms Q pc L (.ref q :: st) (V ++ wc) cells slots := by
  intro p e s m args below meth c H locs ls hx hb hml hown hrt hlk hnm hts hnw hK hP hD hS hL
  have hF := ay_freeR hD hS (fun q h => Or.inr h)
  have hPS : PreS s H (ay_Pc Y [.ref q] wc H.size) [.ref q] := ⟨ay_blind, fun U hU hWm => ⟨rfl, by rw [hU], by rw [hU]; exact ay_right hP, va_K.moved hWm.alike hK, (ay_rightD hD).weaken (fun _ _ _ _ => trivial), ay_nw_warm hWm hnw⟩⟩
  have hsum : 2 * (F0 m pc ls (.ref q :: st)).monitorRoom + (st.map fun v => v.category).sum ≤ 8 := by simpa [JFrame.monitorRoom] using hcat
  have hm40 := hN.2.2.2.2.2.2
  have hroom : (ay_rm f mcc msc).frames + 1 ≤ R.frames ∧ 8 + (N.2.2.1 + 11) + (ay_rm f mcc msc).locals ≤ R.locals := ⟨hRf, by show 8 + (N.2.2.1 + 11) + 64 * f ≤ _; omega⟩
  have run : va_Run p Y.1 e R s m args below meth c H locs cells slots mcc msc (F0 m pc ls (.ref q :: st)) st (va_Qv Qc (ay_B Y (va_A wc H.size)) (va_A wc H.size) (Value.ref q :: []).toArray) (va_A wc H.size) := by
    rcases hk with hk | ⟨host, hk⟩
    · exact va_runI (As := []) ⟨hx, hb, hml, hown, hts⟩ (hs H.size) (cwI 0 hts (ay_goodIn hN) (ay_ws hN) rfl rfl (hts _ hN.2.2.1) (hts _ hk) (hts _ hN.2.2.2.1) hN.2.2.2.2.1 hN.2.2.2.2.2.1 hroom) hPS rfl rfl hL.1 rfl hsum hd ⟨hc, hsl⟩
    · exact va_runIN (As := []) (host := host) ⟨hx, hb, hml, hown, hts⟩ (hs H.size) ⟨va_cnB 0 hts (ay_goodIn hN) (ay_ws hN) rfl rfl (hnw.1 _ hk) (hts _ hN.2.2.1) hN.2.2.2.2.2.1 hroom, hN.2.2.2.2.1, hts _ hN.2.2.2.1⟩ hPS rfl rfl hL.1 rfl hsum hd ⟨hc, hsl⟩
  refine va_callv run hS (fun q _ h => hF q h) hF (fun u t H1 locs1 ht hvm hw hB hz1 hk1 hS1 => ?_)
  obtain ⟨hP1, hK1, hD1⟩ := hB
  rw [ht] at hP1
  obtain ⟨hP2, hD2⟩ := ay_join hP hD hk1 hF hP1 hD1
  exact k u hw p e s m args below meth c H1 locs1 ls hx hb hml hown hrt hlk hnm hts hnw hK hP2 hD2 hS1 hL
theorem ay_callS {idx f n : Nat} {N : az_Me} {V wc : va_W} {Qc : va_W → Prop} (As : List Value) (hd : decode M.2.1 pc = .ok (.invokestatic idx, 3)) (hk : Cond.methodLink M.1.cls idx N.1 ∈ az_tb) (hN : az_OS N n) (hn : As.length = n) (hs : ay_Sp Y f N As wc 0 0 Qc) (hcat : (st.map fun v => v.category).sum ≤ 8) (hRf : f + 1 ≤ R.frames) (hRl : 59 + 64 * f ≤ R.locals) (hcl : cells ≤ R.cells) (hsl : slots ≤ R.slots) (k : ∀ w1, Qc w1 → ay_Ev Y R M w0 mc ms Q (pc + 3) L st (V ++ w1) cells slots) : ay_Ev Y R M w0 mc ms Q pc L (As.reverse ++ st) (V ++ wc) cells slots := by
  intro p e s m args below meth c H locs ls hx hb hml hown hrt hlk hnm hts hnw hK hP hD hS hL
  have hF := ay_freeR hD hS (fun q h => Or.inr h)
  have hPS : PreS s H (ay_Pc Y As wc H.size) As := ⟨ay_blind, fun U hU hWm => ⟨rfl, by rw [hU], by rw [hU]; exact ay_right hP, va_K.moved hWm.alike hK, (ay_rightD hD).weaken (fun _ _ _ _ => trivial), ay_nw_warm hWm hnw⟩⟩
  have hsum : 2 * (F0 m pc ls (As.reverse ++ st)).monitorRoom + (st.map fun v => v.category).sum ≤ 8 := by simpa [JFrame.monitorRoom] using hcat
  have hm40 := hN.1.2.2.2
  have hroom : (ay_rm f 0 0).frames + 1 ≤ R.frames ∧ 8 + (N.2.2.1 + 11) + (ay_rm f 0 0).locals ≤ R.locals := ⟨hRf, by show 8 + (N.2.2.1 + 11) + 64 * f ≤ _; omega⟩
  have run : va_Run p Y.1 e R s m args below meth c H locs cells slots 0 0 (F0 m pc ls (As.reverse ++ st)) st (va_Qv Qc (ay_B Y (va_A wc H.size)) (va_A wc H.size) As.toArray) (va_A wc H.size) :=
    va_runS ⟨hx, hb, hml, hown, hts⟩ (hs H.size) ⟨callB_of n hts (az_goodIn hN.1) rfl rfl rfl (hts _ hN.1.2.1) (hts _ hk) hN.1.2.2.1 hroom, hts _ hN.2⟩ hPS rfl hn hL.1 rfl hsum hd ⟨hcl, hsl⟩
  refine va_callv run hS (fun q _ h => hF q h) hF (fun u t H1 locs1 ht hvm hw hB hz1 hk1 hS1 => ?_)
  obtain ⟨hP1, hK1, hD1⟩ := hB
  rw [ht] at hP1
  obtain ⟨hP2, hD2⟩ := ay_join hP hD hk1 hF hP1 hD1
  exact k u hw p e s m args below meth c H1 locs1 ls hx hb hml hown hrt hlk hnm hts hnw hK hP2 hD2 hS1 hL
/-- the locals as the kit wants them -/
def ay_pr (L : List (Option Value)) : List (Nat × Value) := (List.range L.length).filterMap (fun i => (L.getD i none).map (fun v => (i, v)))
theorem ay_pr_mem {L : List (Option Value)} {q : Nat × Value} : q ∈ ay_pr L ↔ L[q.1]? = some (some q.2) := by
  obtain ⟨i, w⟩ := q
  simp only [ay_pr, List.mem_filterMap, List.mem_range, Option.map_eq_some_iff, List.getD_eq_getElem?_getD]
  constructor
  · rintro ⟨j, hj, v, hv, he⟩
    cases he
    rw [List.getElem?_eq_getElem hj] at hv ⊢
    simpa using hv
  · intro hv
    have hl := (List.getElem?_eq_some_iff.mp hv).1
    exact ⟨i, hl, w, by rw [hv]; rfl, rfl⟩
theorem ay_LR_has {ls : Array Slot} {n : Nat} {L : List (Option Value)} (h : ay_LR ls n L) : lv_has ls n (ay_pr L) := ⟨h.1, h.2.1, fun q hq => h.2.2 _ _ (ay_pr_mem.mp hq)⟩
theorem ay_LR_set {ls : Array Slot} {n i : Nat} {L : List (Option Value)} {v : Value} (hcat : ∀ (j : Nat) (w : Value), L[j]? = some (some w) → w.category = 1) (h : lv_has ls n ((i, v) :: (ay_pr L).filter (fun q => !(q.1 == i) && !(q.1 + 1 == i && q.2.category == 2)))) : ay_LR ls n (L.set i (some v)) := by
  refine ⟨h.1, h.2.1, fun j w hw => ?_⟩
  by_cases hj : j = i
  · subst hj
    have hl : j < L.length := by
      have := (List.getElem?_eq_some_iff.mp hw).1
      simpa using this
    rw [List.getElem?_set_self hl] at hw
    cases hw
    exact h.2.2 (j, v) List.mem_cons_self
  · rw [List.getElem?_set_ne (Ne.symm hj)] at hw
    refine h.2.2 (j, w) (List.mem_cons_of_mem _ (List.mem_filter.mpr ⟨ay_pr_mem.mpr hw, ?_⟩))
    simp [hj, hcat j w hw]
theorem ay_istore {i : Fin 4} {v : Int32} (hd : decode M.2.1 pc = .ok (.istore_n i, 1)) (hi : i.val < M.2.2.1) (hcat : ∀ (j : Nat) (w : Value), L[j]? = some (some w) → w.category = 1) (k : ay_Ev Y R M w0 mc ms Q (pc + 1) (L.set i.val (some (.int v))) st ws cells slots) : ay_Ev Y R M w0 mc ms Q pc L (.int v :: st) ws cells slots := by
  intro p e s m args below meth c H locs ls hx hb hml hown hr hlk hnm hts hnw hK hP hD hS hL
  exact lv_istore_n hx hb hd rfl (ay_LR_has hL) hi rfl (fun ls' h' => k p e s m args below meth c H locs ls' hx hb hml hown hr hlk hnm hts hnw hK hP hD hS (ay_LR_set hcat h'))
theorem ay_iinc {i : Nat} {n : Int} {v w : Int32} (hd : decode M.2.1 pc = .ok (.iinc i n, 3)) (hl : L[i]? = some (some (.int v))) (hw : Int32.ofInt n = w) (hi : i < M.2.2.1) (hcat : ∀ (j : Nat) (w : Value), L[j]? = some (some w) → w.category = 1) (k : ay_Ev Y R M w0 mc ms Q (pc + 3) (L.set i (some (.int (v + w)))) st ws cells slots) : ay_Ev Y R M w0 mc ms Q pc L st ws cells slots := by
  intro p e s m args below meth c H locs ls hx hb hml hown hr hlk hnm hts hnw hK hP hD hS hL
  obtain ⟨j, hj⟩ := List.mem_iff_getElem?.mp (ay_pr_mem (q := (i, .int v)) |>.mpr hl)
  exact lv_iinc (k := j) hx hb hd (ay_LR_has hL) hj (by rw [hw]) hi rfl (fun ls' h' => k p e s m args below meth c H locs ls' hx hb hml hown hr hlk hnm hts hnw hK hP hD hS (ay_LR_set hcat h'))
theorem ay_alen {a n : Nat} {f : Nat → Int32} {tl : va_W} (hd : decode M.2.1 pc = .ok (.arraylength, 1)) (k : ay_Ev Y R M w0 mc ms Q (pc + 1) L (.int (nI n) :: st) ((a, .inl (Y.2.2.1, n, .inl f)) :: tl) cells slots) : ay_Ev Y R M w0 mc ms Q pc L (.ref a :: st) ((a, .inl (Y.2.2.1, n, .inl f)) :: tl) cells slots := by
  intro p e s m args below meth c H locs ls hx hb hml hown hr hlk hnm hts hnw hK hP hD hS hL
  exact va_alen (ty := .int) hx hb hK hP 0 0 rfl rfl rfl hd (k p e s m args below meth c H locs ls hx hb hml hown hr hlk hnm hts hnw hK hP hD hS hL)
theorem ay_iast {a n i : Nat} {x v : Int32} {f : Nat → Int32} {tl : va_W} (hd : decode M.2.1 pc = .ok (.iastore, 1)) (hi : i < n) (hn : n < 2 ^ 31) (hxi : x = nI i) (k : ay_Ev Y R M w0 mc ms Q (pc + 1) L st ((a, .inl (Y.2.2.1, n, .inl (upd f i v))) :: tl) cells slots) : ay_Ev Y R M w0 mc ms Q pc L (.int v :: .int x :: .ref a :: st) ((a, .inl (Y.2.2.1, n, .inl f)) :: tl) cells slots := by
  intro p e s m args below meth c H locs ls hx hb hml hown hr hlk hnm hts hnw hK hP hD hS hL
  subst hxi
  refine va_iast hx hb hK hP hD hS 0 0 rfl rfl (vp_in_nI hi hn) hd (fun H1 locs1 h1 h2 h3 => ?_)
  rw [nI_clamp (by omega)] at h1 h2
  exact k p e s m args below meth c H1 locs1 ls hx hb hml hown hr hlk hnm hts hnw hK h1 h2 h3 hL
theorem ay_vret (hd : decode M.2.1 pc = .ok (.return_, 1)) (hc : cells = mc) (hs : slots = ms) (h : Q ws) : ay_Ev Y R M w0 mc ms Q pc L [] ws cells slots := by
  intro p e s m args below meth c H locs ls hx hb hml hown hr hlk hnm hts hnw hK hP hD hS hL
  subst hc; subst hs
  exact W.vret hx hb hr (fun t ht hWm => ⟨⟨ws, rfl, h, by rw [ht]; exact hP, va_K.moved hWm.alike hK, hD⟩, hS.F ht⟩) hS.2.2 hd hlk
end AY1
theorem ay_body {Y : ay_Y} {f : Nat} {M : az_Me} {as : List Value} {w0 : va_W} {mc ms : Nat} {Q : va_W → Prop} (hy : plainName M.1.cls = true) (hret : M.2.2.2 = none) (hcat : ∀ v ∈ as, v.category = 1) (h1 : as.length ≤ M.2.2.1) (h : ay_Ev Y (ay_rm f mc ms) M w0 mc ms Q 0 (as.map some ++ List.replicate (M.2.2.1 - as.length) none) [] w0 0 0) : ay_Sp Y f M as w0 mc ms Q := by
  intro sz
  refine Met.ofW (cc := M.2.1) (maxL := M.2.2.1) (ret := none) hy (by unfold az_ws; rw [hret]) ?_
  intro p e s m ar below meth c s₁ B hml hv
  obtain ⟨rfl, hsz, hP, hK, hD0, hnw⟩ := hv
  have hts := atoms_spec (ws := az_ws M) B.pre
  subst hsz
  have hslen : ∀ vs : List Value, (∀ v ∈ vs, v.category = 1) → lg_sl vs = vs.map (fun v => Slot.val v) := by
    intro vs
    induction vs with
    | nil => intro _; rfl
    | cons v vs ih =>
      intro hc
      have : lg_sl (v :: vs) = (if v.category = 2 then [Slot.val v, .second] else [Slot.val v]) ++ lg_sl vs := rfl
      rw [this, ih (fun w hw => hc w (List.mem_cons_of_mem _ hw)), if_neg (by rw [hc v List.mem_cons_self]; decide)]
      rfl
  have hle : (lg_sl as).length ≤ M.2.2.1 := by rw [hslen as hcat]; simpa using h1
  have hl0 := lv_entry as (n := M.2.2.1) hle
  rw [lg_entry_eq]
  have hLR : ay_LR ((lg_sl as ++ List.replicate (M.2.2.1 - (lg_sl as).length) Slot.unset).toArray) M.2.2.1 (as.map some ++ List.replicate (M.2.2.1 - as.length) none) := by
    refine ⟨hl0.1, hl0.2.1, fun i v hv => ?_⟩
    rw [hslen as hcat]
    by_cases hi : i < as.length
    · rw [List.getElem?_append_left (by simpa using hi)] at hv
      rw [List.getElem?_map, Option.map_eq_some_iff] at hv
      obtain ⟨w, hw, he⟩ := hv
      cases he
      simp only [List.getElem?_toArray]
      rw [List.getElem?_append_left (by simpa using hi), List.getElem?_map, hw]
      rfl
    · rw [List.getElem?_append_right (by simpa using hi)] at hv
      have := List.mem_of_getElem? hv
      rw [List.mem_replicate] at this
      exact absurd this.2 (by simp)
  exact h p e s m as.toArray below meth c s.heap [] _ B.exec B.bytes hml (findClass_of_methodNamed B.named) B.returns B.notSynchronized ((name_of_methodNamed B.named B.method).1) (fun w hw => hts w (List.mem_cons_of_mem _ hw)) hnw hK hP hD0.self va_S.rf hLR

/-! THE ABSTRACT LAYER. The system's cells are az_K blocks with fixed shapes (az_sh); a memory gives each block its ints (an array's elements, an object's int fields); references never change behind the constructors. az_Ev: from pc, locals L, operand stack st and memory mem the method M comes to its end with Q of answer and memory. az_Sp: M's contract for these arguments and this memory. -/
abbrev az_V : Type := Int32 ⊕ Nat
abbrev az_M : Type := Nat → Nat → Int32
abbrev az_S : Type := Nat ⊕ ((Nat × List (Option Nat)) ⊕ List Nat)
abbrev az_X : Type := Launch × va_G × (ClassId × ClassId) × (Nat → Nat)
abbrev az_Me : Type := MethodName × ByteArray × Nat × Option FieldType
def az_cl : List vw_C := [(RX0, TX0, 8), (RX1, TX1, 10), (RX2, TX2, 12), (RX3, TX3, 3), (RX4, TX4, 2), (RX5, TX5, 8), (RX6, TX6, 2), (RX7, TX7, 9), (RX8, TX8, 16)]
def az_tb : List Cond := lw_tbl.filter goodWord
theorem az_in {w : Cond} (i : Nat) (h : lw_tbl[i]? = some w) (hg : goodWord w = true) : w ∈ az_tb := List.mem_filter.mpr ⟨List.mem_of_getElem? h, hg⟩
def az_isN (w : Cond) : Bool := match w with
  | .fieldLinkNest .. => true
  | .methodLinkNest .. => true
  | _ => false
def az_tn : List Cond := lw_tbl.filter az_isN
theorem az_inN {w : Cond} (i : Nat) (h : lw_tbl[i]? = some w) (hg : az_isN w = true) : w ∈ az_tn := List.mem_filter.mpr ⟨List.mem_of_getElem? h, hg⟩
/-- the links between nest mates hold (they stay while the tables get warm) -/
def az_nw (U : State) : Prop := ∀ w ∈ az_tn, va_Nw w U
theorem az_nw_warm {s U : State} (hW : s.WarmedH U.vm) (h : az_nw s) : az_nw U := by
  intro w hw
  have h1 := h w hw
  have h2 := (List.mem_filter.mp hw).2
  cases w <;> first | exact va_Nw.warmF hW h1 | exact va_Nw.warmM hW h1 | exact absurd h2 (by simp [az_isN])
theorem az_nw_same {s U : State} (hv : s.vm = U.vm) (h : az_nw s) : az_nw U := by
  intro w hw
  have h1 := h w hw
  have h2 := (List.mem_filter.mp hw).2
  cases w <;> first | exact va_Nw.same rfl hv h1 | exact absurd h2 (by simp [az_isN])
theorem az_nw_use {s : State} {args : Array Value} {w : Cond} (h : az_nw s) (hw : w ∈ az_tn) : w.before args s = true := by
  have h1 := h w hw
  have h2 := (List.mem_filter.mp hw).2
  cases w <;> first | exact va_Nw.use rfl h1 | exact absurd h2 (by simp [az_isN])
def az_K : Nat := 404
def az_net (b : Nat) : List (Option Nat) := [none, none, none, none, none, none, none, some (b + 1), some (b + 2), some (b + 3), some (b + 4), some (b + 5)]
def az_arr (j : Nat) : Nat := if j = 1 then 256 else 16
def az_past : List Nat := (List.range 60).map (fun i => 9 + 6 * i)
def az_t0 : List az_S := [.inr (.inl (7, [some 1, some 7, some 369, some 371, some 379, some 382, some 388, none, none])), .inr (.inl (2, az_net 1)), .inl 256, .inl 16, .inl 16, .inl 16, .inl 16, .inr (.inl (3, [some 8, none, none])), .inr (.inr az_past)]
def az_t1 : List az_S := [.inr (.inl (6, [some 370, none])), .inl 400, .inr (.inl (5, [none, some 372, some 373, some 374, some 375, some 376, some 377, some 378])), .inl 16, .inl 256, .inl 256, .inl 256, .inl 16, .inl 256, .inl 16, .inr (.inl (1, [some 380, none, none, some 381, none, none, none, none, none, none])), .inl 256, .inl 16, .inr (.inl (0, [some 383, some 384, some 385, none, none, none, some 386, some 387])), .inl 4096, .inl 12, .inl 12, .inl 256, .inl 16, .inr (.inl (4, [some 389, some 390])), .inl 1024, .inl 1024, .inr (.inl (8, [some 392, some 393, none, none, some 394, none, none, some 395, some 396, some 397, some 398, some 399, some 400, some 401, some 402, some 403])), .inl 600, .inl 36000, .inl 400, .inl 256, .inl 256, .inl 256, .inl 16, .inl 120, .inl 65536, .inl 65536, .inl 65536, .inl 1024]
def az_sh (k : Nat) : az_S :=
  if k < 9 then az_t0.getD k (.inl 0) else if k < 369 then (if (k - 9) % 6 = 0 then .inr (.inl (2, az_net k)) else .inl (az_arr ((k - 9) % 6))) else az_t1.getD (k - 369) (.inl 0)
def az_Ob (k ci : Nat) (fs : List (Option Nat)) : Prop := k < az_K ∧ az_sh k = .inr (.inl (ci, fs))
def az_Ar (k n : Nat) : Prop := k < az_K ∧ az_sh k = .inl n
def az_cv (X : az_X) (v : az_V) : Value := match v with
  | .inl x => .int x
  | .inr k => .ref (X.2.2.2 k)
def az_ft (o : Option Nat) (f : Nat → Int32) (j : Nat) : az_V := match o with
  | none => .inl (f j)
  | some b => .inr b
def az_fl (X : az_X) (fs : List (Option Nat)) (f : Nat → Int32) : List Value := (List.range fs.length).map (fun j => az_cv X (az_ft (fs.getD j none) f j))
def az_ce (X : az_X) (k : Nat) (f : Nat → Int32) : va_E := match az_sh k with
  | .inl n => .inl (X.2.2.1.1, n, .inl f)
  | .inr (.inl o) => .inr (o.1, az_fl X o.2 f)
  | .inr (.inr bs) => .inl (X.2.2.1.2, bs.length, .inr (.inr (.inr (.inr (fun i => (bs[i]?).map X.2.2.2)))))
def az_wl (X : az_X) (mem : az_M) : va_W := (List.range az_K).map (fun k => (X.2.2.2 k, az_ce X k (mem k)))
def az_st (mem : az_M) (k : Nat) (f : Nat → Int32) : az_M := fun a => if a = k then f else mem a
def az_w (mem : az_M) (k j : Nat) (v : Int32) : az_M := az_st mem k (upd (mem k) j v)
theorem az_wl_at {X : az_X} {mem : az_M} {k : Nat} (hk : k < az_K) : (az_wl X mem)[k]? = some (X.2.2.2 k, az_ce X k (mem k)) := by
  simp [az_wl, hk]
theorem az_wl_set {X : az_X} {mem : az_M} {k : Nat} {f : Nat → Int32} (hk : k < az_K) : (az_wl X mem).set k (X.2.2.2 k, az_ce X k f) = az_wl X (az_st mem k f) := by
  apply List.ext_getElem?
  intro i
  have hlen : (az_wl X mem).length = az_K := by simp [az_wl]
  by_cases h : i = k
  · subst h
    rw [List.getElem?_set_self (by rw [hlen]; exact hk), az_wl_at hk]
    simp [az_st]
  · rw [List.getElem?_set_ne (Ne.symm h)]
    by_cases hi : i < az_K
    · rw [az_wl_at hi, az_wl_at hi]; simp [az_st, h]
    · rw [List.getElem?_eq_none (by rw [hlen]; omega), List.getElem?_eq_none (by simp [az_wl]; omega)]
theorem az_w_eq (mem : az_M) (k j : Nat) (v : Int32) (a b : Nat) : az_w mem k j v a b = if a = k ∧ b = j then v else mem a b := by
  unfold az_w az_st upd
  by_cases h : a = k
  · subst h; by_cases h2 : b = j <;> simp [h2]
  · simp [h]
theorem az_st_eq (mem : az_M) (k : Nat) (f : Nat → Int32) (a : Nat) : az_st mem k f a = if a = k then f else mem a := rfl
theorem az_fl_at {X : az_X} {fs : List (Option Nat)} {f : Nat → Int32} {j : Nat} {o : Option Nat} (h : fs[j]? = some o) : (az_fl X fs f)[j]? = some (az_cv X (az_ft o f j)) := by
  obtain ⟨hl, he⟩ := List.getElem?_eq_some_iff.mp h
  simp [az_fl, hl, he]
theorem az_fl_set {X : az_X} {fs : List (Option Nat)} {f : Nat → Int32} {j : Nat} {v : Int32} (h : fs[j]? = some none) : (az_fl X fs f).set j (.int v) = az_fl X fs (upd f j v) := by
  have hl := (List.getElem?_eq_some_iff.mp h).1
  apply List.ext_getElem?
  intro i
  have hlen : (az_fl X fs f).length = fs.length := by simp [az_fl]
  by_cases hi : i = j
  · subst hi
    rw [List.getElem?_set_self (by rw [hlen]; exact hl), az_fl_at h]
    simp [az_ft, az_cv, upd]
  · rw [List.getElem?_set_ne (Ne.symm hi)]
    by_cases h2 : i < fs.length
    · have h3 : fs[i]? = some fs[i] := List.getElem?_eq_getElem h2
      rw [az_fl_at h3, az_fl_at h3]
      cases hc : fs[i] with
      | none => simp [az_ft, upd, hi]
      | some b => simp [az_ft]
    · rw [List.getElem?_eq_none (by rw [hlen]; omega), List.getElem?_eq_none (by simp [az_fl]; omega)]
theorem az_ce_ob {X : az_X} {k ci : Nat} {fs : List (Option Nat)} (h : az_Ob k ci fs) (f : Nat → Int32) : az_ce X k f = .inr (ci, az_fl X fs f) := by
  unfold az_ce; rw [h.2]
theorem az_ce_ar {X : az_X} {k n : Nat} (h : az_Ar k n) (f : Nat → Int32) : az_ce X k f = .inl (X.2.2.1.1, n, .inl f) := by
  unfold az_ce; rw [h.2]
def az_ty (X : az_X) : List (ClassId × FieldType) := [(X.2.2.1.1, .int), (X.2.2.1.2, .object "WayMarks$Net")]
def az_A (X : az_X) : Nat → Prop := fun q => ∃ k, k < az_K ∧ q = X.2.2.2 k
def az_Wd (X : az_X) (mem : az_M) (H : Heap) : Prop := va_P X.2.1 az_cl (az_wl X mem) H ∧ va_D (az_A X) (az_wl X mem)
def az_Q (X : az_X) (Q : Option az_V → az_M → Prop) : Array Value → State → Outcome → State → Prop := fun _ st oc t => (∃ (r : Option az_V) (mem : az_M), oc = .returned (r.map (az_cv X)) ∧ Q r mem ∧ az_Wd X mem t.heap ∧ va_K X.2.1 az_cl (az_ty X) t) ∧ va_F (az_A X) st t
def az_rm (d : Nat) : Room := { frames := d, cells := 0, slots := 0, locals := 64 * d }
def az_ws (M : az_Me) : List Cond := .code M.1 M.2.1 M.2.2.1 M.2.2.2 :: az_tb
def az_Sp (X : az_X) (d : Nat) (M : az_Me) (args : List az_V) (mem : az_M) (Q : Option az_V → az_M → Prop) : Prop := Met X.1 M.1 (az_ws M) (az_rm d) (va_Pc (args.map (az_cv X)) (fun U => az_Wd X mem U.heap ∧ va_K X.2.1 az_cl (az_ty X) U ∧ az_nw U)) (az_Q X Q) 0 0 (az_A X)
def az_LR (X : az_X) (ls : Array Slot) (n : Nat) (L : List (Option az_V)) : Prop := ls.size = n ∧ lv_wf ls ∧ ∀ (i : Nat) (v : az_V), L[i]? = some (some v) → ls[i]? = some (.val (az_cv X v))
def az_Ev (X : az_X) (d : Nat) (M : az_Me) (pc : Nat) (L : List (Option az_V)) (st : List az_V) (mem : az_M) (Q : Option az_V → az_M → Prop) : Prop :=
  ∀ (p : Program) (e : Env) (s : State) (m : MethodId) (args : Array Value) (below : List Frame) (meth : Method) (c : Code) (H : Heap) (locs : List Loc) (ls : Array Slot),
    p.tables.exec = Jvm.exec → c.code = M.2.1 → c.maxLocals = M.2.2.1 → s.vm.findClass M.1.cls = some m.cls → meth.sig.returnType = M.2.2.2 → meth.locks = false → (∀ w ∈ az_tb, w.before args s = true) → az_nw s → va_K X.2.1 az_cl (az_ty X) s → az_Wd X mem H → va_S (az_A X) s.heap H locs → az_LR X ls M.2.2.1 L →
    W p X.1 e (az_rm d) s m args below meth c H locs 0 0 (MQ below (az_Q X Q) args s 0 0 (az_A X)) (F0 m pc ls (st.map (az_cv X)))
def az_pr (X : az_X) (L : List (Option az_V)) : List (Nat × Value) := (List.range L.length).filterMap (fun i => (L.getD i none).map (fun v => (i, az_cv X v)))
theorem az_pr_mem {X : az_X} {L : List (Option az_V)} {q : Nat × Value} : q ∈ az_pr X L ↔ ∃ v, L[q.1]? = some (some v) ∧ q.2 = az_cv X v := by
  obtain ⟨i, w⟩ := q
  simp only [az_pr, List.mem_filterMap, List.mem_range, Option.map_eq_some_iff, List.getD_eq_getElem?_getD]
  constructor
  · rintro ⟨j, hj, v, hv, he⟩
    cases he
    refine ⟨v, ?_, rfl⟩
    rw [List.getElem?_eq_getElem hj] at hv ⊢
    simpa using hv
  · rintro ⟨v, hv, rfl⟩
    have hl := (List.getElem?_eq_some_iff.mp hv).1
    exact ⟨i, hl, v, by rw [hv]; rfl, rfl⟩
theorem az_LR_has {X : az_X} {ls : Array Slot} {n : Nat} {L : List (Option az_V)} (h : az_LR X ls n L) : lv_has ls n (az_pr X L) := by
  refine ⟨h.1, h.2.1, fun q hq => ?_⟩
  obtain ⟨v, h1, h2⟩ := az_pr_mem.mp hq
  rw [h2]
  exact h.2.2 _ _ h1
theorem az_cat (X : az_X) (v : az_V) : (az_cv X v).category = 1 := by cases v <;> rfl
theorem az_LR_set {X : az_X} {ls : Array Slot} {n i : Nat} {L : List (Option az_V)} {v : az_V} (h : lv_has ls n ((i, az_cv X v) :: (az_pr X L).filter (fun q => !(q.1 == i) && !(q.1 + 1 == i && q.2.category == 2)))) : az_LR X ls n (L.set i (some v)) := by
  refine ⟨h.1, h.2.1, fun j w hw => ?_⟩
  by_cases hj : j = i
  · subst hj
    have hl : j < L.length := by
      have := (List.getElem?_eq_some_iff.mp hw).1
      simpa using this
    rw [List.getElem?_set_self hl] at hw
    cases hw
    exact h.2.2 (j, az_cv X v) List.mem_cons_self
  · rw [List.getElem?_set_ne (Ne.symm hj)] at hw
    refine h.2.2 (j, az_cv X w) (List.mem_cons_of_mem _ (List.mem_filter.mpr ⟨az_pr_mem.mpr ⟨w, hw, rfl⟩, ?_⟩))
    simp [hj, az_cat]
abbrev az_ps (r : Option az_V) (rest : List az_V) : List az_V := match r with
  | none => rest
  | some v => v :: rest
section AZ1
variable {X : az_X} {d : Nat} {M : az_Me} {pc : Nat} {L : List (Option az_V)} {st : List az_V} {mem : az_M} {Q : Option az_V → az_M → Prop}
/-- another shape of the same state -/
theorem az_Ev.eq {pc2 : Nat} {L2 : List (Option az_V)} {st2 : List az_V} {mem2 : az_M} (h : az_Ev X d M pc2 L2 st2 mem2 Q) (h1 : pc2 = pc) (h2 : L2 = L) (h3 : st2 = st) (h4 : mem2 = mem) : az_Ev X d M pc L st mem Q := by
  subst h1; subst h2; subst h3; subst h4; exact h
theorem az_iload {i : Nat} {v : Int32} (hd : decode M.2.1 pc = .ok (.iload i, 2)) (hl : L[i]? = some (some (.inl v))) (k : az_Ev X d M (pc + 2) L (.inl v :: st) mem Q) : az_Ev X d M pc L st mem Q := by
  intro p e s m args below meth c H locs ls hx hb hml hown hr hlk hts hnw hK hW hS hL
  exact lv_iload hx hb hd (hL.2.2 _ _ hl) (k p e s m args below meth c H locs ls hx hb hml hown hr hlk hts hnw hK hW hS hL)
theorem az_iloadn {i : Fin 4} {v : Int32} (hd : decode M.2.1 pc = .ok (.iload_n i, 1)) (hl : L[i.val]? = some (some (.inl v))) (k : az_Ev X d M (pc + 1) L (.inl v :: st) mem Q) : az_Ev X d M pc L st mem Q := by
  intro p e s m args below meth c H locs ls hx hb hml hown hr hlk hts hnw hK hW hS hL
  exact lv_iload_n hx hb hd rfl (hL.2.2 _ _ hl) (k p e s m args below meth c H locs ls hx hb hml hown hr hlk hts hnw hK hW hS hL)
theorem az_aload {i : Nat} {b : Nat} (hd : decode M.2.1 pc = .ok (.aload i, 2)) (hl : L[i]? = some (some (.inr b))) (k : az_Ev X d M (pc + 2) L (.inr b :: st) mem Q) : az_Ev X d M pc L st mem Q := by
  intro p e s m args below meth c H locs ls hx hb hml hown hr hlk hts hnw hK hW hS hL
  exact lv_aload hx hb hd (hL.2.2 _ _ hl) (k p e s m args below meth c H locs ls hx hb hml hown hr hlk hts hnw hK hW hS hL)
theorem az_aloadn {i : Fin 4} {b : Nat} (hd : decode M.2.1 pc = .ok (.aload_n i, 1)) (hl : L[i.val]? = some (some (.inr b))) (k : az_Ev X d M (pc + 1) L (.inr b :: st) mem Q) : az_Ev X d M pc L st mem Q := by
  intro p e s m args below meth c H locs ls hx hb hml hown hr hlk hts hnw hK hW hS hL
  exact lv_aload_n hx hb hd rfl (hL.2.2 _ _ hl) (k p e s m args below meth c H locs ls hx hb hml hown hr hlk hts hnw hK hW hS hL)
theorem az_istore {i : Nat} {v : Int32} (hd : decode M.2.1 pc = .ok (.istore i, 2)) (hi : i < M.2.2.1) (k : az_Ev X d M (pc + 2) (L.set i (some (.inl v))) st mem Q) : az_Ev X d M pc L (.inl v :: st) mem Q := by
  intro p e s m args below meth c H locs ls hx hb hml hown hr hlk hts hnw hK hW hS hL
  exact lv_istore hx hb hd (az_LR_has hL) hi rfl (fun ls' h' => k p e s m args below meth c H locs ls' hx hb hml hown hr hlk hts hnw hK hW hS (az_LR_set (v := .inl v) h'))
theorem az_istoren {i : Fin 4} {v : Int32} (hd : decode M.2.1 pc = .ok (.istore_n i, 1)) (hi : i.val < M.2.2.1) (k : az_Ev X d M (pc + 1) (L.set i.val (some (.inl v))) st mem Q) : az_Ev X d M pc L (.inl v :: st) mem Q := by
  intro p e s m args below meth c H locs ls hx hb hml hown hr hlk hts hnw hK hW hS hL
  exact lv_istore_n hx hb hd rfl (az_LR_has hL) hi rfl (fun ls' h' => k p e s m args below meth c H locs ls' hx hb hml hown hr hlk hts hnw hK hW hS (az_LR_set (v := .inl v) h'))
theorem az_astore {i : Nat} {b : Nat} (hd : decode M.2.1 pc = .ok (.astore i, 2)) (hi : i < M.2.2.1) (k : az_Ev X d M (pc + 2) (L.set i (some (.inr b))) st mem Q) : az_Ev X d M pc L (.inr b :: st) mem Q := by
  intro p e s m args below meth c H locs ls hx hb hml hown hr hlk hts hnw hK hW hS hL
  exact lv_astore hx hb hd (az_LR_has hL) hi rfl (fun ls' h' => k p e s m args below meth c H locs ls' hx hb hml hown hr hlk hts hnw hK hW hS (az_LR_set (v := .inr b) h'))
theorem az_astoren {i : Fin 4} {b : Nat} (hd : decode M.2.1 pc = .ok (.astore_n i, 1)) (hi : i.val < M.2.2.1) (k : az_Ev X d M (pc + 1) (L.set i.val (some (.inr b))) st mem Q) : az_Ev X d M pc L (.inr b :: st) mem Q := by
  intro p e s m args below meth c H locs ls hx hb hml hown hr hlk hts hnw hK hW hS hL
  exact lv_astore_n hx hb hd rfl (az_LR_has hL) hi rfl (fun ls' h' => k p e s m args below meth c H locs ls' hx hb hml hown hr hlk hts hnw hK hW hS (az_LR_set (v := .inr b) h'))
theorem az_iinc {i : Nat} {n : Int} {v w : Int32} (hd : decode M.2.1 pc = .ok (.iinc i n, 3)) (hl : L[i]? = some (some (.inl v))) (hw : Int32.ofInt n = w) (hi : i < M.2.2.1) (k : az_Ev X d M (pc + 3) (L.set i (some (.inl (v + w)))) st mem Q) : az_Ev X d M pc L st mem Q := by
  intro p e s m args below meth c H locs ls hx hb hml hown hr hlk hts hnw hK hW hS hL
  obtain ⟨j, hj⟩ := List.getElem?_of_mem (az_pr_mem (X := X) (L := L) (q := (i, .int v)) |>.mpr ⟨.inl v, hl, rfl⟩)
  subst hw
  exact lv_iinc hx hb hd (az_LR_has hL) hj rfl hi rfl (fun ls' h' => k p e s m args below meth c H locs ls' hx hb hml hown hr hlk hts hnw hK hW hS (az_LR_set (v := .inl (v + Int32.ofInt n)) h'))
theorem az_iconst {n : Int} {v : Int32} (hd : decode M.2.1 pc = .ok (.iconst n, 1)) (hv : Int32.ofInt n = v) (k : az_Ev X d M (pc + 1) L (.inl v :: st) mem Q) : az_Ev X d M pc L st mem Q := by
  intro p e s m args below meth c H locs ls hx hb hml hown hr hlk hts hnw hK hW hS hL
  exact lv_iconst hx hb hd hv (k p e s m args below meth c H locs ls hx hb hml hown hr hlk hts hnw hK hW hS hL)
theorem az_bipush {n : Int} {v : Int32} (hd : decode M.2.1 pc = .ok (.bipush n, 2)) (hv : (Int8.ofInt n).toInt32 = v) (k : az_Ev X d M (pc + 2) L (.inl v :: st) mem Q) : az_Ev X d M pc L st mem Q := by
  intro p e s m args below meth c H locs ls hx hb hml hown hr hlk hts hnw hK hW hS hL
  exact lv_bipush hx hb hd hv (k p e s m args below meth c H locs ls hx hb hml hown hr hlk hts hnw hK hW hS hL)
theorem az_sipush {n : Int} {v : Int32} (hd : decode M.2.1 pc = .ok (.sipush n, 3)) (hv : (Int16.ofInt n).toInt32 = v) (k : az_Ev X d M (pc + 3) L (.inl v :: st) mem Q) : az_Ev X d M pc L st mem Q := by
  intro p e s m args below meth c H locs ls hx hb hml hown hr hlk hts hnw hK hW hS hL
  exact lv_sipush hx hb hd hv (k p e s m args below meth c H locs ls hx hb hml hown hr hlk hts hnw hK hW hS hL)
theorem az_ldc {n : Nat} {v : Int32} (hd : decode M.2.1 pc = .ok (.ldc n, 2)) (hc : Cond.constant M.1.cls n v ∈ az_tb) (k : az_Ev X d M (pc + 2) L (.inl v :: st) mem Q) : az_Ev X d M pc L st mem Q := by
  intro p e s m args below meth c H locs ls hx hb hml hown hr hlk hts hnw hK hW hS hL
  exact lv_ldc hx hb hown (hts _ hc) hd (k p e s m args below meth c H locs ls hx hb hml hown hr hlk hts hnw hK hW hS hL)
theorem az_ldcw {n : Nat} {v : Int32} (hd : decode M.2.1 pc = .ok (.ldc_w n, 3)) (hc : Cond.constant M.1.cls n v ∈ az_tb) (k : az_Ev X d M (pc + 3) L (.inl v :: st) mem Q) : az_Ev X d M pc L st mem Q := by
  intro p e s m args below meth c H locs ls hx hb hml hown hr hlk hts hnw hK hW hS hL
  exact lv_ldcw hx hb hown (hts _ hc) hd (k p e s m args below meth c H locs ls hx hb hml hown hr hlk hts hnw hK hW hS hL)
theorem az_iadd {x y : Int32} (hd : decode M.2.1 pc = .ok (.iadd, 1)) (k : az_Ev X d M (pc + 1) L (.inl (x + y) :: st) mem Q) : az_Ev X d M pc L (.inl y :: .inl x :: st) mem Q := by
  intro p e s m args below meth c H locs ls hx hb hml hown hr hlk hts hnw hK hW hS hL
  exact lv_iadd hx hb hd (k p e s m args below meth c H locs ls hx hb hml hown hr hlk hts hnw hK hW hS hL)
theorem az_isub {x y : Int32} (hd : decode M.2.1 pc = .ok (.isub, 1)) (k : az_Ev X d M (pc + 1) L (.inl (x - y) :: st) mem Q) : az_Ev X d M pc L (.inl y :: .inl x :: st) mem Q := by
  intro p e s m args below meth c H locs ls hx hb hml hown hr hlk hts hnw hK hW hS hL
  exact lv_isub hx hb hd (k p e s m args below meth c H locs ls hx hb hml hown hr hlk hts hnw hK hW hS hL)
theorem az_imul {x y : Int32} (hd : decode M.2.1 pc = .ok (.imul, 1)) (k : az_Ev X d M (pc + 1) L (.inl (x * y) :: st) mem Q) : az_Ev X d M pc L (.inl y :: .inl x :: st) mem Q := by
  intro p e s m args below meth c H locs ls hx hb hml hown hr hlk hts hnw hK hW hS hL
  exact lv_imul hx hb hd (k p e s m args below meth c H locs ls hx hb hml hown hr hlk hts hnw hK hW hS hL)
theorem az_iand {x y : Int32} (hd : decode M.2.1 pc = .ok (.iand, 1)) (k : az_Ev X d M (pc + 1) L (.inl (x &&& y) :: st) mem Q) : az_Ev X d M pc L (.inl y :: .inl x :: st) mem Q := by
  intro p e s m args below meth c H locs ls hx hb hml hown hr hlk hts hnw hK hW hS hL
  exact lv_iand hx hb hd (k p e s m args below meth c H locs ls hx hb hml hown hr hlk hts hnw hK hW hS hL)
theorem az_ior {x y : Int32} (hd : decode M.2.1 pc = .ok (.ior, 1)) (k : az_Ev X d M (pc + 1) L (.inl (x ||| y) :: st) mem Q) : az_Ev X d M pc L (.inl y :: .inl x :: st) mem Q := by
  intro p e s m args below meth c H locs ls hx hb hml hown hr hlk hts hnw hK hW hS hL
  exact lv_ior hx hb hd (k p e s m args below meth c H locs ls hx hb hml hown hr hlk hts hnw hK hW hS hL)
theorem az_ixor {x y : Int32} (hd : decode M.2.1 pc = .ok (.ixor, 1)) (k : az_Ev X d M (pc + 1) L (.inl (x ^^^ y) :: st) mem Q) : az_Ev X d M pc L (.inl y :: .inl x :: st) mem Q := by
  intro p e s m args below meth c H locs ls hx hb hml hown hr hlk hts hnw hK hW hS hL
  exact lv_ixor hx hb hd (k p e s m args below meth c H locs ls hx hb hml hown hr hlk hts hnw hK hW hS hL)
theorem az_ishl {x y : Int32} (hd : decode M.2.1 pc = .ok (.ishl, 1)) (k : az_Ev X d M (pc + 1) L (.inl (x <<< (y &&& 31)) :: st) mem Q) : az_Ev X d M pc L (.inl y :: .inl x :: st) mem Q := by
  intro p e s m args below meth c H locs ls hx hb hml hown hr hlk hts hnw hK hW hS hL
  exact lv_ishl hx hb hd (k p e s m args below meth c H locs ls hx hb hml hown hr hlk hts hnw hK hW hS hL)
theorem az_ishr {x y : Int32} (hd : decode M.2.1 pc = .ok (.ishr, 1)) (k : az_Ev X d M (pc + 1) L (.inl (x >>> (y &&& 31)) :: st) mem Q) : az_Ev X d M pc L (.inl y :: .inl x :: st) mem Q := by
  intro p e s m args below meth c H locs ls hx hb hml hown hr hlk hts hnw hK hW hS hL
  exact lv_ishr hx hb hd (k p e s m args below meth c H locs ls hx hb hml hown hr hlk hts hnw hK hW hS hL)
theorem az_idiv {x y : Int32} (hd : decode M.2.1 pc = .ok (.idiv, 1)) (hy : ¬ y = 0) (k : az_Ev X d M (pc + 1) L (.inl (x / y) :: st) mem Q) : az_Ev X d M pc L (.inl y :: .inl x :: st) mem Q := by
  intro p e s m args below meth c H locs ls hx hb hml hown hr hlk hts hnw hK hW hS hL
  exact lv_idiv hx hb hd hy (k p e s m args below meth c H locs ls hx hb hml hown hr hlk hts hnw hK hW hS hL)
theorem az_irem {x y : Int32} (hd : decode M.2.1 pc = .ok (.irem, 1)) (hy : ¬ y = 0) (k : az_Ev X d M (pc + 1) L (.inl (x - x / y * y) :: st) mem Q) : az_Ev X d M pc L (.inl y :: .inl x :: st) mem Q := by
  intro p e s m args below meth c H locs ls hx hb hml hown hr hlk hts hnw hK hW hS hL
  exact lv_irem hx hb hd hy (k p e s m args below meth c H locs ls hx hb hml hown hr hlk hts hnw hK hW hS hL)
theorem az_iushr {x y : Int32} (hd : decode M.2.1 pc = .ok (.iushr, 1)) (k : az_Ev X d M (pc + 1) L (.inl ((x.toUInt32 >>> (y.toUInt32 &&& Int32.toUInt32 31)).toInt32) :: st) mem Q) : az_Ev X d M pc L (.inl y :: .inl x :: st) mem Q := by
  intro p e s m args below meth c H locs ls hx hb hml hown hr hlk hts hnw hK hW hS hL
  exact lv_iushr hx hb hd rfl (k p e s m args below meth c H locs ls hx hb hml hown hr hlk hts hnw hK hW hS hL)
theorem az_dup {v : az_V} (hd : decode M.2.1 pc = .ok (.dup, 1)) (k : az_Ev X d M (pc + 1) L (v :: v :: st) mem Q) : az_Ev X d M pc L (v :: st) mem Q := by
  intro p e s m args below meth c H locs ls hx hb hml hown hr hlk hts hnw hK hW hS hL
  exact lv_dup hx hb hd (az_cat X v) (k p e s m args below meth c H locs ls hx hb hml hown hr hlk hts hnw hK hW hS hL)
theorem az_dup2 {v w : az_V} (hd : decode M.2.1 pc = .ok (.dup2, 1)) (k : az_Ev X d M (pc + 1) L (v :: w :: v :: w :: st) mem Q) : az_Ev X d M pc L (v :: w :: st) mem Q := by
  intro p e s m args below meth c H locs ls hx hb hml hown hr hlk hts hnw hK hW hS hL
  exact lv_dup2_11 hx hb hd (az_cat X v) (az_cat X w) (k p e s m args below meth c H locs ls hx hb hml hown hr hlk hts hnw hK hW hS hL)
theorem az_goto {off : Int} {t : Nat} (hd : decode M.2.1 pc = .ok (.goto off, 3)) (ht : (pc : Int) + off = (t : Int)) (k : az_Ev X d M t L st mem Q) : az_Ev X d M pc L st mem Q := by
  intro p e s m args below meth c H locs ls hx hb hml hown hr hlk hts hnw hK hW hS hL
  exact lv_goto hx hb hd ht (k p e s m args below meth c H locs ls hx hb hml hown hr hlk hts hnw hK hW hS hL)
theorem az_icmpeq {x y : Int32} {off : Int} {t : Nat} (hd : decode M.2.1 pc = .ok (.if_icmp .eq off, 3)) (ht : (pc : Int) + off = (t : Int)) (kt : x = y → az_Ev X d M t L st mem Q) (kf : ¬ x = y → az_Ev X d M (pc + 3) L st mem Q) : az_Ev X d M pc L (.inl y :: .inl x :: st) mem Q := by
  intro p e s m args below meth c H locs ls hx hb hml hown hr hlk hts hnw hK hW hS hL
  exact lv_icmp_eq hx hb hd ht (fun h => kt h p e s m args below meth c H locs ls hx hb hml hown hr hlk hts hnw hK hW hS hL) (fun h => kf h p e s m args below meth c H locs ls hx hb hml hown hr hlk hts hnw hK hW hS hL)
theorem az_icmpne {x y : Int32} {off : Int} {t : Nat} (hd : decode M.2.1 pc = .ok (.if_icmp .ne off, 3)) (ht : (pc : Int) + off = (t : Int)) (kt : ¬ x = y → az_Ev X d M t L st mem Q) (kf : x = y → az_Ev X d M (pc + 3) L st mem Q) : az_Ev X d M pc L (.inl y :: .inl x :: st) mem Q := by
  intro p e s m args below meth c H locs ls hx hb hml hown hr hlk hts hnw hK hW hS hL
  exact lv_icmp_ne hx hb hd ht (fun h => kt h p e s m args below meth c H locs ls hx hb hml hown hr hlk hts hnw hK hW hS hL) (fun h => kf h p e s m args below meth c H locs ls hx hb hml hown hr hlk hts hnw hK hW hS hL)
theorem az_icmplt {x y : Int32} {off : Int} {t : Nat} (hd : decode M.2.1 pc = .ok (.if_icmp .lt off, 3)) (ht : (pc : Int) + off = (t : Int)) (kt : x < y → az_Ev X d M t L st mem Q) (kf : ¬ x < y → az_Ev X d M (pc + 3) L st mem Q) : az_Ev X d M pc L (.inl y :: .inl x :: st) mem Q := by
  intro p e s m args below meth c H locs ls hx hb hml hown hr hlk hts hnw hK hW hS hL
  exact lv_icmp_lt hx hb hd ht (fun h => kt h p e s m args below meth c H locs ls hx hb hml hown hr hlk hts hnw hK hW hS hL) (fun h => kf h p e s m args below meth c H locs ls hx hb hml hown hr hlk hts hnw hK hW hS hL)
theorem az_icmpge {x y : Int32} {off : Int} {t : Nat} (hd : decode M.2.1 pc = .ok (.if_icmp .ge off, 3)) (ht : (pc : Int) + off = (t : Int)) (kt : y ≤ x → az_Ev X d M t L st mem Q) (kf : ¬ y ≤ x → az_Ev X d M (pc + 3) L st mem Q) : az_Ev X d M pc L (.inl y :: .inl x :: st) mem Q := by
  intro p e s m args below meth c H locs ls hx hb hml hown hr hlk hts hnw hK hW hS hL
  exact lv_icmp_ge hx hb hd ht (fun h => kt h p e s m args below meth c H locs ls hx hb hml hown hr hlk hts hnw hK hW hS hL) (fun h => kf h p e s m args below meth c H locs ls hx hb hml hown hr hlk hts hnw hK hW hS hL)
theorem az_icmpgt {x y : Int32} {off : Int} {t : Nat} (hd : decode M.2.1 pc = .ok (.if_icmp .gt off, 3)) (ht : (pc : Int) + off = (t : Int)) (kt : y < x → az_Ev X d M t L st mem Q) (kf : ¬ y < x → az_Ev X d M (pc + 3) L st mem Q) : az_Ev X d M pc L (.inl y :: .inl x :: st) mem Q := by
  intro p e s m args below meth c H locs ls hx hb hml hown hr hlk hts hnw hK hW hS hL
  exact lv_icmp_gt hx hb hd ht (fun h => kt h p e s m args below meth c H locs ls hx hb hml hown hr hlk hts hnw hK hW hS hL) (fun h => kf h p e s m args below meth c H locs ls hx hb hml hown hr hlk hts hnw hK hW hS hL)
theorem az_icmple {x y : Int32} {off : Int} {t : Nat} (hd : decode M.2.1 pc = .ok (.if_icmp .le off, 3)) (ht : (pc : Int) + off = (t : Int)) (kt : x ≤ y → az_Ev X d M t L st mem Q) (kf : ¬ x ≤ y → az_Ev X d M (pc + 3) L st mem Q) : az_Ev X d M pc L (.inl y :: .inl x :: st) mem Q := by
  intro p e s m args below meth c H locs ls hx hb hml hown hr hlk hts hnw hK hW hS hL
  exact lv_icmp_le hx hb hd ht (fun h => kt h p e s m args below meth c H locs ls hx hb hml hown hr hlk hts hnw hK hW hS hL) (fun h => kf h p e s m args below meth c H locs ls hx hb hml hown hr hlk hts hnw hK hW hS hL)
theorem az_ifeq {x : Int32} {off : Int} {t : Nat} (hd : decode M.2.1 pc = .ok (.ifCond .eq off, 3)) (ht : (pc : Int) + off = (t : Int)) (kt : x = 0 → az_Ev X d M t L st mem Q) (kf : ¬ x = 0 → az_Ev X d M (pc + 3) L st mem Q) : az_Ev X d M pc L (.inl x :: st) mem Q := by
  intro p e s m args below meth c H locs ls hx hb hml hown hr hlk hts hnw hK hW hS hL
  exact lv_if_eq hx hb hd ht (fun h => kt h p e s m args below meth c H locs ls hx hb hml hown hr hlk hts hnw hK hW hS hL) (fun h => kf h p e s m args below meth c H locs ls hx hb hml hown hr hlk hts hnw hK hW hS hL)
theorem az_ifne {x : Int32} {off : Int} {t : Nat} (hd : decode M.2.1 pc = .ok (.ifCond .ne off, 3)) (ht : (pc : Int) + off = (t : Int)) (kt : ¬ x = 0 → az_Ev X d M t L st mem Q) (kf : x = 0 → az_Ev X d M (pc + 3) L st mem Q) : az_Ev X d M pc L (.inl x :: st) mem Q := by
  intro p e s m args below meth c H locs ls hx hb hml hown hr hlk hts hnw hK hW hS hL
  exact lv_if_ne hx hb hd ht (fun h => kt h p e s m args below meth c H locs ls hx hb hml hown hr hlk hts hnw hK hW hS hL) (fun h => kf h p e s m args below meth c H locs ls hx hb hml hown hr hlk hts hnw hK hW hS hL)
theorem az_iflt {x : Int32} {off : Int} {t : Nat} (hd : decode M.2.1 pc = .ok (.ifCond .lt off, 3)) (ht : (pc : Int) + off = (t : Int)) (kt : x < 0 → az_Ev X d M t L st mem Q) (kf : ¬ x < 0 → az_Ev X d M (pc + 3) L st mem Q) : az_Ev X d M pc L (.inl x :: st) mem Q := by
  intro p e s m args below meth c H locs ls hx hb hml hown hr hlk hts hnw hK hW hS hL
  exact lv_if_lt hx hb hd ht (fun h => kt h p e s m args below meth c H locs ls hx hb hml hown hr hlk hts hnw hK hW hS hL) (fun h => kf h p e s m args below meth c H locs ls hx hb hml hown hr hlk hts hnw hK hW hS hL)
theorem az_ifge {x : Int32} {off : Int} {t : Nat} (hd : decode M.2.1 pc = .ok (.ifCond .ge off, 3)) (ht : (pc : Int) + off = (t : Int)) (kt : 0 ≤ x → az_Ev X d M t L st mem Q) (kf : ¬ 0 ≤ x → az_Ev X d M (pc + 3) L st mem Q) : az_Ev X d M pc L (.inl x :: st) mem Q := by
  intro p e s m args below meth c H locs ls hx hb hml hown hr hlk hts hnw hK hW hS hL
  exact lv_if_ge hx hb hd ht (fun h => kt h p e s m args below meth c H locs ls hx hb hml hown hr hlk hts hnw hK hW hS hL) (fun h => kf h p e s m args below meth c H locs ls hx hb hml hown hr hlk hts hnw hK hW hS hL)
theorem az_ifgt {x : Int32} {off : Int} {t : Nat} (hd : decode M.2.1 pc = .ok (.ifCond .gt off, 3)) (ht : (pc : Int) + off = (t : Int)) (kt : 0 < x → az_Ev X d M t L st mem Q) (kf : ¬ 0 < x → az_Ev X d M (pc + 3) L st mem Q) : az_Ev X d M pc L (.inl x :: st) mem Q := by
  intro p e s m args below meth c H locs ls hx hb hml hown hr hlk hts hnw hK hW hS hL
  exact lv_if_gt hx hb hd ht (fun h => kt h p e s m args below meth c H locs ls hx hb hml hown hr hlk hts hnw hK hW hS hL) (fun h => kf h p e s m args below meth c H locs ls hx hb hml hown hr hlk hts hnw hK hW hS hL)
theorem az_ifle {x : Int32} {off : Int} {t : Nat} (hd : decode M.2.1 pc = .ok (.ifCond .le off, 3)) (ht : (pc : Int) + off = (t : Int)) (kt : x ≤ 0 → az_Ev X d M t L st mem Q) (kf : ¬ x ≤ 0 → az_Ev X d M (pc + 3) L st mem Q) : az_Ev X d M pc L (.inl x :: st) mem Q := by
  intro p e s m args below meth c H locs ls hx hb hml hown hr hlk hts hnw hK hW hS hL
  exact lv_if_le hx hb hd ht (fun h => kt h p e s m args below meth c H locs ls hx hb hml hown hr hlk hts hnw hK hW hS hL) (fun h => kf h p e s m args below meth c H locs ls hx hb hml hown hr hlk hts hnw hK hW hS hL)
/-- a test against null: what lies there is a block -/
theorem az_ifnull {b : Nat} {off : Int} (hd : decode M.2.1 pc = .ok (.ifnull off, 3)) (k : az_Ev X d M (pc + 3) L st mem Q) : az_Ev X d M pc L (.inr b :: st) mem Q := by
  intro p e s m args below meth c H locs ls hx hb hml hown hr hlk hts hnw hK hW hS hL
  exact lv_ifnull hx hb hd (k p e s m args below meth c H locs ls hx hb hml hown hr hlk hts hnw hK hW hS hL)
theorem az_tout {dflt lo hi : Int} {offs : Array Int} {len : Nat} {x : Int32} {t : Nat} (hd : decode M.2.1 pc = .ok (.tableswitch dflt lo hi offs, len)) (h : x.toInt < lo ∨ hi < x.toInt) (ht : (pc : Int) + dflt = (t : Int)) (k : az_Ev X d M t L st mem Q) : az_Ev X d M pc L (.inl x :: st) mem Q := by
  intro p e s m args below meth c H locs ls hx hb hml hown hr hlk hts hnw hK hW hS hL
  exact lv_tableOut hx hb hd h ht (k p e s m args below meth c H locs ls hx hb hml hown hr hlk hts hnw hK hW hS hL)
theorem az_tin {dflt lo hi : Int} {offs : Array Int} {len : Nat} {x : Int32} {off : Int} {t : Nat} (hd : decode M.2.1 pc = .ok (.tableswitch dflt lo hi offs, len)) (h1 : ¬ x.toInt < lo) (h2 : ¬ hi < x.toInt) (ho : offs[(x.toInt - lo).toNat]? = some off) (ht : (pc : Int) + off = (t : Int)) (k : az_Ev X d M t L st mem Q) : az_Ev X d M pc L (.inl x :: st) mem Q := by
  intro p e s m args below meth c H locs ls hx hb hml hown hr hlk hts hnw hK hW hS hL
  exact lv_tableIn hx hb hd h1 h2 ho ht (k p e s m args below meth c H locs ls hx hb hml hown hr hlk hts hnw hK hW hS hL)
/-- a field's link: from class own's entry idx to field j of class ci -/
def az_FL (own : String) (idx ci j : Nat) : Prop := ∃ (C : String) (T : u_T) (N : Nat), az_cl[ci]? = some (C, T, N) ∧ j < N ∧ (∀ w ∈ u_ws C T N, w ∈ az_tb) ∧ (T j).1 = C ∧ ((Cond.fieldLink own idx C (T j).2.1 (T j).2.2.1 ∈ az_tb) ∨ ∃ host, Cond.fieldLinkNest own idx C (T j).2.1 (T j).2.2.1 host ∈ az_tn)
theorem az_get {idx ci j k : Nat} {fs : List (Option Nat)} {o : Option Nat} (hd : decode M.2.1 pc = .ok (.getfield idx, 3)) (hf : az_FL M.1.cls idx ci j) (hob : az_Ob k ci fs) (ho : fs[j]? = some o) (kk : az_Ev X d M (pc + 3) L (az_ft o (mem k) j :: st) mem Q) : az_Ev X d M pc L (.inr k :: st) mem Q := by
  intro p e s m args below meth c H locs ls hx hb hml hown hr hlk hts hnw hK hW hS hL
  obtain ⟨C, T, N, hc, hj, hin, hC, hl⟩ := hf
  have he : (az_wl X mem)[k]? = some (X.2.2.2 k, .inr (ci, az_fl X fs (mem k))) := by rw [az_wl_at hob.1, az_ce_ob hob]
  rcases hl with hl | ⟨host, hl⟩
  · exact va_get (ref := C) hx hb hts hin hown hK hW.1 k he hc j hj (hts _ hl) (fun x h => by rw [hC] at h; exact h) (az_fl_at ho) hd (kk p e s m args below meth c H locs ls hx hb hml hown hr hlk hts hnw hK hW hS hL)
  · exact va_getN (ref := C) (host := host) hx hb hts hin hown hK hW.1 k he hc j hj (az_nw_use hnw hl) (fun x h => by rw [hC] at h; exact h) (az_fl_at ho) hd (kk p e s m args below meth c H locs ls hx hb hml hown hr hlk hts hnw hK hW hS hL)
theorem az_geti {idx ci j k : Nat} {fs : List (Option Nat)} (hd : decode M.2.1 pc = .ok (.getfield idx, 3)) (hf : az_FL M.1.cls idx ci j) (hob : az_Ob k ci fs) (ho : fs[j]? = some none) (kk : az_Ev X d M (pc + 3) L (.inl (mem k j) :: st) mem Q) : az_Ev X d M pc L (.inr k :: st) mem Q := az_get hd hf hob ho kk
theorem az_getr {idx ci j k b : Nat} {fs : List (Option Nat)} (hd : decode M.2.1 pc = .ok (.getfield idx, 3)) (hf : az_FL M.1.cls idx ci j) (hob : az_Ob k ci fs) (ho : fs[j]? = some (some b)) (kk : az_Ev X d M (pc + 3) L (.inr b :: st) mem Q) : az_Ev X d M pc L (.inr k :: st) mem Q := az_get hd hf hob ho kk
/-- such a link, of a field that isn't final, of int or boolean -/
def az_PL (own : String) (idx ci j : Nat) (ty : FieldType) : Prop := ∃ (C : String) (T : u_T) (N : Nat) (ty0 : Nat → FieldType), az_cl[ci]? = some (C, T, N) ∧ j < N ∧ (∀ w ∈ u_ws C T N, w ∈ az_tb) ∧ (T j).1 = C ∧ ((Cond.fieldLink own idx C (T j).2.1 (T j).2.2.1 ∈ az_tb) ∨ ∃ host, Cond.fieldLinkNest own idx C (T j).2.1 (T j).2.2.1 host ∈ az_tn) ∧
  (∀ k, k < N → parseFieldDescriptor (T k).2.2.1 = some (ty0 k)) ∧ (∀ a, a < N → ∀ b, b < N → a ≠ b → (T a).2.1 ≠ (T b).2.1) ∧ (T j).2.2.2 = false ∧ ty0 j = ty
theorem az_put {idx ci j k : Nat} {fs : List (Option Nat)} {v : Int32} {ty : FieldType} (hd : decode M.2.1 pc = .ok (.putfield idx, 3)) (hf : az_PL M.1.cls idx ci j ty) (hob : az_Ob k ci fs) (ho : fs[j]? = some none) (hn : narrow ty (.int v) = .int v) (hfit : fits ty (.int v) = true) (kk : az_Ev X d M (pc + 3) L st (az_w mem k j v) Q) : az_Ev X d M pc L (.inl v :: .inr k :: st) mem Q := by
  intro p e s m args below meth c H locs ls hx hb hml hown hr hlk hts hnw hK hW hS hL
  obtain ⟨C, T, N, ty0, hc, hj, hin, hC, hl, hty, hnm, hfin, htj⟩ := hf
  have he : (az_wl X mem)[k]? = some (X.2.2.2 k, .inr (ci, az_fl X fs (mem k))) := by rw [az_wl_at hob.1, az_ce_ob hob]
  have hlen : j < (az_fl X fs (mem k)).length := by
    have := (List.getElem?_eq_some_iff.mp ho).1
    simpa [az_fl] using this
  have hset : (az_wl X mem).set k (X.2.2.2 k, .inr (ci, (az_fl X fs (mem k)).set j (.int v))) = az_wl X (az_w mem k j v) := by
    rw [az_fl_set ho, ← az_ce_ob hob, az_wl_set hob.1]; rfl
  have go : ∀ (H1 : Heap) (locs1 : List Loc), va_P X.2.1 az_cl ((az_wl X mem).set k (X.2.2.2 k, .inr (ci, (az_fl X fs (mem k)).set j (.int v)))) H1 → va_D (az_A X) ((az_wl X mem).set k (X.2.2.2 k, .inr (ci, (az_fl X fs (mem k)).set j (.int v)))) → va_S (az_A X) s.heap H1 locs1 → W p X.1 e (az_rm d) s m args below meth c H1 locs1 0 0 (MQ below (az_Q X Q) args s 0 0 (az_A X)) (F0 m (pc + 3) ls (st.map (az_cv X))) := by
    intro H1 locs1 h1 h2 h3
    rw [hset] at h1 h2
    exact kk p e s m args below meth c H1 locs1 ls hx hb hml hown hr hlk hts hnw hK ⟨h1, h2⟩ h3 hL
  rcases hl with hl | ⟨host, hl⟩
  · exact va_put (ref := C) hx hb hts hin ty0 hty hnm hown hK hW.1 hW.2 hS k he hc j hj (hts _ hl) (fun x h => by rw [hC] at h; exact h) hfin (by rw [hty j hj, htj]) hn hfit hlen hd go
  · exact va_putN (ref := C) (host := host) hx hb hts hin ty0 hty hnm hown hK hW.1 hW.2 hS k he hc j hj (az_nw_use hnw hl) (fun x h => by rw [hC] at h; exact h) hfin (by rw [hty j hj, htj]) hn hfit hlen hd go
theorem az_puti {idx ci j k : Nat} {fs : List (Option Nat)} {v : Int32} (hd : decode M.2.1 pc = .ok (.putfield idx, 3)) (hf : az_PL M.1.cls idx ci j .int) (hob : az_Ob k ci fs) (ho : fs[j]? = some none) (kk : az_Ev X d M (pc + 3) L st (az_w mem k j v) Q) : az_Ev X d M pc L (.inl v :: .inr k :: st) mem Q := az_put hd hf hob ho rfl rfl kk
theorem az_putz {idx ci j k : Nat} {fs : List (Option Nat)} {v : Int32} (hd : decode M.2.1 pc = .ok (.putfield idx, 3)) (hf : az_PL M.1.cls idx ci j .boolean) (hob : az_Ob k ci fs) (ho : fs[j]? = some none) (hv : v = 0 ∨ v = 1) (kk : az_Ev X d M (pc + 3) L st (az_w mem k j v) Q) : az_Ev X d M pc L (.inl v :: .inr k :: st) mem Q :=
  az_put hd hf hob ho (by rcases hv with rfl | rfl <;> rfl) (by rcases hv with rfl | rfl <;> rfl) kk
theorem az_iald {k n : Nat} {x : Int32} (i : Nat) (hd : decode M.2.1 pc = .ok (.iaload, 1)) (ha : az_Ar k n) (hi : i < n) (hn : n < 2 ^ 31) (hx' : x = nI i) (kk : az_Ev X d M (pc + 1) L (.inl (mem k i) :: st) mem Q) : az_Ev X d M pc L (.inl x :: .inr k :: st) mem Q := by
  intro p e s m args below meth c H locs ls hx hb hml hown hr hlk hts hnw hK hW hS hL
  have he : (az_wl X mem)[k]? = some (X.2.2.2 k, .inl (X.2.2.1.1, n, .inl (mem k))) := by rw [az_wl_at ha.1, az_ce_ar ha]
  subst hx'
  have hc : (nI i).toNatClampNeg = i := nI_clamp (by omega)
  exact va_iald hx hb hK hW.1 k 0 he rfl (vp_in_nI hi hn) hd (by rw [hc]; exact kk p e s m args below meth c H locs ls hx hb hml hown hr hlk hts hnw hK hW hS hL)
theorem az_iast {k n : Nat} {x v : Int32} (i : Nat) (hd : decode M.2.1 pc = .ok (.iastore, 1)) (ha : az_Ar k n) (hi : i < n) (hn : n < 2 ^ 31) (hx' : x = nI i) (kk : az_Ev X d M (pc + 1) L st (az_w mem k i v) Q) : az_Ev X d M pc L (.inl v :: .inl x :: .inr k :: st) mem Q := by
  intro p e s m args below meth c H locs ls hx hb hml hown hr hlk hts hnw hK hW hS hL
  have he : (az_wl X mem)[k]? = some (X.2.2.2 k, .inl (X.2.2.1.1, n, .inl (mem k))) := by rw [az_wl_at ha.1, az_ce_ar ha]
  subst hx'
  have hc : (nI i).toNatClampNeg = i := nI_clamp (by omega)
  have hset : (az_wl X mem).set k (X.2.2.2 k, .inl (X.2.2.1.1, n, .inl (upd (mem k) (nI i).toNatClampNeg v))) = az_wl X (az_w mem k i v) := by
    rw [hc, ← az_ce_ar ha, az_wl_set ha.1]; rfl
  refine va_iast hx hb hK hW.1 hW.2 hS k 0 he rfl (vp_in_nI hi hn) hd (fun H1 locs1 h1 h2 h3 => ?_)
  rw [hset] at h1 h2
  exact kk p e s m args below meth c H1 locs1 ls hx hb hml hown hr hlk hts hnw hK ⟨h1, h2⟩ h3 hL
theorem az_aald {k b : Nat} {bs : List Nat} {x : Int32} (i : Nat) (hd : decode M.2.1 pc = .ok (.aaload, 1)) (ha : k < az_K ∧ az_sh k = .inr (.inr bs)) (hi : bs[i]? = some b) (hn : bs.length < 2 ^ 31) (hx' : x = nI i) (kk : az_Ev X d M (pc + 1) L (.inr b :: st) mem Q) : az_Ev X d M pc L (.inl x :: .inr k :: st) mem Q := by
  intro p e s m args below meth c H locs ls hx hb hml hown hr hlk hts hnw hK hW hS hL
  have he : (az_wl X mem)[k]? = some (X.2.2.2 k, .inl (X.2.2.1.2, bs.length, .inr (.inr (.inr (.inr (fun i => (bs[i]?).map X.2.2.2)))))) := by
    rw [az_wl_at ha.1]; unfold az_ce; rw [ha.2]
  subst hx'
  have hlt := (List.getElem?_eq_some_iff.mp hi).1
  have hc : (nI i).toNatClampNeg = i := nI_clamp (by omega)
  refine va_aldq hx hb hK hW.1 k 1 he rfl (vp_in_nI hlt hn) hd ?_
  rw [hc, hi]
  exact kk p e s m args below meth c H locs ls hx hb hml hown hr hlk hts hnw hK hW hS hL
theorem az_alen {k n : Nat} (hd : decode M.2.1 pc = .ok (.arraylength, 1)) (ha : az_Ar k n) (kk : az_Ev X d M (pc + 1) L (.inl (nI n) :: st) mem Q) : az_Ev X d M pc L (.inr k :: st) mem Q := by
  intro p e s m args below meth c H locs ls hx hb hml hown hr hlk hts hnw hK hW hS hL
  have he : (az_wl X mem)[k]? = some (X.2.2.2 k, .inl (X.2.2.1.1, n, .inl (mem k))) := by rw [az_wl_at ha.1, az_ce_ar ha]
  exact va_alen (ty := .int) hx hb hK hW.1 k 0 he rfl rfl hd (kk p e s m args below meth c H locs ls hx hb hml hown hr hlk hts hnw hK hW hS hL)
theorem az_iret {v : Int32} (hd : decode M.2.1 pc = .ok (.ireturn, 1)) (hM : M.2.2.2 = some .int) (h : Q (some (.inl v)) mem) : az_Ev X d M pc L [.inl v] mem Q := by
  intro p e s m args below meth c H locs ls hx hb hml hown hr hlk hts hnw hK hW hS hL
  exact W.iret (v := v) hx hb (hr.trans hM) (fun t ht hWm => ⟨⟨some (.inl v), mem, rfl, h, by rw [ht]; exact hW, va_K.moved hWm.alike hK⟩, hS.F ht⟩) hS.2.2 hd hlk
theorem az_zret {v : Int32} (hd : decode M.2.1 pc = .ok (.ireturn, 1)) (hM : M.2.2.2 = some .boolean) (hv : v = 0 ∨ v = 1) (h : Q (some (.inl v)) mem) : az_Ev X d M pc L [.inl v] mem Q := by
  intro p e s m args below meth c H locs ls hx hb hml hown hr hlk hts hnw hK hW hS hL
  exact W.zret (v := v) hx hb (hr.trans hM) (by rcases hv with rfl | rfl <;> rfl) (fun t ht hWm => ⟨⟨some (.inl v), mem, rfl, h, by rw [ht]; exact hW, va_K.moved hWm.alike hK⟩, hS.F ht⟩) hS.2.2 hd hlk
theorem az_aret {b : Nat} {C : String} (hd : decode M.2.1 pc = .ok (.areturn, 1)) (hM : M.2.2.2 = some (.object C)) (h : Q (some (.inr b)) mem) : az_Ev X d M pc L [.inr b] mem Q := by
  intro p e s m args below meth c H locs ls hx hb hml hown hr hlk hts hnw hK hW hS hL
  exact W.aret (v := .ref (X.2.2.2 b)) hx hb (hr.trans hM) (Or.inl ⟨C, rfl⟩) (Or.inr ⟨_, rfl⟩) (fun t ht hWm => ⟨⟨some (.inr b), mem, rfl, h, by rw [ht]; exact hW, va_K.moved hWm.alike hK⟩, hS.F ht⟩) hS.2.2 hd hlk
theorem az_vret (hd : decode M.2.1 pc = .ok (.return_, 1)) (hM : M.2.2.2 = none) (h : Q none mem) : az_Ev X d M pc L [] mem Q := by
  intro p e s m args below meth c H locs ls hx hb hml hown hr hlk hts hnw hK hW hS hL
  exact W.vret hx hb (hr.trans hM) (fun t ht hWm => ⟨⟨none, mem, rfl, h, by rw [ht]; exact hW, va_K.moved hWm.alike hK⟩, hS.F ht⟩) hS.2.2 hd hlk
/-- a contract out of a walk of the body -/
theorem az_body {args : List az_V} (hy : plainName M.1.cls = true) (hl : args.length ≤ M.2.2.1) (h : az_Ev X d M 0 (args.map some ++ List.replicate (M.2.2.1 - args.length) none) [] mem Q) : az_Sp X d M args mem Q := by
  refine Met.ofW (cc := M.2.1) (maxL := M.2.2.1) (ret := M.2.2.2) hy rfl ?_
  intro p e s m ar below meth c s₁ B hml hv
  obtain ⟨rfl, hW, hK, hnw⟩ := hv
  have hts := atoms_spec (ws := az_ws M) B.pre
  have hslen : ∀ vs : List az_V, lg_sl (vs.map (az_cv X)) = vs.map (fun v => Slot.val (az_cv X v)) := by
    intro vs
    induction vs with
    | nil => rfl
    | cons v vs ih =>
      have : lg_sl ((v :: vs).map (az_cv X)) = (if (az_cv X v).category = 2 then [Slot.val (az_cv X v), .second] else [Slot.val (az_cv X v)]) ++ lg_sl (vs.map (az_cv X)) := rfl
      rw [this, ih]
      simp [az_cat]
  have hle : (lg_sl (args.map (az_cv X))).length ≤ M.2.2.1 := by rw [hslen]; simpa using hl
  have hl0 := lv_entry (args.map (az_cv X)) (n := M.2.2.1) hle
  rw [lg_entry_eq]
  have hLR : az_LR X ((lg_sl (args.map (az_cv X)) ++ List.replicate (M.2.2.1 - (lg_sl (args.map (az_cv X))).length) Slot.unset).toArray) M.2.2.1 (args.map some ++ List.replicate (M.2.2.1 - args.length) none) := by
    refine ⟨hl0.1, hl0.2.1, fun i v hv => ?_⟩
    rw [hslen]
    by_cases hi : i < args.length
    · rw [List.getElem?_append_left (by simpa using hi)] at hv
      rw [List.getElem?_map, Option.map_eq_some_iff] at hv
      obtain ⟨w, hw, he⟩ := hv
      cases he
      simp only [List.getElem?_toArray]
      rw [List.getElem?_append_left (by simpa using hi), List.getElem?_map, hw]
      rfl
    · rw [List.getElem?_append_right (by simpa using hi)] at hv
      have := List.mem_of_getElem? hv
      rw [List.mem_replicate] at this
      exact absurd this.2 (by simp)
  have hx := h p e s m (args.map (az_cv X)).toArray below meth c s.heap [] _ B.exec B.bytes hml (findClass_of_methodNamed B.named) B.returns B.notSynchronized (fun w hw => hts w (List.mem_cons_of_mem _ hw)) hnw hK hW va_S.rf hLR
  exact hx
end AZ1

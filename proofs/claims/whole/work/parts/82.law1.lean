/-! THE LAW, over the abstract layer: its world is the whole system's -/
def al_C (X : az_X) (b L : Nat) (xs : Nat → Int32) (p : Program) (s : State) (m : MethodId) (meth : Method) (c : Code) : Prop := p.tables.exec = Jvm.exec ∧ c.code = code ∧ c.maxLocals = 4 ∧ meth.sig.returnType = ret ∧ meth.locks = false ∧ s.vm.findClass RL = some m.cls ∧ (∀ w ∈ az_tb, w.before #[Value.ref b] s = true) ∧ az_nw s ∧ va_K X.2.1 az_cl (az_ty X) s ∧ va_X b L xs s s.heap ∧ b < s.heap.size
def al_Ev (X : az_X) (b L : Nat) (xs : Nat → Int32) (pc : Nat) (Lc : List (Option Value)) (st : List Value) (mem : az_M) : Prop :=
  ∀ (p : Program) (e : Env) (s : State) (m : MethodId) (below : List Frame) (meth : Method) (c : Code) (H : Heap) (locs : List Loc) (ls : Array Slot), al_C X b L xs p s m meth c → va_P X.2.1 az_cl (az_wl X mem) H → va_D (fun q => s.heap.size ≤ q) (az_wl X mem) → va_S (fun q => s.heap.size ≤ q) s.heap H locs → ay_LR ls 4 Lc →
    W p X.1 e room_1 s m #[Value.ref b] below meth c H locs 404 264090 (lw_Z below #[Value.ref b] s) (F0 m pc ls st)
section AL1
variable {X : az_X} {b L : Nat} {xs : Nat → Int32} {pc : Nat} {Lc : List (Option Value)} {st : List Value} {mem : az_M}
theorem al_pc (q : Nat) (h : q = pc) (k : al_Ev X b L xs q Lc st mem) : al_Ev X b L xs pc Lc st mem := by subst h; exact k
theorem al_aload {i : Fin 4} {a : Nat} (hd : decode code pc = .ok (.aload_n i, 1)) (hl : Lc[i.val]? = some (some (.ref a))) (k : al_Ev X b L xs (pc + 1) Lc (.ref a :: st) mem) : al_Ev X b L xs pc Lc st mem := by
  intro p e s m below meth c H locs ls hC hP hD hS hL
  exact lv_aload_n hC.1 hC.2.1 hd rfl (hL.2.2 _ _ hl) (k p e s m below meth c H locs ls hC hP hD hS hL)
theorem al_iload {i : Fin 4} {a : Int32} (hd : decode code pc = .ok (.iload_n i, 1)) (hl : Lc[i.val]? = some (some (.int a))) (k : al_Ev X b L xs (pc + 1) Lc (.int a :: st) mem) : al_Ev X b L xs pc Lc st mem := by
  intro p e s m below meth c H locs ls hC hP hD hS hL
  exact lv_iload_n hC.1 hC.2.1 hd rfl (hL.2.2 _ _ hl) (k p e s m below meth c H locs ls hC hP hD hS hL)
theorem al_iconst {n : Int} {v : Int32} (hd : decode code pc = .ok (.iconst n, 1)) (hv : Int32.ofInt n = v) (k : al_Ev X b L xs (pc + 1) Lc (.int v :: st) mem) : al_Ev X b L xs pc Lc st mem := by
  intro p e s m below meth c H locs ls hC hP hD hS hL
  exact lv_iconst hC.1 hC.2.1 hd hv (k p e s m below meth c H locs ls hC hP hD hS hL)
theorem al_bipush {n : Int} {v : Int32} (hd : decode code pc = .ok (.bipush n, 2)) (hv : (Int8.ofInt n).toInt32 = v) (k : al_Ev X b L xs (pc + 2) Lc (.int v :: st) mem) : al_Ev X b L xs pc Lc st mem := by
  intro p e s m below meth c H locs ls hC hP hD hS hL
  exact lv_bipush hC.1 hC.2.1 hd hv (k p e s m below meth c H locs ls hC hP hD hS hL)
theorem al_iadd {x y : Int32} (hd : decode code pc = .ok (.iadd, 1)) (k : al_Ev X b L xs (pc + 1) Lc (.int (x + y) :: st) mem) : al_Ev X b L xs pc Lc (.int y :: .int x :: st) mem := by
  intro p e s m below meth c H locs ls hC hP hD hS hL
  exact lv_iadd hC.1 hC.2.1 hd (k p e s m below meth c H locs ls hC hP hD hS hL)
theorem al_isub {x y : Int32} (hd : decode code pc = .ok (.isub, 1)) (k : al_Ev X b L xs (pc + 1) Lc (.int (x - y) :: st) mem) : al_Ev X b L xs pc Lc (.int y :: .int x :: st) mem := by
  intro p e s m below meth c H locs ls hC hP hD hS hL
  exact lv_isub hC.1 hC.2.1 hd (k p e s m below meth c H locs ls hC hP hD hS hL)
theorem al_iand {x y : Int32} (hd : decode code pc = .ok (.iand, 1)) (k : al_Ev X b L xs (pc + 1) Lc (.int (x &&& y) :: st) mem) : al_Ev X b L xs pc Lc (.int y :: .int x :: st) mem := by
  intro p e s m below meth c H locs ls hC hP hD hS hL
  exact lv_iand hC.1 hC.2.1 hd (k p e s m below meth c H locs ls hC hP hD hS hL)
theorem al_slen (hd : decode code pc = .ok (.arraylength, 1)) (k : al_Ev X b L xs (pc + 1) Lc (.int (nI L) :: st) mem) : al_Ev X b L xs pc Lc (.ref b :: st) mem := by
  intro p e s m below meth c H locs ls hC hP hD hS hL
  obtain ⟨hx, hb, hml, hr, hlk, hown, hts, hnw, hK, hX, hbl⟩ := id hC
  exact va_slen hx hb hX hbl (Nat.not_le.mpr hbl) hS hd (k p e s m below meth c H locs ls hC hP hD hS hL)
theorem al_sld {x : Int32} {i : Nat} (hd : decode code pc = .ok (.iaload, 1)) (hi : i < L) (hL0 : L < 2 ^ 31) (hxi : x = nI i) (k : al_Ev X b L xs (pc + 1) Lc (.int (xs i) :: st) mem) : al_Ev X b L xs pc Lc (.int x :: .ref b :: st) mem := by
  intro p e s m below meth c H locs ls hC hP hD hS hL
  obtain ⟨hx, hb, hml, hr, hlk, hown, hts, hnw, hK, hX, hbl⟩ := id hC
  subst hxi
  refine va_sld hx hb hX hbl (Nat.not_le.mpr hbl) hS (vp_in_nI hi hL0) hd ?_
  rw [nI_clamp (by omega)]
  exact k p e s m below meth c H locs ls hC hP hD hS hL
theorem al_icmpgt {x y : Int32} {off : Int} {t : Nat} (hd : decode code pc = .ok (.if_icmp .gt off, 3)) (ht : (pc : Int) + off = (t : Int)) (kt : y < x → al_Ev X b L xs t Lc st mem) (kf : ¬ y < x → al_Ev X b L xs (pc + 3) Lc st mem) : al_Ev X b L xs pc Lc (.int y :: .int x :: st) mem := by
  intro p e s m below meth c H locs ls hC hP hD hS hL
  exact lv_icmp_gt hC.1 hC.2.1 hd ht (fun h => kt h p e s m below meth c H locs ls hC hP hD hS hL) (fun h => kf h p e s m below meth c H locs ls hC hP hD hS hL)
theorem al_icmpeq {x y : Int32} {off : Int} {t : Nat} (hd : decode code pc = .ok (.if_icmp .eq off, 3)) (ht : (pc : Int) + off = (t : Int)) (kt : x = y → al_Ev X b L xs t Lc st mem) (kf : ¬ x = y → al_Ev X b L xs (pc + 3) Lc st mem) : al_Ev X b L xs pc Lc (.int y :: .int x :: st) mem := by
  intro p e s m below meth c H locs ls hC hP hD hS hL
  exact lv_icmp_eq hC.1 hC.2.1 hd ht (fun h => kt h p e s m below meth c H locs ls hC hP hD hS hL) (fun h => kf h p e s m below meth c H locs ls hC hP hD hS hL)
theorem al_ifeq {x : Int32} {off : Int} {t : Nat} (hd : decode code pc = .ok (.ifCond .eq off, 3)) (ht : (pc : Int) + off = (t : Int)) (kt : x = 0 → al_Ev X b L xs t Lc st mem) (kf : ¬ x = 0 → al_Ev X b L xs (pc + 3) Lc st mem) : al_Ev X b L xs pc Lc (.int x :: st) mem := by
  intro p e s m below meth c H locs ls hC hP hD hS hL
  exact lv_if_eq hC.1 hC.2.1 hd ht (fun h => kt h p e s m below meth c H locs ls hC hP hD hS hL) (fun h => kf h p e s m below meth c H locs ls hC hP hD hS hL)
theorem al_goto {off : Int} {t : Nat} (hd : decode code pc = .ok (.goto off, 3)) (ht : (pc : Int) + off = (t : Int)) (k : al_Ev X b L xs t Lc st mem) : al_Ev X b L xs pc Lc st mem := by
  intro p e s m below meth c H locs ls hC hP hD hS hL
  exact lv_goto hC.1 hC.2.1 hd ht (k p e s m below meth c H locs ls hC hP hD hS hL)
theorem al_iinc {i : Nat} {n : Int} {v w : Int32} (hd : decode code pc = .ok (.iinc i n, 3)) (hl : Lc[i]? = some (some (.int v))) (hw : Int32.ofInt n = w) (hi : i < 4) (hcat : ay_c1 Lc) (k : al_Ev X b L xs (pc + 3) (Lc.set i (some (.int (v + w)))) st mem) : al_Ev X b L xs pc Lc st mem := by
  intro p e s m below meth c H locs ls hC hP hD hS hL
  obtain ⟨j, hj⟩ := List.mem_iff_getElem?.mp (ay_pr_mem (q := (i, .int v)) |>.mpr hl)
  exact lv_iinc (k := j) hC.1 hC.2.1 hd (ay_LR_has hL) hj (by rw [hw]) hi rfl (fun ls' h' => k p e s m below meth c H locs ls' hC hP hD hS (ay_LR_set hcat h'))
theorem al_tout {dflt lo hi : Int} {offs : Array Int} {len : Nat} {x : Int32} {t : Nat} (hd : decode code pc = .ok (.tableswitch dflt lo hi offs, len)) (h : x.toInt < lo ∨ hi < x.toInt) (ht : (pc : Int) + dflt = (t : Int)) (k : al_Ev X b L xs t Lc st mem) : al_Ev X b L xs pc Lc (.int x :: st) mem := by
  intro p e s m below meth c H locs ls hC hP hD hS hL
  exact lv_tableOut hC.1 hC.2.1 hd h ht (k p e s m below meth c H locs ls hC hP hD hS hL)
theorem al_tin {dflt lo hi : Int} {offs : Array Int} {len : Nat} {x : Int32} {off : Int} {t : Nat} (hd : decode code pc = .ok (.tableswitch dflt lo hi offs, len)) (h1 : ¬ x.toInt < lo) (h2 : ¬ hi < x.toInt) (ho : offs[(x.toInt - lo).toNat]? = some off) (ht : (pc : Int) + off = (t : Int)) (k : al_Ev X b L xs t Lc st mem) : al_Ev X b L xs pc Lc (.int x :: st) mem := by
  intro p e s m below meth c H locs ls hC hP hD hS hL
  exact lv_tableIn hC.1 hC.2.1 hd h1 h2 ho ht (k p e s m below meth c H locs ls hC hP hD hS hL)
theorem al_ret (hd : decode code pc = .ok (.ireturn, 1)) : al_Ev X b L xs pc Lc [.int 1] mem := by
  intro p e s m below meth c H locs ls hC hP hD hS hL
  obtain ⟨hx, hb, hml, hr, hlk, hown, hts, hnw, hK, hX, hbl⟩ := id hC
  exact va_forget hS.2.2 (W.widen (by decide) (by decide) (lw_ret hx hb hr hlk hd))
theorem al_call {idx ci n k : Nat} {N : az_Me} {fs : List (Option Nat)} {T : u_T} {nn : Nat} {Q1 : Option az_V → az_M → Prop} (As : List az_V) (hd : decode code pc = .ok (.invokevirtual idx, 3)) (hk : az_Lk RL idx N.1) (hN : az_OV N n) (hob : az_Ob k ci fs) (hc : az_cl[ci]? = some (N.1.cls, T, nn)) (hn : As.length = n) (hr : (st.map fun v => v.category).sum ≤ 8) (hs : az_Sp X (0 + 30) N (.inr k :: As) mem Q1)
    (kk : ∀ (r : Option az_V) (mem' : az_M), Q1 r mem' → al_Ev X b L xs (pc + 3) Lc ((r.map (az_cv X)).toList ++ st) mem') : al_Ev X b L xs pc Lc ((As.map (az_cv X)).reverse ++ .ref (X.2.2.2 k) :: st) mem := by
  intro p e s m below meth c H locs ls hC hP hD hS hL
  obtain ⟨hx, hb, hml, hrt, hlk, hown, hts, hnw, hK, hX, hbl⟩ := id hC
  exact ax_call As hx hb hml hown hts hnw hK hP hD hS hL.1 hd hk hN hob hc hn hr (by decide) (by decide) (by decide) (by decide) hs (fun r mem' H1 locs1 hq h1 h2 h3 => kk r mem' hq p e s m below meth c H1 locs1 ls hC h1 h2 h3 hL)
end AL1
abbrev al_L (X : az_X) (b i : Nat) : List (Option Value) := [some (.ref b), some (.ref (X.2.2.2 0)), some (.ref (X.2.2.2 391)), some (.int (nI i))]

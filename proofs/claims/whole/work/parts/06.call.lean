/-! CALLS in the abstract layer -/
theorem az_good : az_tb.all goodWord = true := List.all_eq_true.mpr (fun w h => (List.mem_filter.mp h).2)
/-- what the tables say of a method that is called -/
def az_OK (N : az_Me) (n : Nat) : Prop := Cond.code N.1 N.2.1 N.2.2.1 N.2.2.2 ∈ az_tb ∧ Cond.initialized N.1.cls ∈ az_tb ∧ (N.1.cls ≠ "java/lang/invoke/MethodHandle" ∧ N.1.cls ≠ "java/lang/invoke/VarHandle" ∧ (parseMethodDescriptor N.1.desc).map (fun d => d.parameters.length) = some n) ∧ N.2.2.1 ≤ 40
def az_OV (N : az_Me) (n : Nat) : Prop := az_OK N n ∧ Cond.instanceMethod N.1 ∈ az_tb ∧ Cond.selects N.1.cls N.1 N.1 ∈ az_tb
def az_OS (N : az_Me) (n : Nat) : Prop := az_OK N n ∧ Cond.static N.1 ∈ az_tb
def az_Lk (own : String) (idx : Nat) (y : MethodName) : Prop := Cond.methodLink own idx y ∈ az_tb ∨ ∃ host, Cond.methodLinkNest own idx y host ∈ az_tn
theorem az_goodIn {N : az_Me} {n : Nat} (h : az_OK N n) : GoodIn az_tb (az_ws N) := by
  intro w hw
  have hm : w ∈ az_tb := by
    rcases List.mem_cons.mp hw with rfl | hw
    · exact h.1
    · exact hw
  exact ⟨hm, good_of_word (List.all_eq_true.mp az_good w hm)⟩
theorem az_room {N : az_Me} {n : Nat} (h : az_OK N n) (d : Nat) : (az_rm d).frames + 1 ≤ (az_rm (d + 1)).frames ∧ 8 + (N.2.2.1 + 11) + (az_rm d).locals ≤ (az_rm (d + 1)).locals := by
  have := h.2.2.2
  constructor
  · exact Nat.le_refl _
  · show 8 + (N.2.2.1 + 11) + 64 * d ≤ 64 * (d + 1)
    omega
theorem az_ps_map (X : az_X) (r : Option az_V) (rest : List az_V) : (az_ps r rest).map (az_cv X) = (r.map (az_cv X)).toList ++ rest.map (az_cv X) := by
  cases r <;> rfl
theorem az_sum (X : az_X) (rest : List az_V) : ((rest.map (az_cv X)).map fun v => v.category).sum = rest.length := by
  induction rest with
  | nil => rfl
  | cons a l ih => simp only [List.map_cons, List.sum_cons, List.length_cons, ih, az_cat]; omega
section AZ2
variable {p : Program} {e : Env} {s : State} {m : MethodId} {args : Array Value} {below : List Frame} {meth : Method} {c : Code} {H : Heap} {locs : List Loc} {R : Room} {Z : State → Prop}
variable {X : az_X} {pc : Nat} {ls : Array Slot}
theorem az_back {Q1 : Option az_V → az_M → Prop} {rest : List az_V} {st0 : List Value} {a : Array Value} (hr : va_Run p X.1 e R s m args below meth c H locs 0 0 0 0 (F0 m pc ls st0) (rest.map (az_cv X)) (az_Q X Q1 a) (az_A X)) (hS : va_S (az_A X) s.heap H locs)
    (kk : ∀ (r : Option az_V) (mem : az_M) (H1 : Heap) (locs1 : List Loc), Q1 r mem → az_Wd X mem H1 → va_S (az_A X) s.heap H1 locs1 → W p X.1 e R s m args below meth c H1 locs1 0 0 Z (F0 m (pc + 3) ls ((az_ps r rest).map (az_cv X)))) : W p X.1 e R s m args below meth c H locs 0 0 Z (F0 m pc ls st0) := by
  intro T hT X0
  obtain ⟨v, st₀, t, T', L, h0, X', hL, e1, e2, ⟨⟨r, mem', hv, hq, hw, hk⟩, hz, hkp⟩, st⟩ := hr T hT X0
  cases hv
  rw [h0] at hz hkp
  obtain ⟨t2, a1, b1⟩ := kk r mem' T'.heap (locs ++ L) hq (by rw [e1]; exact hw)
    ⟨Nat.le_trans hS.1 (by rw [e1]; exact hz), fun q h1 h2 => by rw [e1, hkp q (Nat.lt_of_lt_of_le h1 hS.1) h2]; exact hS.2.1 q h1 h2, fun q hq => by
      rcases List.mem_append.mp hq with h | h
      · exact hS.2.2 q h
      · exact hL q h⟩ T' rfl X'
  rw [az_ps_map] at a1
  exact ⟨t2, st t2 a1, b1⟩
end AZ2
section AZ3
variable {X : az_X} {d : Nat} {M : az_Me} {pc : Nat} {L : List (Option az_V)} {rest : List az_V} {mem : az_M} {Q : Option az_V → az_M → Prop}
theorem az_blind {X : az_X} {mem : az_M} (args : List az_V) : FrameBlind (va_Pc (args.map (az_cv X)) (fun U => az_Wd X mem U.heap ∧ va_K X.2.1 az_cl (az_ty X) U ∧ az_nw U)) :=
  fun a U g mk q => ⟨q.1, q.2.1, va_K.moved (u := U) (U := U.calling g mk a) (Vm.Alike.refl U.vm) q.2.2.1, az_nw_same (s := U) (U := U.calling g mk a) rfl q.2.2.2⟩
theorem az_callV {idx ci n k : Nat} {N : az_Me} {fs : List (Option Nat)} {T : u_T} {nn : Nat} (As : List az_V) (hd : decode M.2.1 pc = .ok (.invokevirtual idx, 3)) (hk : az_Lk M.1.cls idx N.1) (hN : az_OV N n) (hob : az_Ob k ci fs) (hc : az_cl[ci]? = some (N.1.cls, T, nn)) (hn : As.length = n) (hr : rest.length ≤ 8)
    (hs : az_Sp X d N (.inr k :: As) mem (fun r mem' => az_Ev X (d + 1) M (pc + 3) L (az_ps r rest) mem' Q)) : az_Ev X (d + 1) M pc L (As.reverse ++ .inr k :: rest) mem Q := by
  intro p e s m args below meth c H locs ls hx hb hml hown hrt hlk hts hnw hK hW hS hL
  have he : (az_wl X mem)[k]? = some (X.2.2.2 k, .inr (ci, az_fl X fs (mem k))) := by rw [az_wl_at hob.1, az_ce_ob hob]
  have hPV : PreV s H N.1.cls (X.2.2.2 k) (va_Pc ((Sum.inr k :: As).map (az_cv X)) (fun U => az_Wd X mem U.heap ∧ va_K X.2.1 az_cl (az_ty X) U ∧ az_nw U)) (As.map (az_cv X)) :=
    ⟨az_blind _, va_recv (q := (N.1.cls, T, nn)) hK hW.1 hc he, fun U hU hWm => ⟨rfl, by rw [hU]; exact hW, va_K.moved hWm.alike hK, az_nw_warm hWm hnw⟩⟩
  have hst : (As.reverse ++ .inr k :: rest).map (az_cv X) = (As.map (az_cv X)).reverse ++ .ref (X.2.2.2 k) :: rest.map (az_cv X) := by
    simp [az_cv]
  have hsum : 2 * (F0 m pc ls ((As.reverse ++ .inr k :: rest).map (az_cv X))).monitorRoom + ((rest.map (az_cv X)).map fun v => v.category).sum ≤ 8 := by
    rw [az_sum]; exact (by simpa [JFrame.monitorRoom] using hr)
  have run : va_Run p X.1 e (az_rm (d + 1)) s m args below meth c H locs 0 0 0 0 (F0 m pc ls ((As.reverse ++ .inr k :: rest).map (az_cv X))) (rest.map (az_cv X)) (az_Q X (fun r mem' => az_Ev X (d + 1) M (pc + 3) L (az_ps r rest) mem' Q) (Value.ref (X.2.2.2 k) :: As.map (az_cv X)).toArray) (az_A X) := by
    rcases hk with hk | ⟨host, hk⟩
    · exact va_runV (C := N.1.cls) ⟨hx, hb, hml, hown, hts⟩ hs (⟨callB_of n hts (az_goodIn hN.1) rfl rfl rfl (hts _ hN.1.2.1) (hts _ hk) hN.1.2.2.1 (az_room hN.1 d), hts _ hN.2.1, hts _ hN.2.2⟩) hPV rfl (by simpa using hn) hL.1 hst hsum hd ⟨Nat.le_refl 0, Nat.le_refl 0⟩
    · exact va_runVN (C := N.1.cls) (host := host) ⟨hx, hb, hml, hown, hts⟩ hs ⟨va_cnB n hts (az_goodIn hN.1) rfl rfl rfl (hnw _ hk) (hts _ hN.1.2.1) hN.1.2.2.1 (az_room hN.1 d), hts _ hN.2.1, hts _ hN.2.2⟩ hPV rfl (by simpa using hn) hL.1 hst hsum hd ⟨Nat.le_refl 0, Nat.le_refl 0⟩
  exact az_back run hS (fun r mem1 H1 locs1 hq hw hS1 => hq p e s m args below meth c H1 locs1 ls hx hb hml hown hrt hlk hts hnw hK hw hS1 hL)
theorem az_callS {idx n : Nat} {N : az_Me} (As : List az_V) (hd : decode M.2.1 pc = .ok (.invokestatic idx, 3)) (hk : Cond.methodLink M.1.cls idx N.1 ∈ az_tb) (hN : az_OS N n) (hn : As.length = n) (hr : rest.length ≤ 8)
    (hs : az_Sp X d N As mem (fun r mem' => az_Ev X (d + 1) M (pc + 3) L (az_ps r rest) mem' Q)) : az_Ev X (d + 1) M pc L (As.reverse ++ rest) mem Q := by
  intro p e s m args below meth c H locs ls hx hb hml hown hrt hlk hts hnw hK hW hS hL
  have hPS : PreS s H (va_Pc (As.map (az_cv X)) (fun U => az_Wd X mem U.heap ∧ va_K X.2.1 az_cl (az_ty X) U ∧ az_nw U)) (As.map (az_cv X)) :=
    ⟨az_blind _, fun U hU hWm => ⟨rfl, by rw [hU]; exact hW, va_K.moved hWm.alike hK, az_nw_warm hWm hnw⟩⟩
  have hst : (As.reverse ++ rest).map (az_cv X) = (As.map (az_cv X)).reverse ++ rest.map (az_cv X) := by simp
  have hsum : 2 * (F0 m pc ls ((As.reverse ++ rest).map (az_cv X))).monitorRoom + ((rest.map (az_cv X)).map fun v => v.category).sum ≤ 8 := by
    rw [az_sum]; exact (by simpa [JFrame.monitorRoom] using hr)
  have run : va_Run p X.1 e (az_rm (d + 1)) s m args below meth c H locs 0 0 0 0 (F0 m pc ls ((As.reverse ++ rest).map (az_cv X))) (rest.map (az_cv X)) (az_Q X (fun r mem' => az_Ev X (d + 1) M (pc + 3) L (az_ps r rest) mem' Q) (As.map (az_cv X)).toArray) (az_A X) :=
    va_runS ⟨hx, hb, hml, hown, hts⟩ hs ⟨callB_of n hts (az_goodIn hN.1) rfl rfl rfl (hts _ hN.1.2.1) (hts _ hk) hN.1.2.2.1 (az_room hN.1 d), hts _ hN.2⟩ hPS rfl (by simpa using hn) hL.1 hst hsum hd ⟨Nat.le_refl 0, Nat.le_refl 0⟩
  exact az_back run hS (fun r mem1 H1 locs1 hq hw hS1 => hq p e s m args below meth c H1 locs1 ls hx hb hml hown hrt hlk hts hnw hK hw hS1 hL)
theorem az_inv0 {idx ci k : Nat} {N : az_Me} {fs : List (Option Nat)} {T : u_T} {nn : Nat} (hd : decode M.2.1 pc = .ok (.invokevirtual idx, 3)) (hk : az_Lk M.1.cls idx N.1) (hN : az_OV N 0) (hob : az_Ob k ci fs) (hc : az_cl[ci]? = some (N.1.cls, T, nn)) (hr : rest.length ≤ 8)
    (hs : az_Sp X d N [.inr k] mem (fun r mem' => az_Ev X (d + 1) M (pc + 3) L (az_ps r rest) mem' Q)) : az_Ev X (d + 1) M pc L (.inr k :: rest) mem Q := az_callV [] hd hk hN hob hc rfl hr hs
theorem az_inv1 {idx ci k : Nat} {N : az_Me} {fs : List (Option Nat)} {T : u_T} {nn : Nat} {a1 : az_V} (hd : decode M.2.1 pc = .ok (.invokevirtual idx, 3)) (hk : az_Lk M.1.cls idx N.1) (hN : az_OV N 1) (hob : az_Ob k ci fs) (hc : az_cl[ci]? = some (N.1.cls, T, nn)) (hr : rest.length ≤ 8)
    (hs : az_Sp X d N [.inr k, a1] mem (fun r mem' => az_Ev X (d + 1) M (pc + 3) L (az_ps r rest) mem' Q)) : az_Ev X (d + 1) M pc L (a1 :: .inr k :: rest) mem Q := az_callV [a1] hd hk hN hob hc rfl hr hs
theorem az_inv2 {idx ci k : Nat} {N : az_Me} {fs : List (Option Nat)} {T : u_T} {nn : Nat} {a1 a2 : az_V} (hd : decode M.2.1 pc = .ok (.invokevirtual idx, 3)) (hk : az_Lk M.1.cls idx N.1) (hN : az_OV N 2) (hob : az_Ob k ci fs) (hc : az_cl[ci]? = some (N.1.cls, T, nn)) (hr : rest.length ≤ 8)
    (hs : az_Sp X d N [.inr k, a1, a2] mem (fun r mem' => az_Ev X (d + 1) M (pc + 3) L (az_ps r rest) mem' Q)) : az_Ev X (d + 1) M pc L (a2 :: a1 :: .inr k :: rest) mem Q := az_callV [a1, a2] hd hk hN hob hc rfl hr hs
theorem az_inv3 {idx ci k : Nat} {N : az_Me} {fs : List (Option Nat)} {T : u_T} {nn : Nat} {a1 a2 a3 : az_V} (hd : decode M.2.1 pc = .ok (.invokevirtual idx, 3)) (hk : az_Lk M.1.cls idx N.1) (hN : az_OV N 3) (hob : az_Ob k ci fs) (hc : az_cl[ci]? = some (N.1.cls, T, nn)) (hr : rest.length ≤ 8)
    (hs : az_Sp X d N [.inr k, a1, a2, a3] mem (fun r mem' => az_Ev X (d + 1) M (pc + 3) L (az_ps r rest) mem' Q)) : az_Ev X (d + 1) M pc L (a3 :: a2 :: a1 :: .inr k :: rest) mem Q := az_callV [a1, a2, a3] hd hk hN hob hc rfl hr hs
theorem az_inv4 {idx ci k : Nat} {N : az_Me} {fs : List (Option Nat)} {T : u_T} {nn : Nat} {a1 a2 a3 a4 : az_V} (hd : decode M.2.1 pc = .ok (.invokevirtual idx, 3)) (hk : az_Lk M.1.cls idx N.1) (hN : az_OV N 4) (hob : az_Ob k ci fs) (hc : az_cl[ci]? = some (N.1.cls, T, nn)) (hr : rest.length ≤ 8)
    (hs : az_Sp X d N [.inr k, a1, a2, a3, a4] mem (fun r mem' => az_Ev X (d + 1) M (pc + 3) L (az_ps r rest) mem' Q)) : az_Ev X (d + 1) M pc L (a4 :: a3 :: a2 :: a1 :: .inr k :: rest) mem Q := az_callV [a1, a2, a3, a4] hd hk hN hob hc rfl hr hs
theorem az_ins1 {idx : Nat} {N : az_Me} {a1 : az_V} (hd : decode M.2.1 pc = .ok (.invokestatic idx, 3)) (hk : Cond.methodLink M.1.cls idx N.1 ∈ az_tb) (hN : az_OS N 1) (hr : rest.length ≤ 8)
    (hs : az_Sp X d N [a1] mem (fun r mem' => az_Ev X (d + 1) M (pc + 3) L (az_ps r rest) mem' Q)) : az_Ev X (d + 1) M pc L (a1 :: rest) mem Q := az_callS [a1] hd hk hN rfl hr hs
theorem az_ins2 {idx : Nat} {N : az_Me} {a1 a2 : az_V} (hd : decode M.2.1 pc = .ok (.invokestatic idx, 3)) (hk : Cond.methodLink M.1.cls idx N.1 ∈ az_tb) (hN : az_OS N 2) (hr : rest.length ≤ 8)
    (hs : az_Sp X d N [a1, a2] mem (fun r mem' => az_Ev X (d + 1) M (pc + 3) L (az_ps r rest) mem' Q)) : az_Ev X (d + 1) M pc L (a2 :: a1 :: rest) mem Q := az_callS [a1, a2] hd hk hN rfl hr hs
/-- System.arraycopy between two different or equal int rows of the world -/
theorem az_copy {idx k0 k1 n0 n1 : Nat} (hd : decode M.2.1 pc = .ok (.invokestatic idx, 3)) (hk : Cond.methodLink M.1.cls idx arraycopyName ∈ az_tb) (h0 : az_Ar k0 n0) (h1 : az_Ar k1 n1) (sp dp n : Nat) (hsp : sp + n ≤ n0) (hdp : dp + n ≤ n1) (hn0 : n0 < 2 ^ 31) (hn1 : n1 < 2 ^ 31) {vs vd vn : Int32} (es : vs = nI sp) (ed : vd = nI dp) (en : vn = nI n) (hr : rest.length ≤ 8) (hdd : 2 ≤ d)
    (hw : Cond.native arraycopyName ∈ az_tb ∧ Cond.static arraycopyName ∈ az_tb ∧ Cond.initialized "java/lang/System" ∈ az_tb) (kk : az_Ev X d M (pc + 3) L rest (az_st mem k1 (va_cpy (mem k0) (mem k1) sp dp n)) Q) : az_Ev X d M pc L (.inl vn :: .inl vd :: .inr k1 :: .inl vs :: .inr k0 :: rest) mem Q := by
  intro p e s m args below meth c H locs ls hx hb hml hown hrt hlk hts hnw hK hW hS hL
  subst es; subst ed; subst en
  have he0 : (az_wl X mem)[k0]? = some (X.2.2.2 k0, .inl (X.2.2.1.1, n0, .inl (mem k0))) := by rw [az_wl_at h0.1, az_ce_ar h0]
  have he1 : (az_wl X mem)[k1]? = some (X.2.2.2 k1, .inl (X.2.2.1.1, n1, .inl (mem k1))) := by rw [az_wl_at h1.1, az_ce_ar h1]
  have c1 : (nI sp).toNatClampNeg = sp := nI_clamp (by omega)
  have c2 : (nI dp).toNatClampNeg = dp := nI_clamp (by omega)
  have c3 : (nI n).toNatClampNeg = n := nI_clamp (by omega)
  have hset : (az_wl X mem).set k1 (X.2.2.2 k1, .inl (X.2.2.1.1, n1, .inl (va_cpy (mem k0) (mem k1) (nI sp).toNatClampNeg (nI dp).toNatClampNeg (nI n).toNatClampNeg))) = az_wl X (az_st mem k1 (va_cpy (mem k0) (mem k1) sp dp n)) := by
    rw [c1, c2, c3, ← az_ce_ar h1, az_wl_set h1.1]
  refine va_copyi (ty := .int) hx hb (hml.trans hL.1.symm) hown (hts _ hk) (hts _ hw.1) (hts _ hw.2.1) (hts _ hw.2.2) hK hW.1 hW.2 hS k0 k1 0 0 he0 he1 rfl rfl rfl (nI_pos (by omega)) (nI_pos (by omega)) (nI_pos (by omega)) (by rw [c1, c3]; exact hsp) (by rw [c2, c3]; exact hdp) (fun i hi => rfl) ?_ ?_ hd (fun H1 locs1 g1 g2 g3 => ?_)
  · show 1 ≤ d
    omega
  · rw [az_sum]
    have : nativeFrameWords "java/lang/System" "arraycopy" 5 + 11 ≤ 100 := by decide +kernel
    show _ ≤ 64 * d
    omega
  · rw [hset] at g1 g2
    exact kk p e s m args below meth c H1 locs1 ls hx hb hml hown hrt hlk hts hnw hK ⟨g1, g2⟩ g3 hL
end AZ3

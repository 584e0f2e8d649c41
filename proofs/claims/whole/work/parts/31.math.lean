/-! Math.min, Math.max, Math.floorMod (Math's class has rows of its own in the machine: its methods are entered by contract) -/
section JB
variable {X : az_X} {d : Nat} {M : az_Me} {pc : Nat} {L : List (Option az_V)} {rest : List az_V} {mem : az_M} {Q : Option az_V → az_M → Prop}
theorem az_min {idx : Nat} {x y : Int32} (hd : decode M.2.1 pc = .ok (.invokestatic idx, 3)) (hk : Cond.methodLink M.1.cls idx yJ9_min_7cf53 ∈ az_tb) (hr : rest.length ≤ 8) (hdd : 1 ≤ d) (kk : az_Ev X d M (pc + 3) L (.inl (if y < x then y else x) :: rest) mem Q) : az_Ev X d M pc L (.inl y :: .inl x :: rest) mem Q := by
  intro p e s m args below meth c H locs ls hx hb hml hown hrt hlk hts hnw hK hW hS hL
  have ok := okJ9_min_7cf53
  exact va_mmin hx hb (hml.trans hL.1.symm) hown (hts _ hk) (hts _ ok.2) (hts _ ok.1.2.1) (hts _ ok.1.1) (by show 1 ≤ d; exact hdd) (by rw [az_sum]; show _ ≤ 64 * d; omega) (Nat.zero_le _) (Nat.zero_le _) hd (kk p e s m args below meth c H locs ls hx hb hml hown hrt hlk hts hnw hK hW hS hL)
theorem az_max {idx : Nat} {x y : Int32} (hd : decode M.2.1 pc = .ok (.invokestatic idx, 3)) (hk : Cond.methodLink M.1.cls idx yJ9_max_7cf53 ∈ az_tb) (hr : rest.length ≤ 8) (hdd : 1 ≤ d) (kk : az_Ev X d M (pc + 3) L (.inl (if x < y then y else x) :: rest) mem Q) : az_Ev X d M pc L (.inl y :: .inl x :: rest) mem Q := by
  intro p e s m args below meth c H locs ls hx hb hml hown hrt hlk hts hnw hK hW hS hL
  have ok := okJ9_max_7cf53
  exact va_mmax hx hb (hml.trans hL.1.symm) hown (hts _ hk) (hts _ ok.2) (hts _ ok.1.2.1) (hts _ ok.1.1) (by show 1 ≤ d; exact hdd) (by rw [az_sum]; show _ ≤ 64 * d; omega) (Nat.zero_le _) (Nat.zero_le _) hd (kk p e s m args below meth c H locs ls hx hb hml hown hrt hlk hts hnw hK hW hS hL)
end JB
/-- what floorMod answers -/
def zj_fm (a b : Int32) : Int32 := if 0 ≤ a ^^^ b then a - a / b * b else if a - a / b * b = 0 then a - a / b * b else a - a / b * b + b
def zj_fmS (a b : Int32) : Spec where
  pre := .and (.code yJ9_floorMod_7cf53 cJ9_floorMod_7cf53 3 (some .int)) (.and (.count 2) (.and (.isInt (.arg 0)) (.and (.isInt (.arg 1)) (.and (.eq (.arg 0) (.int a)) (.eq (.arg 1) (.int b))))))
  post := .and .returned (.eq .result (.int (zj_fm a b)))
  changes := some []
theorem zj_fm_row0 : (NativeRow.find? natives yJ9_floorMod_7cf53.cls yJ9_floorMod_7cf53.name yJ9_floorMod_7cf53.desc).isNone = true := by decide +kernel
theorem zj_fm_row (p : Program) : NativeRow.find? p.tables.natives yJ9_floorMod_7cf53.cls yJ9_floorMod_7cf53.name yJ9_floorMod_7cf53.desc = none := by
  cases p <;> exact Option.isNone_iff_eq_none.mp zj_fm_row0
theorem zj_fm_meets (l : Launch) (a b : Int32) (hb0 : ¬ b = 0) : Meets l yJ9_floorMod_7cf53 (zj_fmS a b) := by
  refine Meets.of_body_ov (code := cJ9_floorMod_7cf53) (maxLocals := 3) (ret := some .int) zj_fm_row ?_ ?_
  · intro args s h
    simp only [zj_fmS, Cond.before_and, Bool.and_eq_true] at h
    exact h.1
  · intro p e s m args below meth c s₁ B
    have hpre := B.pre
    simp only [zj_fmS, Cond.before_and, Bool.and_eq_true] at hpre
    obtain ⟨a', b', rfl⟩ := Cond.two_ints hpre.2.1 hpre.2.2.1 hpre.2.2.2.1
    have ea : a' = a := by
      have h := hpre.2.2.2.2.1
      simpa [Cond.before, Cond.holds, Cond.value, Term.eval] using h
    have eb : b' = b := by
      have h := hpre.2.2.2.2.2
      simpa [Cond.before, Cond.holds, Cond.value, Term.eval] using h
    subst ea; subst eb
    have hloc : argsToLocals #[.int a', .int b'] 3 = #[.val (.int a'), .val (.int b'), .unset] := rfl
    obtain ⟨fs, hfs⟩ := handOver_isSome (s := s₁) (some (.int (zj_fm a' b'))) B.hears₁
    refine ⟨s₁.setFrames fs, .returned (some (.int (zj_fm a' b'))), ?_, B.here.running, B.ended hfs (by intro h; cases h), ?_, State.sameBut_nil.mpr ?_⟩
    · unfold entryFrame; rw [hloc]
      refine Steps.instrAtOv (c := _) (by simpa using B.here) ?_
      simp [jvm, wpRun, exec, B.here.top, B.exec, B.bytes, dJ9_floorMod_7cf53_0]
      refine Steps.instrAtOv (c := _) (by simpa using B.here) ?_
      simp [jvm, wpRun, exec, B.here.top, B.exec, B.bytes, dJ9_floorMod_7cf53_1]
      refine Steps.instrAtOv (c := _) (by simpa using B.here) ?_
      simp [jvm, wpRun, exec, B.here.top, B.exec, B.bytes, dJ9_floorMod_7cf53_2, hb0]
      refine Steps.instrAtOv (c := _) (by simpa using B.here) ?_
      simp [jvm, wpRun, exec, B.here.top, B.exec, B.bytes, dJ9_floorMod_7cf53_3]
      refine ⟨#[.val (.int a'), .val (.int b'), .val (.int (a' - a' / b' * b'))], rfl, ?_⟩
      refine Steps.instrAtOv (c := _) (by simpa using B.here) ?_
      simp [jvm, wpRun, exec, B.here.top, B.exec, B.bytes, dJ9_floorMod_7cf53_4]
      refine Steps.instrAtOv (c := _) (by simpa using B.here) ?_
      simp [jvm, wpRun, exec, B.here.top, B.exec, B.bytes, dJ9_floorMod_7cf53_5]
      refine Steps.instrAtOv (c := _) (by simpa using B.here) ?_
      simp [jvm, wpRun, exec, B.here.top, B.exec, B.bytes, dJ9_floorMod_7cf53_6]
      by_cases h1 : 0 ≤ a' ^^^ b'
      · rw [show zj_fm a' b' = a' - a' / b' * b' from by unfold zj_fm; rw [if_pos h1]] at hfs
        refine Steps.instrAtOv (c := _) (by simpa using B.here) ?_
        simp [jvm, wpRun, exec, B.here.top, B.exec, B.bytes, dJ9_floorMod_7cf53_7, ifCond.holds, h1]
        refine Steps.instrAtOv (c := _) (by simpa using B.here) ?_
        simp [jvm, wpRun, exec, B.here.top, B.exec, B.bytes, dJ9_floorMod_7cf53_18]
        refine Steps.instrAtOv (c := _) (by simpa using B.here) ?_
        simp [jvm, wpRun, exec, B.here.top, B.exec, B.bytes, dJ9_floorMod_7cf53_19, B.method₁, B.returns, narrow]
        intro acts
        rw [ret_to B.frames₁ B.method₁ B.notSynchronized rfl rfl hfs]
        exact Steps.refl _
      · by_cases h2 : a' - a' / b' * b' = 0
        · rw [show zj_fm a' b' = a' - a' / b' * b' from by unfold zj_fm; rw [if_neg h1, if_pos h2]] at hfs
          rw [h2] at hfs
          refine Steps.instrAtOv (c := _) (by simpa using B.here) ?_
          simp [jvm, wpRun, exec, B.here.top, B.exec, B.bytes, dJ9_floorMod_7cf53_7, ifCond.holds, h1]
          refine Steps.instrAtOv (c := _) (by simpa using B.here) ?_
          simp [jvm, wpRun, exec, B.here.top, B.exec, B.bytes, dJ9_floorMod_7cf53_10]
          refine Steps.instrAtOv (c := _) (by simpa using B.here) ?_
          simp [jvm, wpRun, exec, B.here.top, B.exec, B.bytes, dJ9_floorMod_7cf53_11, ifCond.holds, h2]
          refine Steps.instrAtOv (c := _) (by simpa using B.here) ?_
          simp [jvm, wpRun, exec, B.here.top, B.exec, B.bytes, dJ9_floorMod_7cf53_18]
          refine Steps.instrAtOv (c := _) (by simpa using B.here) ?_
          simp [jvm, wpRun, exec, B.here.top, B.exec, B.bytes, dJ9_floorMod_7cf53_19, B.method₁, B.returns, narrow]
          intro acts
          rw [ret_to B.frames₁ B.method₁ B.notSynchronized rfl rfl hfs]
          exact Steps.refl _
        · rw [show zj_fm a' b' = a' - a' / b' * b' + b' from by unfold zj_fm; rw [if_neg h1, if_neg h2]] at hfs
          refine Steps.instrAtOv (c := _) (by simpa using B.here) ?_
          simp [jvm, wpRun, exec, B.here.top, B.exec, B.bytes, dJ9_floorMod_7cf53_7, ifCond.holds, h1]
          refine Steps.instrAtOv (c := _) (by simpa using B.here) ?_
          simp [jvm, wpRun, exec, B.here.top, B.exec, B.bytes, dJ9_floorMod_7cf53_10]
          refine Steps.instrAtOv (c := _) (by simpa using B.here) ?_
          simp [jvm, wpRun, exec, B.here.top, B.exec, B.bytes, dJ9_floorMod_7cf53_11, ifCond.holds, h2]
          refine Steps.instrAtOv (c := _) (by simpa using B.here) ?_
          simp [jvm, wpRun, exec, B.here.top, B.exec, B.bytes, dJ9_floorMod_7cf53_14]
          refine Steps.instrAtOv (c := _) (by simpa using B.here) ?_
          simp [jvm, wpRun, exec, B.here.top, B.exec, B.bytes, dJ9_floorMod_7cf53_15]
          refine Steps.instrAtOv (c := _) (by simpa using B.here) ?_
          simp [jvm, wpRun, exec, B.here.top, B.exec, B.bytes, dJ9_floorMod_7cf53_16]
          refine Steps.instrAtOv (c := _) (by simpa using B.here) ?_
          simp [jvm, wpRun, exec, B.here.top, B.exec, B.bytes, dJ9_floorMod_7cf53_17, B.method₁, B.returns, narrow]
          intro acts
          rw [ret_to B.frames₁ B.method₁ B.notSynchronized rfl rfl hfs]
          exact Steps.refl _
    · simp [zj_fmS, Cond.after, Cond.holds, Cond.value, Term.eval]
    · rw [State.frames_setFrames _ B.cur₁, B.back]
section JC
variable {p : Program} {l : Launch} {e : Env} {R : Room} {s : State} {m : MethodId} {args : Array Value} {below : List Frame} {meth : Method} {c : Code} {cells slots : Nat} {T : State} {locs : List Loc}
theorem zj_fmV (X : Stand p l e R s m args below meth c T locs cells slots) (hexec : p.tables.exec = Jvm.exec) {own : String} {index : Nat} (hown : s.vm.findClass own = some m.cls)
    (hlink : (Cond.methodLink own index yJ9_floorMod_7cf53).before args s = true) (hstat : (Cond.static yJ9_floorMod_7cf53).before args s = true) (hinit : (Cond.initialized "java/lang/Math").before args s = true)
    (hcode : (Cond.code yJ9_floorMod_7cf53 cJ9_floorMod_7cf53 3 (some .int)).before args s = true)
    {g : JFrame} (hg : g.method = m) (hsize : g.locals.size = c.maxLocals) {a b : Int32} (hb0 : ¬ b = 0) {rest : List Value} (hstack : g.stack = .int b :: .int a :: rest) (hdg : decode c.code g.pc = .ok (.invokestatic index, 3))
    (hframes : 1 ≤ R.frames) (hlocals : 2 * g.monitorRoom + (rest.map fun v => v.category).sum + 14 ≤ R.locals) (hcells : cells ≤ R.cells) (hslots : slots ≤ R.slots) :
    ∃ vm', Stand p l e R s m args below meth c (T.setVm vm') locs cells slots ∧
      ∀ target, Steps p.tables e below ((T.setVm vm').setTop { g with pc := g.pc + 3, stack := .int (zj_fm a b) :: rest }) target → Steps p.tables e below (T.setTop g) target := by
  obtain ⟨v, T', X', ⟨first, t, hpost⟩, hstep⟩ := X.staticByContractV hexec hown hlink hstat hinit hcode (by decide +kernel)
    (Meets.loose_of_no_refs (zj_fm_meets l a b hb0) fun args' s' h => by
      simp only [zj_fmS, Cond.before_and, Bool.and_eq_true] at h
      obtain ⟨x, y, rfl⟩ := Cond.two_ints h.2.1 h.2.2.1 h.2.2.2.1
      intro r hr; simp at hr)
    rfl rfl rfl rfl
    (fun args' first o s₂ h => by
      simp only [zj_fmS, Cond.after_and, Bool.and_eq_true] at h
      cases o with
      | returned r => exact ⟨r, rfl⟩
      | threw y => simp [Cond.after, Cond.holds, Cond.value] at h)
    hg hsize (argsL := [.int a, .int b]) (rest := rest)
    (fun sig hs => by
      have h : parseMethodDescriptor "(II)I" = some { parameters := [.int, .int], returnType := some .int } := by decide +kernel
      rw [show yJ9_floorMod_7cf53.desc = "(II)I" from rfl, h] at hs
      rw [← Option.some.inj hs]; rfl)
    hstack hdg
    (fun vm' hW => by
      simp only [zj_fmS, Cond.before_and, Bool.and_eq_true]
      refine ⟨?_, rfl, rfl, rfl, ?_, ?_⟩
      · have q := hcode
        rw [← Cond.code_setVm hW.alike] at q
        simp only [Cond.before, Cond.holds, Cond.value, State.methodNamed?, State.vm_setVm] at q ⊢
        exact q
      · simp [Cond.before, Cond.holds, Cond.value, Term.eval]
      · simp [Cond.before, Cond.holds, Cond.value, Term.eval])
    (by show 0 + 1 ≤ R.frames; omega) (by show 2 * g.monitorRoom + (rest.map fun v => v.category).sum + (3 + 11) + 0 ≤ R.locals; omega) (by show cells + 0 ≤ R.cells; omega) (by show slots + 0 ≤ R.slots; omega)
  refine ⟨T', X', fun target h => hstep target ?_⟩
  obtain rfl : v = some (.int (zj_fm a b)) := by
    rcases v with _ | w
    · simp [zj_fmS, Cond.after, Cond.holds, Cond.value, Term.eval] at hpost
    · cases w <;> simp [zj_fmS, Cond.after, Cond.holds, Cond.value, Term.eval] at hpost
      rename_i r
      by_cases hr : r = zj_fm a b <;> simp [hr] at hpost ⊢
  exact h
end JC
section JD
variable {X : az_X} {d : Nat} {M : az_Me} {pc : Nat} {L : List (Option az_V)} {rest : List az_V} {mem : az_M} {Q : Option az_V → az_M → Prop}
theorem az_fmod {idx : Nat} {x y : Int32} (hy : ¬ y = 0) (hd : decode M.2.1 pc = .ok (.invokestatic idx, 3)) (hk : Cond.methodLink M.1.cls idx yJ9_floorMod_7cf53 ∈ az_tb) (hr : rest.length ≤ 8) (hdd : 1 ≤ d) (kk : az_Ev X d M (pc + 3) L (.inl (zj_fm x y) :: rest) mem Q) : az_Ev X d M pc L (.inl y :: .inl x :: rest) mem Q := by
  intro p e s m args below meth c H locs ls hx hb hml hown hrt hlk hts hnw hK hW hS hL
  have ok := okJ9_floorMod_7cf53
  intro T hT X0
  obtain ⟨vm', X', st⟩ := zj_fmV X0 hx hown (hts _ hk) (hts _ ok.2) (hts _ ok.1.2.1) (hts _ ok.1.1) (g := F0 m pc ls ((.inl y :: .inl x :: rest : List az_V).map (az_cv X))) rfl (hL.1.trans hml.symm) (a := x) (b := y) hy (rest := rest.map (az_cv X)) rfl (by rw [hb]; exact hd) (by show 1 ≤ d; exact hdd) (by rw [az_sum]; show 2 * 0 + _ + 14 ≤ 64 * d; omega) (Nat.zero_le _) (Nat.zero_le _)
  obtain ⟨t, a1, b1⟩ := kk p e s m args below meth c H locs ls hx hb hml hown hrt hlk hts hnw hK hW hS hL (T.setVm vm') hT X'
  exact ⟨t, st t a1, b1⟩
theorem zj_fm60 {t n : Nat} (ht : t < 60) (hn : n ≤ 60) : zj_fm (nI t - nI n) 60 = nI ((t + 60 - n) % 60) := by
  have key : ∀ t, t < 60 → ∀ n, n < 61 → zj_fm (nI t - nI n) 60 = nI ((t + 60 - n) % 60) := by decide +kernel
  exact key t ht n (by omega)
end JD

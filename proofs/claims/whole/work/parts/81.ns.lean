/-! a throw whose constructor hands on by a link of its own index (NoSuchElementException) -/
section NSA
variable {p : Program} {l : Launch} {e : Env} {R : Room} {s : State} {m₀ : MethodId} {args : Array Value} {below : List Frame} {meth : Method} {c : Code} {W : State} {locs : List Loc} {cells slots : Nat}
/-- the words that such a throw needs: the first link apart, then the chain above it -/
def vn_al (own : String) (ic : Nat) (X Y : String) (ix : Nat) (bt : ByteArray) (names : List String) : List Cond := Bundle.throwableAtoms ++ (Bundle.throwableSAtoms ++ (Bundle.passSAtoms X Y ix bt ++ (Bundle.chainSAtoms Y names ++ [Cond.methodLink own ic (Bundle.initS X), .instantiable X 6, .selects X Bundle.tFill0 Bundle.tFill0, .selects X Bundle.tFill Bundle.tFill, .lays X Bundle.tN "cause" "Ljava/lang/Throwable;", .lays X Bundle.tN "stackTrace" Bundle.steD, .lays X Bundle.tN "suppressedExceptions" Bundle.listD, .lays X Bundle.tN "detailMessage" "Ljava/lang/String;", .isRef (.static Bundle.tN "UNASSIGNED_STACK" Bundle.steD), .isRef (.static Bundle.tN "SUPPRESSED_SENTINEL" Bundle.listD), .fieldLink Bundle.tN 198 Bundle.tN "backtrace" "Ljava/lang/Object;", .lays Bundle.tN Bundle.tN "backtrace" "Ljava/lang/Object;", .lays X Bundle.tN "backtrace" "Ljava/lang/Object;"])))
set_option maxHeartbeats 1000000 in
theorem vn_ctor (X : Stand p l e R s m₀ args below meth c W locs cells slots) (hexec : p.tables.exec = Jvm.exec) (htr : e.platform.stackTraces = false) {own cls Y0 : String} {ix : Nat} {bt : ByteArray} {names : List String} {ic : Nat}
    (hown : s.vm.findClass own = some m₀.cls) (hcls : Bundle.fit cls = true) (hY : Bundle.fit Y0 = true) (hnames : ∀ n ∈ names, Bundle.fit n = true)
    (b0 : decode bt 0 = .ok (.aload_n 0, 1)) (b1 : decode bt 1 = .ok (.aload_n 1, 1)) (b2 : decode bt 2 = .ok (.invokespecial ix, 3)) (b5 : decode bt 5 = .ok (.return_, 1))
    (h : ∀ a ∈ vn_al own ic cls Y0 ix bt names, a.before args s = true)
    (hlocs : ∀ x ∈ locs, ∀ cell, s.heap[x.base]? = some cell → cell.vm.isStatics = false)
    {a : Addr} {cX : ClassId} {kX : Class} (hfoundX : s.vm.findClass cls = some cX) (hkX : s.vm.classes[cX]? = some kX) (hcell : W.heap[a]? = some (freshCell cX kX)) (hnew : s.heap.size ≤ a)
    {msg : Value} (hmsg : msg.isRef = true)
    {g : JFrame} (hg : g.method = m₀) (hsize : g.locals.size = c.maxLocals) (hlocked : g.locked = none) (hentered : g.entered = []) {rest : List Value} (hstack : g.stack = msg :: .ref a :: .ref a :: rest)
    (hd6 : decode c.code g.pc = .ok (.invokespecial ic, 3)) (hd9 : decode c.code (g.pc + 3) = .ok (.athrow, 1)) (hout : ∀ x ∈ c.exceptionTable.toList, covers x (g.pc + 3) = false)
    (hRframes : names.length + 4 < R.frames) (hRlocals : 2 * g.monitorRoom + ((Value.ref a :: rest).map fun v => v.category).sum + (13 * (names.length + 2) + 42) ≤ R.locals) (hlocks : meth.locks = false) :
    ∃ U : State, Steps p.tables e below (W.setTop g) U ∧ U.status = .running ∧ Ended U below (.threw a) ∧ s.WarmedH U.vm ∧ s.sameButNew ({ U with vm := s.vm } : State) locs cells slots ∧
      ∃ ce, U.heap[a]? = some ce ∧ s.vm.findClass cls = some ce.cls ∧ ce.vm = .none := by
  have hpl : e.platform.magicAccessors = ({} : Platform).magicAccessors := by rw [X.admits.platform]
  have hA : ∀ x, x ∈ vn_al own ic cls Y0 ix bt names → x.holds args s none s [] = true := fun x hx => h x hx
  have inT : ∀ x, x ∈ Bundle.throwableAtoms → x ∈ vn_al own ic cls Y0 ix bt names := fun x hx => List.mem_append_left _ hx
  have inS : ∀ x, x ∈ Bundle.throwableSAtoms → x ∈ vn_al own ic cls Y0 ix bt names := fun x hx => List.mem_append_right _ (List.mem_append_left _ hx)
  have inP : ∀ x, x ∈ Bundle.passSAtoms cls Y0 ix bt → x ∈ vn_al own ic cls Y0 ix bt names := fun x hx => List.mem_append_right _ (List.mem_append_right _ (List.mem_append_left _ hx))
  have inC : ∀ x, x ∈ Bundle.chainSAtoms Y0 names → x ∈ vn_al own ic cls Y0 ix bt names := fun x hx => List.mem_append_right _ (List.mem_append_right _ (List.mem_append_right _ (List.mem_append_left _ hx)))
  have inE : ∀ x, x ∈ [Cond.methodLink own ic (Bundle.initS cls), .instantiable cls 6, .selects cls Bundle.tFill0 Bundle.tFill0, .selects cls Bundle.tFill Bundle.tFill, .lays cls Bundle.tN "cause" "Ljava/lang/Throwable;", .lays cls Bundle.tN "stackTrace" Bundle.steD, .lays cls Bundle.tN "suppressedExceptions" Bundle.listD, .lays cls Bundle.tN "detailMessage" "Ljava/lang/String;", .isRef (.static Bundle.tN "UNASSIGNED_STACK" Bundle.steD), .isRef (.static Bundle.tN "SUPPRESSED_SENTINEL" Bundle.listD), .fieldLink Bundle.tN 198 Bundle.tN "backtrace" "Ljava/lang/Object;", .lays Bundle.tN Bundle.tN "backtrace" "Ljava/lang/Object;", .lays cls Bundle.tN "backtrace" "Ljava/lang/Object;"] → x ∈ vn_al own ic cls Y0 ix bt names := fun x hx => List.mem_append_right _ (List.mem_append_right _ (List.mem_append_right _ (List.mem_append_right _ hx)))
  obtain ⟨T, Z0, L, -, Y⟩ := ThrowableC.of_atoms (args := args) (by rw [X.admits.platform]) (by rw [X.admits.platform]) hpl (fun x hx => h x (inT x hx))
  obtain ⟨Z, M, LZ, LM, hnZ⟩ := Init0T.ofS_atoms (args := args) hpl L Y (fun x hx => h x (inS x hx))
  obtain ⟨P2, Ps, hlen, L2, hL, hP2m, hlink2, hlink⟩ := Bundle.chainS (args := args) hpl hnZ names Y0 hY hnames (fun x hx => h x (inC x hx))
  obtain ⟨P1, L1, hP1m, hP1s⟩ := PassC.ofS_atoms (args := args) (s := s) hpl (X := cls) (Y := Y0) (Bundle.fit_spec hcls).1 (Bundle.fit_spec hY).2 b0 b1 b2 b5 (fun x hx => h x (inP x hx))
  have h12 : P1.sup = P2.m := Option.some.inj (hP1s.symm.trans hP2m)
  have hfound : s.vm.findClass cls = some P1.m.cls := findClass_of_methodNamed hP1m
  cases Option.some.inj (hfoundX.symm.trans hfound)
  obtain ⟨c1, k1, hc1, hk, hord, -, -, -⟩ := Cond.instantiable_spec (hA (.instantiable cls 6) (inE _ (by simp)))
  cases Option.some.inj (hc1.symm.trans hfound)
  cases Option.some.inj (hkX.symm.trans hk)
  have sel0 : selectMethod e.platform s.vm P1.m.cls T.fill0 = .method T.fill0 := by
    obtain ⟨c2, r2, m2, q1, q2, q3, q4, -⟩ := Cond.selects_spec (hA (.selects cls Bundle.tFill0 Bundle.tFill0) (inE _ (by simp)))
    cases Option.some.inj (q1.symm.trans hfound)
    cases Option.some.inj (q2.symm.trans (State.methodFound?_of_named Y.fill0 (by decide)))
    cases Option.some.inj (q3.symm.trans Y.fill0)
    rw [Launch.admits_selectMethod X.admits]
    exact q4
  have selF : selectMethod e.platform s.vm P1.m.cls T.fill = .method T.fill := by
    obtain ⟨c2, r2, m2, q1, q2, q3, q4, -⟩ := Cond.selects_spec (hA (.selects cls Bundle.tFill Bundle.tFill) (inE _ (by simp)))
    cases Option.some.inj (q1.symm.trans hfound)
    cases Option.some.inj (q2.symm.trans (State.methodFound?_of_named Y.fill (by decide)))
    cases Option.some.inj (q3.symm.trans Y.fill)
    rw [Launch.admits_selectMethod X.admits]
    exact q4
  obtain ⟨cs0, hcs0, hiss⟩ := Y.statics
  obtain ⟨u0, hu0⟩ := Cond.staticRefV Y.unassigned L.unassignedStatic L.statics hcs0 hiss (hA (.isRef (.static Bundle.tN "UNASSIGNED_STACK" Bundle.steD)) (inE _ (by simp)))
  obtain ⟨sn, hsn⟩ := Cond.staticRefV Y.sentinel L.sentinelStatic L.statics hcs0 hiss (hA (.isRef (.static Bundle.tN "SUPPRESSED_SENTINEL" Bundle.listD)) (inE _ (by simp)))
  obtain ⟨ci, ib, fB, hkb, hgb, hab, hsB, -, hnB, htB, hffB⟩ := Cond.ownField (t := .object "java/lang/Object") Y.found L.cls (by decide +kernel) (hA (.fieldLink Bundle.tN 198 Bundle.tN "backtrace" "Ljava/lang/Object;") (inE _ (by simp))) (hA (.lays Bundle.tN Bundle.tN "backtrace" "Ljava/lang/Object;") (inE _ (by simp))) e.platform hpl
  obtain ⟨cs, hcs', heS, -, hkeep⟩ := X.same.2.2.2.2.2 T.aS cs0 hcs0
  have hout' : ∀ i, (⟨T.aS, i⟩ : Loc) ∉ locs := fun i hmem => by
    have := hlocs _ hmem cs0 hcs0
    rw [hiss] at this
    cases this
  have hkn : cs.vm ≠ .unknown := by
    rw [heS]
    intro hu
    rw [show cs0.vm = .unknown from hu] at hiss
    cases hiss
  have hneS : T.aS ≠ a := Nat.ne_of_lt (Nat.lt_of_lt_of_le (Array.getElem?_eq_some_iff.mp hcs0).1 hnew)
  obtain ⟨iM, hffM⟩ := Y.msg
  obtain ⟨tyC, dC, hdC, hdnC⟩ := Cond.laysAt hfound hk Y.cause (hA (.lays cls Bundle.tN "cause" "Ljava/lang/Throwable;") (inE _ (by simp)))
  obtain ⟨tyS, dS, hdS, hdnS⟩ := Cond.laysAt hfound hk Y.stack (hA (.lays cls Bundle.tN "stackTrace" Bundle.steD) (inE _ (by simp)))
  obtain ⟨tyP, dP, hdP, hdnP⟩ := Cond.laysAt hfound hk Y.supp (hA (.lays cls Bundle.tN "suppressedExceptions" Bundle.listD) (inE _ (by simp)))
  obtain ⟨tyM, dM, hdM, hdnM⟩ := Cond.laysAt hfound hk hffM (hA (.lays cls Bundle.tN "detailMessage" "Ljava/lang/String;") (inE _ (by simp)))
  obtain ⟨tyB, dB, hdB, hdnB⟩ := Cond.laysAt hfound hk hffB (hA (.lays cls Bundle.tN "backtrace" "Ljava/lang/Object;") (inE _ (by simp)))
  have bC := Cond.laysApart hdB hdC hdnB hdnC (by rw [hnB, Y.causeName]; decide)
  have bS := Cond.laysApart hdB hdS hdnB hdnS (by rw [hnB, Y.stackName]; decide)
  have bP := Cond.laysApart hdB hdP hdnB hdnP (by rw [hnB, Y.suppName]; decide)
  have hskip : SkipFacts T e.platform s (fun u => u) u0 ((preparedCellV T.toThrowableT (freshCell P1.m.cls kX) a u0 sn).withEntry W.cur) :=
    ⟨{ ci198 := ci, i198 := ib, fBack := fB }, ⟨hkb, hgb, hab, hsB⟩, by
      have := fresh_default (c := P1.m.cls) tyB
      rw [htB] at this
      simpa [preparedCellV, Cell.setSlot, Cell.withEntry, Array.getElem?_setIfInBounds, bC, bS, bP, bC.symm, bS.symm, bP.symm, defaultValue] using this, fun _ _ => rfl⟩
  obtain ⟨tm, mC, cdC, kC, v1, hnC, -, -, -, -, -, -, -, hW1, st1⟩ := Steps.initColdS (tb := p.tables) (e := e) (below := below) (s := s) (U := W) X.here hexec X.warmed hpl hown (t := Bundle.initS cls) rfl rfl (Bundle.fit_spec hcls).2
    (hA (.methodLink own ic (Bundle.initS cls)) (inE _ (by simp))) (h (.instanceMethod (Bundle.initS cls)) (inP _ (by simp [Bundle.passSAtoms]))) (bytes := bt) (maxL := 2) (h (.code (Bundle.initS cls) bt 2 none) (inP _ (by simp [Bundle.passSAtoms])))
    (f := g) hg (a := a) (msg := msg) (rest := .ref a :: rest) hstack hd6
  cases Option.some.inj (hnC.symm.trans hP1m)
  have X1 := X.noted hW1
  obtain ⟨v2, X2, st2⟩ := X1.ctorMessageOffV hexec (g := { g with stack := .ref a :: rest }) hg hsize T L Z LZ M LM (P1 :: P2 :: Ps)
    (fun P hP => by
      rcases List.mem_cons.mp hP with rfl | hP
      · exact L1
      · rcases List.mem_cons.mp hP with rfl | hP
        · exact L2
        · exact hL P hP) ⟨h12, hlink2, hlink⟩ (u0 := u0) (sen := sn) (self := a) hmsg (cell := freshCell P1.m.cls kX) (cellS := cs)
    hcell (fun _ => by simp) (by simp) rfl rfl sel0 selF hcs' hneS hkn (by rw [hkeep _ (hout' _)]; exact hu0) (by rw [hkeep _ (hout' _)]; exact hsn)
    (Takes.of_laid hk hord tyC (by rw [Y.causeType]; rfl)) (Takes.of_laid hk hord tyS (by rw [Y.stackType]; exact fits_refV_array _ u0)) (Takes.of_laid hk hord tyP (by rw [Y.suppType]; exact fits_refV_object _ sn))
    (Takes.of_laid hk hord tyM (by rw [Y.msgType]; exact fits_refV_object _ ⟨msg, hmsg⟩)) Y.objLocals hskip htr [] hd6
    (by simp only [List.length_cons, hlen]; omega) (by simp only [List.length_cons, hlen]; exact hRlocals)
  obtain ⟨hwalk, hrun, hended, hWU, hsame⟩ := X2.athrowLeaves hexec (g := { g with stack := .ref a :: rest, pc := g.pc + 3 }) hg hlocked hentered hout (a := a) (rest := rest) rfl hd9
  have hlt : a < ((W.setVm v1).setVm v2).heap.size := (Array.getElem?_eq_some_iff.mp hcell).1
  have hU := heapAt_setCell_self (s := (W.setVm v1).setVm v2) (plainBareV T.toThrowableT (freshCell P1.m.cls kX) a u0 sn msg) hlt
  refine ⟨_, st1 _ (fun acts => ?_), hrun, hended, hWU, hsame.weaken (fun y hy hlt' => ?_) (Nat.le_refl _) (Nat.le_refl _), _, hU, hfound, rfl⟩
  · rw [doInvoke_state]
    exact st2 _ hwalk
  · rcases List.mem_append.mp hy with h1 | h1
    · exact h1
    · exfalso
      have hb : y.base = a := by
        simp only [List.mem_cons, List.not_mem_nil, or_false] at h1
        rcases h1 with rfl | rfl | rfl | rfl | rfl <;> rfl
      rw [hb] at hlt'
      exact Nat.not_lt.mpr hnew hlt'
end NSA
/-! 'throw new E(text)' with such a constructor -/
section NSB
variable {p : Program} {l : Launch} {e : Env} {R : Room} {s : State} {m : MethodId} {args : Array Value} {below : List Frame} {meth : Method} {c : Code} {H : Heap} {locs : List Loc} {cells slots : Nat} {free : Addr → Prop} {ls : Array Slot} {rest : List Value}
variable {Qc : Array Value → State → Outcome → State → Prop} {XC : String → State → State → Prop}
theorem vn_throw {cc : ByteArray} {pc : Nat} (hexec : p.tables.exec = Jvm.exec) (hb : c.code = cc) (hl : l.stackTraces = false) {own cls text Y0 : String} {names : List String} {ik is ic mc ms sa ix zz : Nat} {bt : ByteArray} {A : Nat → Prop}
    (hown : s.vm.findClass own = some m.cls) (hcls : Bundle.fit cls = true) (hY : Bundle.fit Y0 = true) (hnames : ∀ n ∈ names, Bundle.fit n = true)
    (b0 : decode bt 0 = .ok (.aload_n 0, 1)) (b1 : decode bt 1 = .ok (.aload_n 1, 1)) (b2 : decode bt 2 = .ok (.invokespecial ix, 3)) (b5 : decode bt 5 = .ok (.return_, 1))
    (hk : (Cond.classLink own ik cls).before args s = true) (hini : (Cond.initialized cls).before args s = true) (hstr : vk_R own is text sa s) (hat : ∀ w ∈ (vn_al own ic cls Y0 ix bt names).filter vx_no, w.before args s = true)
    (hgood : ∀ w ∈ Cond.classLink own ik cls :: Cond.initialized cls :: (vn_al own ic cls Y0 ix bt names).filter vx_no, vx_ot w = true)
    (hU : vx_Zq Bundle.tN "UNASSIGNED_STACK" Bundle.steD A s s.heap) (hN : vx_Zq Bundle.tN "SUPPRESSED_SENTINEL" Bundle.listD A s s.heap) (hS : va_S A s.heap H locs) (hsize : ls.size = c.maxLocals)
    (d0 : decode cc pc = .ok (.new ik, 3)) (d3 : decode cc (pc + 3) = .ok (.dup, 1)) (d4 : (decode cc (pc + 4) = .ok (.ldc is, 2) ∧ zz = 6) ∨ (decode cc (pc + 4) = .ok (.ldc_w is, 3) ∧ zz = 7)) (d6 : decode cc (pc + zz) = .ok (.invokespecial ic, 3)) (d9 : decode cc (pc + zz + 3) = .ok (.athrow, 1))
    (hout : ∀ x ∈ c.exceptionTable.toList, covers x (pc + zz + 3) = false)
    (hRframes : names.length + 4 < R.frames) (hRlocals : (rest.map fun v => v.category).sum + (13 * (names.length + 2) + 43) ≤ R.locals) (hRcells : cells + 1 ≤ R.cells) (hRslots : slots + 6 ≤ R.slots) (hlocks : meth.locks = false)
    (hx : ∀ t : State, s.vm.Alike t.vm → H.size ≤ t.heap.size → (∀ q : Nat, q < H.size → t.heap[q]? = H[q]?) → XC cls s t)
    (hf : ∀ z ∈ locs, free z.base) (hc : cells + 1 ≤ mc) (hs : slots + 6 ≤ ms) :
    W p l e R s m args below meth c H locs cells slots (vx_MQ below Qc XC args s mc ms free) (F0 m pc ls rest) := by
  intro T hT X
  have htr : e.platform.stackTraces = false := (show e.platform.stackTraces = l.stackTraces by rw [X.admits.platform]).trans hl
  have Y := vx_rebase X (R' := { frames := R.frames, locals := R.locals, cells := 1, slots := 6 }) (Nat.le_refl _) (Nat.le_refl _) hRcells hRslots
  obtain ⟨s', hA⟩ : ∃ z, z = (T.setVm s.vm).setFrames (.invoking m args :: below) := ⟨_, rfl⟩
  rw [← hA] at Y
  have hvm : s'.vm = s.vm := by rw [hA]; rfl
  have hhp : s'.heap = H := by rw [hA]; exact hT
  have hW0 : s.WarmedH s'.vm := by rw [hvm]; exact State.WarmedH.refl s
  have hat' : ∀ w ∈ (vn_al own ic cls Y0 ix bt names).filter vx_no, w.before args s' = true := fun w hw => vx_ot_at hW0 hvm.symm (hgood w (List.mem_cons_of_mem _ (List.mem_cons_of_mem _ hw))) (hat w hw)
  have hk' : (Cond.classLink own ik cls).before args s' = true := vx_ot_at hW0 hvm.symm (hgood _ List.mem_cons_self) hk
  have hini' : (Cond.initialized cls).before args s' = true := vx_ot_at hW0 hvm.symm (hgood _ (List.mem_cons_of_mem _ List.mem_cons_self)) hini
  have hU' : vx_Zq Bundle.tN "UNASSIGNED_STACK" Bundle.steD A s' s'.heap := by rw [hhp]; exact vx_Zq.moved hW0.alike (hU.kept hS.2.1)
  have hN' : vx_Zq Bundle.tN "SUPPRESSED_SENTINEL" Bundle.listD A s' s'.heap := by rw [hhp]; exact vx_Zq.moved hW0.alike (hN.kept hS.2.1)
  have h : ∀ w ∈ vn_al own ic cls Y0 ix bt names, w.before args s' = true := vx_own hat' (vx_isRefq hU'.1) (vx_isRefq hN'.1) hU'.2.word hN'.2.word
  have hown' : s'.vm.findClass own = some m.cls := by rw [hvm]; exact hown
  have hins : (Cond.instantiable cls 6).before args s' = true := h _ (by simp [vn_al])
  obtain ⟨vm₁, cX, kX, hfX, hkX, -, -, X₁, st1⟩ := Y.newCold hexec (own := own) (C := cls) (index := ik) (n := 6) hown' hk' hins hini'
    (g := F0 m pc ls rest) rfl (by rw [hb]; exact d0) (Nat.le_refl _) (Nat.le_refl _)
  generalize hT1 : (T.setVm vm₁).pushCell { cls := cX, slots := kX.instanceTypes.map defaultValue, vm := .none } = T1 at X₁ st1
  have hcat : (Value.ref T.heap.size).category = 1 := rfl
  have hcellA : T1.heap[T.heap.size]? = some (freshCell cX kX) := by rw [← hT1]; exact State.heap_pushCell_size _ _
  have d3' : decode c.code (pc + 3) = .ok (.dup, 1) := by rw [hb]; exact d3
  have hstr' : vk_R own is text sa s' := vk_R.warm hW0 hstr
  obtain ⟨U, hsteps, hrun, hend, hW, hsame, ce, hce, hOc, hOv⟩ := vn_ctor X₁ hexec htr (own := own) (cls := cls) (names := names) (ic := ic) hown' hcls hY hnames b0 b1 b2 b5 h (fun x hx => nomatch hx) hfX hkX hcellA (by rw [hhp, hT]; exact Nat.le_refl _) (msg := .ref sa) rfl
    (g := { method := m, pc := pc + zz, locals := ls, stack := .ref sa :: .ref T.heap.size :: .ref T.heap.size :: rest, locked := none }) rfl hsize rfl rfl (rest := rest) rfl
    (by rw [hb]; exact d6) (by rw [hb]; exact d9) hout hRframes (by simp only [List.map_cons, List.sum_cons, hcat]; omega) hlocks
  obtain ⟨f1, f2⟩ := vx_frame hsame
  rw [hhp] at f1 f2
  have hWs : s.WarmedH U.vm := State.WarmedH.trans hW0 hW
  have hcl : s.vm.findClass cls = some ce.cls := by
    have h9 := hOc
    rw [hvm] at h9
    exact h9
  have hall : s.sameButNew ({ U with vm := s.vm } : State) locs mc ms := by
    subst hA
    obtain ⟨e1, e2⟩ := hsame
    rw [State.setFrames_setFrames] at e1
    have h2 : (T.setVm s.vm).sameButNew ({ U with vm := s.vm } : State) [] (0 + 1) (0 + 6) := ⟨e1, e2⟩
    have h3 := X.same.trans h2
    rw [List.append_nil] at h3
    exact h3.mono hc hs
  refine ⟨U, ?_, .threw T.heap.size, hrun, hend, Or.inr ⟨T.heap.size, rfl, cls, ce, locs, hx U hWs.alike f1 (fun q hq => f2 q hq (fun z hz => nomatch hz)), hce, hOv, hcl, hWs, hall, hf⟩⟩
  refine st1 _ ?_
  show Steps p.tables e below (T1.setTop { method := m, pc := pc + 3, locals := ls, stack := .ref T.heap.size :: rest, locked := none }) _
  jvm_step X₁.here [X₁.here.top, hexec, d3', Value.category]
  rcases d4 with ⟨d4, hz⟩ | ⟨d4, hz⟩
  · subst hz
    have d4' : decode c.code (pc + 4) = .ok (.ldc is, 2) := by rw [hb]; exact d4
    exact X₁.ldcString hexec (own := own) (text := text) (index := is) (a := sa) hown' hstr'.1 hstr'.2
      (g := { method := m, pc := pc + 4, locals := ls, stack := .ref T.heap.size :: .ref T.heap.size :: rest, locked := none }) rfl d4' _ hsteps
  · subst hz
    have d4' : decode c.code (pc + 4) = .ok (.ldc_w is, 3) := by rw [hb]; exact d4
    exact X₁.ldcStringW hexec (own := own) (text := text) (index := is) (a := sa) hown' hstr'.1 hstr'.2
      (g := { method := m, pc := pc + 4, locals := ls, stack := .ref T.heap.size :: .ref T.heap.size :: rest, locked := none }) rfl d4' _ hsteps
end NSB
def aw_TN (own : String) (ik ist ic : Nat) (cls text Y0 : String) (ix : Nat) (bt : ByteArray) (names : List String) : Prop := (Bundle.fit cls = true ∧ Bundle.fit Y0 = true ∧ (∀ n ∈ names, Bundle.fit n = true) ∧ names.length ≤ 3) ∧ (decode bt 0 = .ok (.aload_n 0, 1) ∧ decode bt 1 = .ok (.aload_n 1, 1) ∧ decode bt 2 = .ok (.invokespecial ix, 3) ∧ decode bt 5 = .ok (.return_, 1)) ∧ Cond.classLink own ik cls ∈ aw_TB ∧ Cond.initialized cls ∈ aw_TB ∧ (own, ist, text) ∈ aw_SB ∧ (∀ w ∈ (vn_al own ic cls Y0 ix bt names).filter vx_no, w ∈ aw_TB ∨ w ∈ aw_NB) ∧ ∀ w ∈ Cond.classLink own ik cls :: Cond.initialized cls :: (vn_al own ic cls Y0 ix bt names).filter vx_no, vx_ot w = true
section NSC
variable {G : aw_G} {M : aw_M} {d : Nat} {Q : aw_O → aw_J → Prop} {pc : Nat} {L : List (Option Value)} {st : List Value} {J : aw_J} {kc ks : Nat}
theorem aw_throwN {ik ist ic ix zz : Nat} {cls text Y0 : String} {bt : ByteArray} {names : List String} (hS : aw_TN M.1.cls ik ist ic cls text Y0 ix bt names) (hX : M.2.2.2.2 = []) (d0 : decode M.2.1 pc = .ok (.new ik, 3)) (d3 : decode M.2.1 (pc + 3) = .ok (.dup, 1)) (d4 : (decode M.2.1 (pc + 4) = .ok (.ldc ist, 2) ∧ zz = 6) ∨ (decode M.2.1 (pc + 4) = .ok (.ldc_w ist, 3) ∧ zz = 7)) (d6 : decode M.2.1 (pc + zz) = .ok (.invokespecial ic, 3)) (d9 : decode M.2.1 (pc + zz + 3) = .ok (.athrow, 1))
    (hcat : (st.map fun v => v.category).sum ≤ 40) (hc : 1 ≤ kc) (hs : 6 ≤ ks) (hq : Q (.inr cls) J) : aw_W G M d Q pc L st J kc ks := by
  intro p e R s m args below meth c H ls locs cells slots mc ms A h
  obtain ⟨⟨g1, g2, g3, g4⟩, ⟨b0, b1, b2, b5⟩, h4, h5, h6, h7, h8⟩ := hS
  obtain ⟨sa, hsa⟩ := h.T.2.2.2.1 _ h6
  have k1 := h.2.1.2.2.1
  have k2 := h.2.1.2.2.2.1
  have k3 := h.2.1.2.2.2.2.1
  have k4 := h.2.1.2.2.2.2.2
  refine vn_throw h.x h.b h.off h.own g1 g2 g3 b0 b1 b2 b5 (h.ts _ h4) (h.ts _ h5) hsa (fun w hw => ?_) h8 h.Z.2.1 h.Z.2.2.1 h.S (h.sz.trans h.ml.symm) d0 d3 d4 d6 d9 (fun x hx => by rw [h.tab, hX] at hx; cases hx) (by have := h.2.1.1; unfold aw_fr at this; omega) (by have := h.2.1.2.1; unfold aw_lo at this; omega) (by omega) (by omega) h.lk (fun t hv hz hk => ?_) h.S.2.2 (by omega) (by omega)
  · rcases h7 w hw with hw2 | hw2
    · exact h.ts _ hw2
    · have hn := h.T.1 _ hw2
      have hk := aw_NB_nw _ hw2
      cases w <;> first | exact va_Nw.use rfl hn | (simp [aw_nw] at hk)
  · obtain ⟨ws, hP, hD, hJw⟩ := h.2.2.2.1
    exact ⟨J, hq, ⟨ws, hP.kept (fun k q hkq => hk q.1 ((hP k q hkq).lt)), hD, hJw⟩, Nat.le_trans h.S.1 hz, fun q z1 z2 => (hk q (Nat.lt_of_lt_of_le z1 h.S.1)).trans (h.S.2.1 q z1 z2)⟩
end NSC
set_option maxRecDepth 100000 in
theorem tw_NS : ∀ w ∈ (vn_al "ScopeTree" 250 "java/util/NoSuchElementException" "java/lang/RuntimeException" 13 prog_23_method_4_code ["java/lang/Exception"]).filter vx_no, w ∈ aw_TB ∨ w ∈ aw_NB := by decide +kernel
set_option maxRecDepth 100000 in
theorem tg_NS : ∀ w ∈ Cond.classLink "ScopeTree" 246 "java/util/NoSuchElementException" :: Cond.initialized "java/util/NoSuchElementException" :: (vn_al "ScopeTree" 250 "java/util/NoSuchElementException" "java/lang/RuntimeException" 13 prog_23_method_4_code ["java/lang/Exception"]).filter vx_no, vx_ot w = true := by decide +kernel
theorem t_277 : aw_TN "ScopeTree" 246 277 250 "java/util/NoSuchElementException" "no such class" "java/lang/RuntimeException" 13 prog_23_method_4_code ["java/lang/Exception"] := ⟨⟨by decide +kernel, by decide +kernel, by decide +kernel, by decide⟩, ⟨by decide +kernel, by decide +kernel, by decide +kernel, by decide +kernel⟩, by decide +kernel, by decide +kernel, by decide +kernel, tw_NS, tg_NS⟩
theorem t_319 : aw_TN "ScopeTree" 246 319 250 "java/util/NoSuchElementException" "no class of that name is found" "java/lang/RuntimeException" 13 prog_23_method_4_code ["java/lang/Exception"] := ⟨⟨by decide +kernel, by decide +kernel, by decide +kernel, by decide⟩, ⟨by decide +kernel, by decide +kernel, by decide +kernel, by decide +kernel⟩, by decide +kernel, by decide +kernel, by decide +kernel, tw_NS, tg_NS⟩
theorem t_248 : aw_TN "ScopeTree" 246 248 250 "java/util/NoSuchElementException" "no such question about a class" "java/lang/RuntimeException" 13 prog_23_method_4_code ["java/lang/Exception"] := ⟨⟨by decide +kernel, by decide +kernel, by decide +kernel, by decide⟩, ⟨by decide +kernel, by decide +kernel, by decide +kernel, by decide +kernel⟩, by decide +kernel, by decide +kernel, by decide +kernel, tw_NS, tg_NS⟩

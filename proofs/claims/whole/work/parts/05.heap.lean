/-! AW: the heap, and calls -/
section AWI
variable {G : aw_G} {M : aw_M} {d : Nat} {L : List (Option Value)} {J : aw_J} {kc ks : Nat} {p : Program} {R : Room} {s : State} {m : MethodId} {args : Array Value} {meth : Method} {c : Code} {H : Heap} {ls : Array Slot} {locs : List Loc} {cells slots mc ms : Nat} {A : Nat → Prop}
theorem aw_I.x (h : aw_I G M d L J kc ks p R s m args meth c H ls locs cells slots mc ms A) : p.tables.exec = Jvm.exec := h.1.1
theorem aw_I.b (h : aw_I G M d L J kc ks p R s m args meth c H ls locs cells slots mc ms A) : c.code = M.2.1 := h.1.2.1
theorem aw_I.ml (h : aw_I G M d L J kc ks p R s m args meth c H ls locs cells slots mc ms A) : c.maxLocals = M.2.2.1 := h.1.2.2.1
theorem aw_I.lk (h : aw_I G M d L J kc ks p R s m args meth c H ls locs cells slots mc ms A) : meth.locks = false := h.1.2.2.2.2.1
theorem aw_I.own (h : aw_I G M d L J kc ks p R s m args meth c H ls locs cells slots mc ms A) : s.vm.findClass M.1.cls = some m.cls := h.1.2.2.2.2.2.1
theorem aw_I.nm (h : aw_I G M d L J kc ks p R s m args meth c H ls locs cells slots mc ms A) : meth.name = M.1.name := h.1.2.2.2.2.2.2.1
theorem aw_I.tab (h : aw_I G M d L J kc ks p R s m args meth c H ls locs cells slots mc ms A) : c.exceptionTable.toList = tableOf M.2.2.2.2 := h.1.2.2.2.2.2.2.2.1
theorem aw_I.ts (h : aw_I G M d L J kc ks p R s m args meth c H ls locs cells slots mc ms A) : ∀ w ∈ aw_TB, w.before args s = true := h.1.2.2.2.2.2.2.2.2.1
theorem aw_I.T (h : aw_I G M d L J kc ks p R s m args meth c H ls locs cells slots mc ms A) : aw_T G s := h.1.2.2.2.2.2.2.2.2.2.1
theorem aw_I.K (h : aw_I G M d L J kc ks p R s m args meth c H ls locs cells slots mc ms A) : va_K G.2.1 aw_cl (aw_tys G) s := h.T.2.1
theorem aw_I.Z (h : aw_I G M d L J kc ks p R s m args meth c H ls locs cells slots mc ms A) : aw_Z G A s s.heap := h.1.2.2.2.2.2.2.2.2.2.2.1
theorem aw_I.fr (h : aw_I G M d L J kc ks p R s m args meth c H ls locs cells slots mc ms A) : ∀ q : Nat, s.heap.size ≤ q → A q := h.1.2.2.2.2.2.2.2.2.2.2.2.1
theorem aw_I.off (h : aw_I G M d L J kc ks p R s m args meth c H ls locs cells slots mc ms A) : G.1.stackTraces = false := h.1.2.2.2.2.2.2.2.2.2.2.2.2
theorem aw_I.S (h : aw_I G M d L J kc ks p R s m args meth c H ls locs cells slots mc ms A) : va_S A s.heap H locs := h.2.2.2.2
theorem aw_I.sz (h : aw_I G M d L J kc ks p R s m args meth c H ls locs cells slots mc ms A) : ls.size = M.2.2.1 := h.2.2.1.1
end AWI
/-- a field of a known class, as an instruction of the class own names it -/
def aw_F (own : String) (idx ci k : Nat) : Prop := ∃ (C : String) (T : u_T) (N : Nat), aw_cl[ci]? = some (C, T, N) ∧ k < N ∧ (∀ w ∈ u_ws C T N, w ∈ aw_TB) ∧ (Cond.fieldLink own idx (T k).1 (T k).2.1 (T k).2.2.1 ∈ aw_TB ∨ ∃ host : String, Cond.fieldLinkNest own idx (T k).1 (T k).2.1 (T k).2.2.1 host ∈ aw_NB)
/-- .. and how it is written -/
def aw_S (own : String) (idx ci k : Nat) (ty : FieldType) (fin : Bool) : Prop := ∃ (C : String) (T : u_T) (N : Nat) (ty0 : Nat → FieldType), aw_cl[ci]? = some (C, T, N) ∧ k < N ∧ (∀ w ∈ u_ws C T N, w ∈ aw_TB) ∧ (∀ j, j < N → parseFieldDescriptor (T j).2.2.1 = some (ty0 j)) ∧ (∀ a, a < N → ∀ b, b < N → a ≠ b → (T a).2.1 ≠ (T b).2.1) ∧ (T k).2.2.2 = fin ∧ parseFieldDescriptor (T k).2.2.1 = some ty ∧ (Cond.fieldLink own idx (T k).1 (T k).2.1 (T k).2.2.1 ∈ aw_TB ∨ (fin = false ∧ ∃ host : String, Cond.fieldLinkNest own idx (T k).1 (T k).2.1 (T k).2.2.1 host ∈ aw_NB)) ∧ (fin = true → (T k).1 = own)
/-- a class that can be made: its new object's fields -/
def aw_N (own : String) (idx ci N : Nat) (fs : List Value) : Prop := ∃ (C : String) (T : u_T) (ty : Nat → FieldType), aw_cl[ci]? = some (C, T, N) ∧ (∀ w ∈ u_ws C T N, w ∈ aw_TB) ∧ (∀ j, j < N → parseFieldDescriptor (T j).2.2.1 = some (ty j)) ∧ Cond.classLink own idx C ∈ aw_TB ∧ Cond.instantiable C N ∈ aw_TB ∧ Cond.initialized C ∈ aw_TB ∧ ∀ j, j < N → defaultValue (ty j) = vp_V fs j
section AWH
variable {G : aw_G} {M : aw_M} {d : Nat} {Q : aw_O → aw_J → Prop} {pc : Nat} {L : List (Option Value)} {st : List Value} {J : aw_J} {kc ks : Nat}
theorem aw_get {idx ci j a : Nat} {fs : List Value} {v : Value} (hd : decode M.2.1 pc = .ok (.getfield idx, 3)) (hF : aw_F M.1.cls idx ci j) (hJ : J a = some (.inr (ci, fs))) (hv : fs[j]? = some v) (k : aw_W G M d Q (pc + 3) L (v :: st) J kc ks) : aw_W G M d Q pc L (.ref a :: st) J kc ks := by
  intro p e R s m args below meth c H ls locs cells slots mc ms A h
  obtain ⟨ws, hP, hD, hJw⟩ := h.2.2.2.1
  obtain ⟨q0, he⟩ := hJw _ _ hJ
  obtain ⟨C, T, N, hc, hk, hin, hl⟩ := hF
  rcases hl with hl | ⟨host, hl⟩
  · exact va_get h.x h.b h.ts hin h.own h.K hP q0 he hc j hk (h.ts _ hl) (fun _ z => z) hv hd (k p e R s m args below meth c H ls locs cells slots mc ms A h)
  · exact va_getN h.x h.b h.ts hin h.own h.K hP q0 he hc j hk (va_Nw.use rfl (h.T.1 _ hl)) (fun _ z => z) hv hd (k p e R s m args below meth c H ls locs cells slots mc ms A h)
theorem aw_put {idx ci j a : Nat} {fs : List Value} {v : Value} {ty : FieldType} (hd : decode M.2.1 pc = .ok (.putfield idx, 3)) (hF : aw_S M.1.cls idx ci j ty false) (hJ : J a = some (.inr (ci, fs))) (hn : narrow ty v = v) (hf : fits ty v = true) (hj : j < fs.length) (k : aw_W G M d Q (pc + 3) L st (aw_up J a (.inr (ci, fs.set j v))) kc ks) : aw_W G M d Q pc L (v :: .ref a :: st) J kc ks := by
  intro p e R s m args below meth c H ls locs cells slots mc ms A h
  obtain ⟨ws, hP, hD, hJw⟩ := h.2.2.2.1
  obtain ⟨q0, he⟩ := hJw _ _ hJ
  obtain ⟨C, T, N, ty0, hc, hk, hin, hty, hnm, hfin, hty1, hl, -⟩ := hF
  rcases hl with hl | ⟨-, host, hl⟩
  · exact va_put h.x h.b h.ts hin ty0 hty hnm h.own h.K hP hD h.S q0 he hc j hk (h.ts _ hl) (fun _ z => z) hfin hty1 hn hf hj hd (fun H1 locs1 hP1 hD1 hS1 => (k p e R s m args below meth c H1 ls locs1 cells slots mc ms A ⟨h.1, h.2.1, h.2.2.1, ⟨_, hP1, hD1, aw_R.put hJw he⟩, hS1⟩))
  · exact va_putN h.x h.b h.ts hin ty0 hty hnm h.own h.K hP hD h.S q0 he hc j hk (va_Nw.use rfl (h.T.1 _ hl)) (fun _ z => z) hfin hty1 hn hf hj hd (fun H1 locs1 hP1 hD1 hS1 => (k p e R s m args below meth c H1 ls locs1 cells slots mc ms A ⟨h.1, h.2.1, h.2.2.1, ⟨_, hP1, hD1, aw_R.put hJw he⟩, hS1⟩))
theorem aw_putF {idx ci j a : Nat} {fs : List Value} {v : Value} {ty : FieldType} (hd : decode M.2.1 pc = .ok (.putfield idx, 3)) (hF : aw_S M.1.cls idx ci j ty true) (hi : M.1.name = "<init>") (hJ : J a = some (.inr (ci, fs))) (hn : narrow ty v = v) (hf : fits ty v = true) (hj : j < fs.length) (k : aw_W G M d Q (pc + 3) L st (aw_up J a (.inr (ci, fs.set j v))) kc ks) : aw_W G M d Q pc L (v :: .ref a :: st) J kc ks := by
  intro p e R s m args below meth c H ls locs cells slots mc ms A h
  obtain ⟨ws, hP, hD, hJw⟩ := h.2.2.2.1
  obtain ⟨q0, he⟩ := hJw _ _ hJ
  obtain ⟨C, T, N, ty0, hc, hk, hin, hty, hnm, hfin, hty1, hl, hdecl⟩ := hF
  rcases hl with hl | ⟨hl, -⟩
  · exact va_putF h.x h.b h.ts hin ty0 hty hnm h.own h.K hP hD h.S q0 he hc j hk (h.ts _ hl) (fun _ z => z) hfin (h.nm.trans hi) (hdecl rfl) hty1 hn hf hj hd (fun H1 locs1 hP1 hD1 hS1 => (k p e R s m args below meth c H1 ls locs1 cells slots mc ms A ⟨h.1, h.2.1, h.2.2.1, ⟨_, hP1, hD1, aw_R.put hJw he⟩, hS1⟩))
  · cases hl
theorem aw_new {idx ci N kc' ks' : Nat} {fs : List Value} (hd : decode M.2.1 pc = .ok (.new idx, 3)) (hF : aw_N M.1.cls idx ci N fs) (hc0 : 1 + kc' ≤ kc) (hs0 : N + ks' ≤ ks) (k : ∀ q : Nat, J q = none → aw_W G M d Q (pc + 3) L (.ref q :: st) (aw_up J q (.inr (ci, fs))) kc' ks') : aw_W G M d Q pc L st J kc ks := by
  intro p e R s m args below meth c H ls locs cells slots mc ms A h
  obtain ⟨ws, hP, hD, hJw⟩ := h.2.2.2.1
  obtain ⟨C, T, ty, hc, hin, hty, hcl, hinst, hini, hfs⟩ := hF
  have h1 := h.2.1.2.2.1
  have h2 := h.2.1.2.2.2.1
  have h3 := h.2.1.2.2.2.2.1
  have h4 := h.2.1.2.2.2.2.2
  refine va_new h.x h.b h.ts hin ty hty h.own (h.ts _ hcl) (h.ts _ hinst) (h.ts _ hini) h.K hP hD h.S h.fr hc hfs (by omega) (by omega) hd (fun q H1 hP1 hD1 hS1 => ?_)
  exact k q (aw_R.fresh hJw hD1) p e R s m args below meth c H1 ls locs (cells + 1) (slots + N) mc ms A ⟨h.1, ⟨h.2.1.1, h.2.1.2.1, by omega, h2, by omega, h4⟩, h.2.2.1, ⟨_, hP1, hD1, aw_R.push hJw⟩, hS1⟩
theorem aw_iald {a n : Nat} {f : Nat → Int32} {i : Int32} (hd : decode M.2.1 pc = .ok (.iaload, 1)) (hJ : J a = some (.inl (G.2.2.1 0, n, .inl f))) (hi : vp_in i n) (k : aw_W G M d Q (pc + 1) L (.int (f i.toNatClampNeg) :: st) J kc ks) : aw_W G M d Q pc L (.int i :: .ref a :: st) J kc ks := by
  intro p e R s m args below meth c H ls locs cells slots mc ms A h
  obtain ⟨ws, hP, hD, hJw⟩ := h.2.2.2.1
  obtain ⟨q0, he⟩ := hJw _ _ hJ
  exact va_iald h.x h.b h.K hP q0 0 he rfl hi hd (k p e R s m args below meth c H ls locs cells slots mc ms A h)
theorem aw_zald {a n : Nat} {f : Nat → Int32} {i : Int32} (hd : decode M.2.1 pc = .ok (.baload, 1)) (hJ : J a = some (.inl (G.2.2.1 1, n, .inl f))) (hi : vp_in i n) (k : aw_W G M d Q (pc + 1) L (.int (f i.toNatClampNeg) :: st) J kc ks) : aw_W G M d Q pc L (.int i :: .ref a :: st) J kc ks := by
  intro p e R s m args below meth c H ls locs cells slots mc ms A h
  obtain ⟨ws, hP, hD, hJw⟩ := h.2.2.2.1
  obtain ⟨q0, he⟩ := hJw _ _ hJ
  exact va_zald h.x h.b h.K hP q0 1 he rfl hi hd (k p e R s m args below meth c H ls locs cells slots mc ms A h)
theorem aw_lald {a n : Nat} {f : Nat → Int64} {i : Int32} (hd : decode M.2.1 pc = .ok (.laload, 1)) (hJ : J a = some (.inl (G.2.2.1 2, n, .inr (.inl f)))) (hi : vp_in i n) (k : aw_W G M d Q (pc + 1) L (.long (f i.toNatClampNeg) :: st) J kc ks) : aw_W G M d Q pc L (.int i :: .ref a :: st) J kc ks := by
  intro p e R s m args below meth c H ls locs cells slots mc ms A h
  obtain ⟨ws, hP, hD, hJw⟩ := h.2.2.2.1
  obtain ⟨q0, he⟩ := hJw _ _ hJ
  exact va_lald h.x h.b h.K hP q0 2 he rfl hi hd (k p e R s m args below meth c H ls locs cells slots mc ms A h)
theorem aw_iast {a n : Nat} {f : Nat → Int32} {i : Int32} {x : Int32} (hd : decode M.2.1 pc = .ok (.iastore, 1)) (hJ : J a = some (.inl (G.2.2.1 0, n, .inl f))) (hi : vp_in i n) (k : aw_W G M d Q (pc + 1) L st (aw_up J a (.inl (G.2.2.1 0, n, .inl (upd f i.toNatClampNeg x)))) kc ks) : aw_W G M d Q pc L (.int x :: .int i :: .ref a :: st) J kc ks := by
  intro p e R s m args below meth c H ls locs cells slots mc ms A h
  obtain ⟨ws, hP, hD, hJw⟩ := h.2.2.2.1
  obtain ⟨q0, he⟩ := hJw _ _ hJ
  exact va_iast h.x h.b h.K hP hD h.S q0 0 he rfl hi hd (fun H1 locs1 hP1 hD1 hS1 => (k p e R s m args below meth c H1 ls locs1 cells slots mc ms A ⟨h.1, h.2.1, h.2.2.1, ⟨_, hP1, hD1, aw_R.put hJw he⟩, hS1⟩))
theorem aw_zast {a n : Nat} {f : Nat → Int32} {i : Int32} {x : Int32} (hd : decode M.2.1 pc = .ok (.bastore, 1)) (hJ : J a = some (.inl (G.2.2.1 1, n, .inl f))) (hi : vp_in i n) (k : aw_W G M d Q (pc + 1) L st (aw_up J a (.inl (G.2.2.1 1, n, .inl (upd f i.toNatClampNeg (vp_nar .boolean x))))) kc ks) : aw_W G M d Q pc L (.int x :: .int i :: .ref a :: st) J kc ks := by
  intro p e R s m args below meth c H ls locs cells slots mc ms A h
  obtain ⟨ws, hP, hD, hJw⟩ := h.2.2.2.1
  obtain ⟨q0, he⟩ := hJw _ _ hJ
  exact va_zast h.x h.b h.K hP hD h.S q0 1 he rfl hi hd (fun H1 locs1 hP1 hD1 hS1 => (k p e R s m args below meth c H1 ls locs1 cells slots mc ms A ⟨h.1, h.2.1, h.2.2.1, ⟨_, hP1, hD1, aw_R.put hJw he⟩, hS1⟩))
theorem aw_last {a n : Nat} {f : Nat → Int64} {i : Int32} {x : Int64} (hd : decode M.2.1 pc = .ok (.lastore, 1)) (hJ : J a = some (.inl (G.2.2.1 2, n, .inr (.inl f)))) (hi : vp_in i n) (k : aw_W G M d Q (pc + 1) L st (aw_up J a (.inl (G.2.2.1 2, n, .inr (.inl (vp_updL f i.toNatClampNeg x))))) kc ks) : aw_W G M d Q pc L (.long x :: .int i :: .ref a :: st) J kc ks := by
  intro p e R s m args below meth c H ls locs cells slots mc ms A h
  obtain ⟨ws, hP, hD, hJw⟩ := h.2.2.2.1
  obtain ⟨q0, he⟩ := hJw _ _ hJ
  exact va_last h.x h.b h.K hP hD h.S q0 2 he rfl hi hd (fun H1 locs1 hP1 hD1 hS1 => (k p e R s m args below meth c H1 ls locs1 cells slots mc ms A ⟨h.1, h.2.1, h.2.2.1, ⟨_, hP1, hD1, aw_R.put hJw he⟩, hS1⟩))
theorem aw_aald {a n t : Nat} {C : String} {f : Nat → Option Nat} {i : Int32} (hd : decode M.2.1 pc = .ok (.aaload, 1)) (ht : (aw_tys G)[t]? = some (G.2.2.1 t, .object C)) (hJ : J a = some (.inl (G.2.2.1 t, n, .inr (.inr (.inr (.inr f)))))) (hi : vp_in i n) (k : aw_W G M d Q (pc + 1) L (va_rf (f i.toNatClampNeg) :: st) J kc ks) : aw_W G M d Q pc L (.int i :: .ref a :: st) J kc ks := by
  intro p e R s m args below meth c H ls locs cells slots mc ms A h
  obtain ⟨ws, hP, hD, hJw⟩ := h.2.2.2.1
  obtain ⟨q0, he⟩ := hJw _ _ hJ
  exact va_aldq h.x h.b h.K hP q0 t he ht hi hd (k p e R s m args below meth c H ls locs cells slots mc ms A h)
theorem aw_aast {a n t v ci : Nat} {r : vw_C} {vs : List Value} {f : Nat → Option Nat} {i : Int32} (hd : decode M.2.1 pc = .ok (.aastore, 1)) (ht : (aw_tys G)[t]? = some (G.2.2.1 t, .object r.1)) (hr : aw_cl[ci]? = some r) (hJ : J a = some (.inl (G.2.2.1 t, n, .inr (.inr (.inr (.inr f)))))) (hv : J v = some (.inr (ci, vs))) (hi : vp_in i n) (k : aw_W G M d Q (pc + 1) L st (aw_up J a (.inl (G.2.2.1 t, n, .inr (.inr (.inr (.inr (va_up f i.toNatClampNeg (some v)))))))) kc ks) : aw_W G M d Q pc L (.ref v :: .int i :: .ref a :: st) J kc ks := by
  intro p e R s m args below meth c H ls locs cells slots mc ms A h
  obtain ⟨ws, hP, hD, hJw⟩ := h.2.2.2.1
  obtain ⟨q0, he⟩ := hJw _ _ hJ
  obtain ⟨qk, hek⟩ := hJw _ _ hv
  exact va_astq h.x h.b h.K hP hD h.S q0 t qk ci he ht hek hr hi hd (fun H1 locs1 hP1 hD1 hS1 => (k p e R s m args below meth c H1 ls locs1 cells slots mc ms A ⟨h.1, h.2.1, h.2.2.1, ⟨_, hP1, hD1, aw_R.put hJw he⟩, hS1⟩))
theorem aw_aastN {a n t : Nat} {C : String} {f : Nat → Option Nat} {i : Int32} (hd : decode M.2.1 pc = .ok (.aastore, 1)) (ht : (aw_tys G)[t]? = some (G.2.2.1 t, .object C)) (hJ : J a = some (.inl (G.2.2.1 t, n, .inr (.inr (.inr (.inr f)))))) (hi : vp_in i n) (k : aw_W G M d Q (pc + 1) L st (aw_up J a (.inl (G.2.2.1 t, n, .inr (.inr (.inr (.inr (va_up f i.toNatClampNeg none))))))) kc ks) : aw_W G M d Q pc L (.null :: .int i :: .ref a :: st) J kc ks := by
  intro p e R s m args below meth c H ls locs cells slots mc ms A h
  obtain ⟨ws, hP, hD, hJw⟩ := h.2.2.2.1
  obtain ⟨q0, he⟩ := hJw _ _ hJ
  exact va_astqN h.x h.b h.K hP hD h.S q0 t he ht hi hd (fun H1 locs1 hP1 hD1 hS1 => (k p e R s m args below meth c H1 ls locs1 cells slots mc ms A ⟨h.1, h.2.1, h.2.2.1, ⟨_, hP1, hD1, aw_R.put hJw he⟩, hS1⟩))
theorem aw_alen {a t : Nat} {x : vp_A} {ty : FieldType} (hd : decode M.2.1 pc = .ok (.arraylength, 1)) (ht : (aw_tys G)[t]? = some (G.2.2.1 t, ty)) (hJ : J a = some (.inl (G.2.2.1 t, x))) (k : aw_W G M d Q (pc + 1) L (.int (Int32.ofNat x.1) :: st) J kc ks) : aw_W G M d Q pc L (.ref a :: st) J kc ks := by
  intro p e R s m args below meth c H ls locs cells slots mc ms A h
  obtain ⟨ws, hP, hD, hJw⟩ := h.2.2.2.1
  obtain ⟨q0, he⟩ := hJw _ _ hJ
  exact va_alen h.x h.b h.K hP q0 t he ht rfl hd (k p e R s m args below meth c H ls locs cells slots mc ms A h)
theorem aw_newI {n : Int32} {N kc' ks' : Nat} (hd : decode M.2.1 pc = .ok (.newarray .int, 2)) (hw : Cond.arrayClass .int ∈ aw_TB) (hn : ¬ n < 0) (hN : n.toNatClampNeg = N) (hb0 : N ≤ 60000) (hc0 : 1 + kc' ≤ kc) (hs0 : N + ks' ≤ ks) (k : ∀ q : Nat, J q = none → aw_W G M d Q (pc + 2) L (.ref q :: st) (aw_up J q (.inl (G.2.2.1 0, N, .inl (fun _ => 0)))) kc' ks') : aw_W G M d Q pc L (.int n :: st) J kc ks := by
  intro p e R s m args below meth c H ls locs cells slots mc ms A h
  obtain ⟨ws, hP, hD, hJw⟩ := h.2.2.2.1
  have h1 := h.2.1.2.2.1
  have h2 := h.2.1.2.2.2.1
  have h3 := h.2.1.2.2.2.2.1
  have h4 := h.2.1.2.2.2.2.2
  refine va_newa (atype := .int) (ty := .int) h.x h.b (h.ts _ hw) rfl h.K hP hD h.S h.fr (a0 := (N, .inl (fun _ => 0))) (fun _ => rfl) hn hN (by show N * 4 ≤ _; omega) (by omega) (by omega) hd (fun q cA H1 hK1 hP1 hD1 hS1 => ?_)
  have e1 : s.vm.findClass ("[" ++ FieldType.toString .int) = some cA := (hK1.2 (aw_tys G).length (cA, .int) (by simp)).2
  have e2 : s.vm.findClass ("[" ++ FieldType.toString .int) = some (G.2.2.1 0) := (h.K.2 0 _ rfl).2
  cases Option.some.inj (e1.symm.trans e2)
  exact k q (aw_R.fresh hJw hD1) p e R s m args below meth c H1 ls locs (cells + 1) (slots + N) mc ms A ⟨h.1, ⟨h.2.1.1, h.2.1.2.1, by omega, h2, by omega, h4⟩, h.2.2.1, ⟨_, hP1, hD1, aw_R.push hJw⟩, hS1⟩
theorem aw_newZ {n : Int32} {N kc' ks' : Nat} (hd : decode M.2.1 pc = .ok (.newarray .boolean, 2)) (hw : Cond.arrayClass .boolean ∈ aw_TB) (hn : ¬ n < 0) (hN : n.toNatClampNeg = N) (hb0 : N ≤ 60000) (hc0 : 1 + kc' ≤ kc) (hs0 : N + ks' ≤ ks) (k : ∀ q : Nat, J q = none → aw_W G M d Q (pc + 2) L (.ref q :: st) (aw_up J q (.inl (G.2.2.1 1, N, .inl (fun _ => 0)))) kc' ks') : aw_W G M d Q pc L (.int n :: st) J kc ks := by
  intro p e R s m args below meth c H ls locs cells slots mc ms A h
  obtain ⟨ws, hP, hD, hJw⟩ := h.2.2.2.1
  have h1 := h.2.1.2.2.1
  have h2 := h.2.1.2.2.2.1
  have h3 := h.2.1.2.2.2.2.1
  have h4 := h.2.1.2.2.2.2.2
  refine va_newa (atype := .boolean) (ty := .boolean) h.x h.b (h.ts _ hw) rfl h.K hP hD h.S h.fr (a0 := (N, .inl (fun _ => 0))) (fun _ => rfl) hn hN (by show N * 1 ≤ _; omega) (by omega) (by omega) hd (fun q cA H1 hK1 hP1 hD1 hS1 => ?_)
  have e1 : s.vm.findClass ("[" ++ FieldType.toString .boolean) = some cA := (hK1.2 (aw_tys G).length (cA, .boolean) (by simp)).2
  have e2 : s.vm.findClass ("[" ++ FieldType.toString .boolean) = some (G.2.2.1 1) := (h.K.2 1 _ rfl).2
  cases Option.some.inj (e1.symm.trans e2)
  exact k q (aw_R.fresh hJw hD1) p e R s m args below meth c H1 ls locs (cells + 1) (slots + N) mc ms A ⟨h.1, ⟨h.2.1.1, h.2.1.2.1, by omega, h2, by omega, h4⟩, h.2.2.1, ⟨_, hP1, hD1, aw_R.push hJw⟩, hS1⟩
theorem aw_newJ {n : Int32} {N kc' ks' : Nat} (hd : decode M.2.1 pc = .ok (.newarray .long, 2)) (hw : Cond.arrayClass .long ∈ aw_TB) (hn : ¬ n < 0) (hN : n.toNatClampNeg = N) (hb0 : N ≤ 60000) (hc0 : 1 + kc' ≤ kc) (hs0 : N + ks' ≤ ks) (k : ∀ q : Nat, J q = none → aw_W G M d Q (pc + 2) L (.ref q :: st) (aw_up J q (.inl (G.2.2.1 2, N, .inr (.inl (fun _ => 0))))) kc' ks') : aw_W G M d Q pc L (.int n :: st) J kc ks := by
  intro p e R s m args below meth c H ls locs cells slots mc ms A h
  obtain ⟨ws, hP, hD, hJw⟩ := h.2.2.2.1
  have h1 := h.2.1.2.2.1
  have h2 := h.2.1.2.2.2.1
  have h3 := h.2.1.2.2.2.2.1
  have h4 := h.2.1.2.2.2.2.2
  refine va_newa (atype := .long) (ty := .long) h.x h.b (h.ts _ hw) rfl h.K hP hD h.S h.fr (a0 := (N, .inr (.inl (fun _ => 0)))) (fun _ => rfl) hn hN (by show N * 8 ≤ _; omega) (by omega) (by omega) hd (fun q cA H1 hK1 hP1 hD1 hS1 => ?_)
  have e1 : s.vm.findClass ("[" ++ FieldType.toString .long) = some cA := (hK1.2 (aw_tys G).length (cA, .long) (by simp)).2
  have e2 : s.vm.findClass ("[" ++ FieldType.toString .long) = some (G.2.2.1 2) := (h.K.2 2 _ rfl).2
  cases Option.some.inj (e1.symm.trans e2)
  exact k q (aw_R.fresh hJw hD1) p e R s m args below meth c H1 ls locs (cells + 1) (slots + N) mc ms A ⟨h.1, ⟨h.2.1.1, h.2.1.2.1, by omega, h2, by omega, h4⟩, h.2.2.1, ⟨_, hP1, hD1, aw_R.push hJw⟩, hS1⟩
theorem aw_newQ {idx t : Nat} {C : String} {n : Int32} {N kc' ks' : Nat} (hd : decode M.2.1 pc = .ok (.anewarray idx, 3)) (ht : (aw_tys G)[t]? = some (G.2.2.1 t, .object C)) (hw : Cond.classLink M.1.cls idx C ∈ aw_TB) (hC : C ∈ aw_AO) (hn : ¬ n < 0) (hN : n.toNatClampNeg = N) (hb0 : N ≤ 60000) (hc0 : 1 + kc' ≤ kc) (hs0 : N + ks' ≤ ks) (k : ∀ q : Nat, J q = none → aw_W G M d Q (pc + 3) L (.ref q :: st) (aw_up J q (.inl (G.2.2.1 t, N, .inr (.inr (.inr (.inr (fun _ => none))))))) kc' ks') : aw_W G M d Q pc L (.int n :: st) J kc ks := by
  intro p e R s m args below meth c H ls locs cells slots mc ms A h
  obtain ⟨ws, hP, hD, hJw⟩ := h.2.2.2.1
  have h1 := h.2.1.2.2.1
  have h2 := h.2.1.2.2.2.1
  have h3 := h.2.1.2.2.2.2.1
  have h4 := h.2.1.2.2.2.2.2
  refine va_newq h.x h.b h.own (h.ts _ hw) (h.T.2.2.1 _ hC) h.K hP hD h.S h.fr hn hN (by omega) (by omega) (by omega) hd (fun q cA H1 hK1 hP1 hD1 hS1 => ?_)
  obtain ⟨kA, comp, -, -, -, e1⟩ := (hK1.2 (aw_tys G).length (cA, .object C) (by simp)).2
  obtain ⟨kA2, comp2, -, -, -, e2⟩ := (h.K.2 t _ ht).2
  cases Option.some.inj (e1.symm.trans e2)
  exact k q (aw_R.fresh hJw hD1) p e R s m args below meth c H1 ls locs (cells + 1) (slots + N) mc ms A ⟨h.1, ⟨h.2.1.1, h.2.1.2.1, by omega, h2, by omega, h4⟩, h.2.2.1, ⟨_, hP1, hD1, aw_R.push hJw⟩, hS1⟩
theorem aw_gets {idx i : Nat} (hd : decode M.2.1 pc = .ok (.getstatic idx, 3)) (hi : i < 3) (hw : Cond.fieldLink M.1.cls idx aw_En (aw_en.getD i "") "LScopeTree$State;" ∈ aw_TB) (k : aw_W G M d Q (pc + 3) L (.ref (G.2.2.2.1 i) :: st) J kc ks) : aw_W G M d Q pc L st J kc ks := fun p e R s m args below meth c H ls locs cells slots mc ms A h => va_gets h.x h.b (h.Z.1.1 i hi).1 h.S h.own (h.ts _ hw) (fun _ z => z) hd (k p e R s m args below meth c H ls locs cells slots mc ms A h)
theorem aw_sld {i : Int32} (hd : decode M.2.1 pc = .ok (.iaload, 1)) (hi : vp_in i G.2.2.2.2.2.1) (k : aw_W G M d Q (pc + 1) L (.int (G.2.2.2.2.2.2 i.toNatClampNeg) :: st) J kc ks) : aw_W G M d Q pc L (.int i :: .ref G.2.2.2.2.1 :: st) J kc ks := fun p e R s m args below meth c H ls locs cells slots mc ms A h => va_sld h.x h.b h.Z.2.2.2.1 h.Z.2.2.2.2.1 h.Z.2.2.2.2.2 h.S hi hd (k p e R s m args below meth c H ls locs cells slots mc ms A h)
theorem aw_slen (hd : decode M.2.1 pc = .ok (.arraylength, 1)) (k : aw_W G M d Q (pc + 1) L (.int (Int32.ofNat G.2.2.2.2.2.1) :: st) J kc ks) : aw_W G M d Q pc L (.ref G.2.2.2.2.1 :: st) J kc ks := fun p e R s m args below meth c H ls locs cells slots mc ms A h => va_slen h.x h.b h.Z.2.2.2.1 h.Z.2.2.2.2.1 h.Z.2.2.2.2.2 h.S hd (k p e R s m args below meth c H ls locs cells slots mc ms A h)
theorem aw_oinit {idx a : Nat} (hd : decode M.2.1 pc = .ok (.invokespecial idx, 3)) (hw : Cond.methodLink M.1.cls idx objectInit ∈ aw_TB) (hw1 : Cond.instanceMethod objectInit ∈ aw_TB) (hw2 : Cond.code objectInit ⟨#[0xb1]⟩ 1 none ∈ aw_TB) (hst : (st.map fun v => v.category).sum ≤ 100) (k : aw_W G M d Q (pc + 3) L st J kc ks) : aw_W G M d Q pc L (.ref a :: st) J kc ks := fun p e R s m args below meth c H ls locs cells slots mc ms A h => W.objInit h.x h.b h.own (h.ts _ hw) (h.ts _ hw1) (h.ts _ hw2) rfl (by rw [h.ml]; exact h.sz) rfl hd (by have := h.2.1.1; unfold aw_fr at this; omega) (by have := h.2.1.2.1; unfold aw_lo at this; show 2 * 0 + _ + 12 ≤ _; omega) (k p e R s m args below meth c H ls locs cells slots mc ms A h)
theorem aw_max {idx : Nat} {x y : Int32} (hd : decode M.2.1 pc = .ok (.invokestatic idx, 3)) (hw : Cond.methodLink M.1.cls idx Lib.Math.max.name ∈ aw_TB) (hw1 : Cond.static Lib.Math.max.name ∈ aw_TB) (hw2 : Cond.initialized "java/lang/Math" ∈ aw_TB) (hw3 : Cond.code Lib.Math.max.name Lib.Math.max.code 2 (some .int) ∈ aw_TB) (hst : (st.map fun v => v.category).sum ≤ 100) (k : aw_W G M d Q (pc + 3) L (.int (if x < y then y else x) :: st) J kc ks) : aw_W G M d Q pc L (.int y :: .int x :: st) J kc ks := fun p e R s m args below meth c H ls locs cells slots mc ms A h => va_mmax h.x h.b (by rw [h.ml, h.sz]) h.own (h.ts _ hw) (h.ts _ hw1) (h.ts _ hw2) (h.ts _ hw3) (by have := h.2.1.1; unfold aw_fr at this; omega) (by have := h.2.1.2.1; unfold aw_lo at this; omega) (by have := h.2.1.2.2; omega) (by have := h.2.1.2.2; omega) hd (k p e R s m args below meth c H ls locs cells slots mc ms A h)
end AWH

/-! the claim out of the law's walk in aw_W -/
def lw_P (b : Addr) (xs : List Int32) (args : Array Value) (s : State) : Prop := args = #[.ref b] ∧ s.IntsAt b xs ∧ xs.length ≤ 3584 ∧ (Jvm.Cond.and given_1 narrow_1).before args s = true
def lw_Q (_ : Array Value) (s : State) (o : Outcome) (t : State) : Prop := o = .returned (some (.int 1)) ∧ Framed s o t [] room_1.cells room_1.slots
def lw_Z (below : List Frame) (a : Array Value) (s : State) : State → Prop := fun t => ∃ o, t.status = .running ∧ Ended t below o ∧ lw_Q a s o t
/-- what is left to show: the law's walk -/
def lw_ow : Prop := ∀ G : aw_G, G.1.stackTraces = false → G.2.2.2.2.2.1 ≤ 3584 → aw_W G mW_law 100 (fun oc _ => oc = .inl (some (.int 1))) 0 [some (.ref G.2.2.2.2.1), none, none, none, none, none, none] [] (fun _ => none) room_1.cells room_1.slots
theorem lw_body {p : Program} {e : Env} {s s₁ : State} {m : MethodId} {below : List Frame} {meth : Method} {c : Code} {l : Launch} {b L : Nat} {xs : Nat → Int32} (how : lw_ow) (hl9 : l.stackTraces = false) (hL : L ≤ 3584) (hnm : meth.name = x.name) (htab : c.exceptionTable.toList = []) (C0 : lw_At p s m meth c b L xs)
    (hh0 : s₁.heap = s.heap) (X₀ : Stand p l e room_1 s m #[Value.ref b] below meth c s₁ [] 0 0) : ∃ t, Steps p.tables e below (s₁.setTop (entryFrame m ([Value.ref b] : List Value).toArray 7)) t ∧ lw_Z below #[Value.ref b] s t := by
  obtain ⟨D, ca, ec, hT, hZ⟩ := sa_G l C0
  have C1 := C0
  obtain ⟨hx, hb, hr, hml, hown, hts, -, -, hlk, -⟩ := C1
  have hL0 : aw_L (lg_sl [Value.ref b] ++ List.replicate (7 - (lg_sl [Value.ref b]).length) Slot.unset).toArray 7 (aw_ent [.ref b] 7) := by
    show lv_has _ _ (aw_ps 0 (aw_ent [.ref b] 7))
    rw [aw_ent_args]
    exact lv_entry [.ref b] (Nat.le_of_ble_eq_true rfl)
  have K := how (l, D, ca, ec, b, L, xs) hl9 hL p e room_1 s m #[Value.ref b] below meth c s.heap _ [] 0 0 room_1.cells room_1.slots (fun q => s.heap.size ≤ q)
    ⟨⟨hx, hb, hml, hr, hlk, hown, hnm, htab, fun w hw => hts w (List.mem_filter.mp hw).1, hT, hZ, fun q h => h, hl9⟩, ⟨by decide, by decide, by decide, by decide, by decide, by decide⟩, hL0, ⟨[], fun k q h => by simp at h, ⟨fun i j p q h => by simp at h, fun k q h => by simp at h⟩, fun a e h => by cases h⟩, va_S.rf⟩
  rw [lg_entry_eq]
  obtain ⟨t, a1, oc, b1, b2, b3⟩ := K s₁ hh0 X₀
  refine ⟨t, a1, oc, b1, b2, ?_⟩
  rcases b3 with ⟨⟨v, J, e1, e2, -, -⟩, Lo, hF, hLo⟩ | ⟨q, -, E, ce, Lo, ⟨J, e2, -⟩, -⟩
  · have e2' : (Sum.inl v : aw_O) = .inl (some (.int 1)) := e2
    cases e2'
    obtain ⟨h1, h2, h3⟩ := hF
    exact ⟨e1, h1, h2, h3.weaken (fun y hy hlt => absurd hlt (Nat.not_lt.mpr (hLo y hy))) (Nat.le_refl _) (Nat.le_refl _)⟩
  · have e2' : (Sum.inr E : aw_O) = .inl (some (.int 1)) := e2
    cases e2'
set_option maxHeartbeats 4000000 in
theorem lw_walk (how : lw_ow) (l : Launch) (hl9 : l.stackTraces = false) (b : Addr) (xs : List Int32) : MetFree l x (headSpec (Jvm.Cond.code x code maxLocals ret :: tables_1) room_1) (lw_P b xs) (fun _ _ _ _ _ => True) lw_Q := by
  refine MetFree.of_bodyS (code := code) (maxLocals := maxLocals) (ret := ret) (by decide) ?_ ?_
  · intro args s m h hn
    obtain ⟨meth, c, h1, h2, h3, h4, h5, h6, -, -⟩ := Cond.code_spec hn (atoms_spec (ws := Jvm.Cond.code x code maxLocals ret :: tables_1) h _ List.mem_cons_self)
    exact ⟨meth, c, h1, h2, h3, h4, h5, h6⟩
  · intro p e s m args below meth c s₁ B hml0 hP _
    obtain ⟨rfl, hx, hbd, hgv⟩ := hP
    obtain ⟨scr, harrAt, hlist, hof, hsmall⟩ := hx
    obtain ⟨hcb, hkn, -, -⟩ := State.arrayAt?_spec harrAt
    have hown : s.vm.findClass R_law = some m.cls := findClass_of_methodNamed B.named
    have hts0 : ∀ c ∈ (Jvm.Cond.code x code maxLocals ret :: tables_1), c.before #[Value.ref b] s = true := atoms_spec (ws := Jvm.Cond.code x code maxLocals ret :: tables_1) B.pre
    have hts : ∀ w ∈ lw_tbl, w.before #[Value.ref b] s = true := k2_hts_sels lw_privs (fun w hw => hts0 w (List.mem_cons_of_mem _ hw)) lw_privs_ok
    have hml : c.maxLocals = 7 := B.maxLocals_eq (hts0 _ List.mem_cons_self)
    have X₀ : Stand p l e room_1 s m #[Value.ref b] below meth c s₁ [] 0 0 := Stand.of_body B
    have hh0 : s₁.heap = s.heap := by rw [B.state]; rfl
    have hsz : scr.slots.size = xs.length := by rw [← Array.length_toList, hlist, List.length_map]
    have hval : ∀ j : Nat, j < xs.length → scr.slots[j]? = some (.int (xs.getD j 0)) := fun j hj => by
      rw [← Array.getElem?_toList, hlist]
      simp [hj]
    have hbl : b < s.heap.size := (Array.getElem?_eq_some_iff.mp hcb).1
    have hX : va_X b xs.length (fun j => xs.getD j 0) s s.heap := ⟨scr, hcb, hof, hkn, hsz, hval⟩
    have htab : c.exceptionTable.toList = [] := by
      have h := B.noHandlers (hts0 _ List.mem_cons_self)
      simpa [Array.isEmpty] using h
    obtain ⟨t, a1, o, b1, b2, b3⟩ := lw_body how hl9 hbd (name_of_methodNamed B.named B.method).1 htab ⟨B.exec, B.bytes, B.returns, hml, hown, hts, hX, hbl, B.notSynchronized, hgv⟩ hh0 X₀
    exact ⟨t, o, a1, b1, b2, b3⟩
theorem lw_pre_spec {args : Array Value} {s : State} (h : (Jvm.Cond.and given_1 narrow_1).before args s = true) (hr : rest_1_c.before args s = true) : ∃ (b : Addr) (xs : List Int32), lw_P b xs args s := by
  have hs := flat_of_before _ h
  have hq := flat_of_before _ hr
  have hc : (Cond.count 1).before args s = true := hs _ (by decide +kernel)
  have harr : (Cond.arrayOf (.arg 0) .int).before args s = true := hs _ (by decide +kernel)
  have hle : (Cond.le (.length (.arg 0)) (.int 3584)).before args s = true := hs _ (by decide +kernel)
  have hlen : (Cond.isInt (.length (.arg 0))).before args s = true := hq _ (by decide +kernel)
  have hall : (Cond.all (.arg 0) (.isInt (.elem (.arg 0) (.index 0)))).before args s = true := hq _ (by decide +kernel)
  obtain ⟨b, xs, hb, hx⟩ := State.ints_of_pre rfl harr hlen hall
  have hsm : xs.length < 2 ^ 31 := hx.choose_spec.2.2.2
  have hev : (Term.length (.arg 0)).eval args s none [] s = some (.int xs.length.toInt32) := hx.length_eval hb
  have hv := Cond.le_ints hev (show (Term.int 3584).eval args s none [] s = some (.int 3584) from rfl)
  have hd : xs.length.toInt32 ≤ 3584 := by
    simpa [Cond.before, Cond.holds, hv] using hle
  have hN : xs.length ≤ 3584 := (Int32.ofNat_le_ofNat hsm (by decide)).mp (show Int32.ofNat xs.length ≤ Int32.ofNat 3584 from hd)
  exact ⟨b, xs, Cond.one_arg hc (show args[0]? = some (.ref b) from hb), hx, hN, h⟩
theorem lw_comes (how : lw_ow) (l : Launch) (hl9 : l.stackTraces = false) : Comes l x (Jvm.Cond.code x code maxLocals ret :: tables_1) room_1 (fun tb e args s => Calls_1 tb e args s ∧ rest_1 tb e args s ∧ Pre_1 tb e args s)
    (fun _ _ args s o t => lw_Q args s o t) := by
  intro p e ha hc hk s m args below hf hfit hheap happ hpre
  obtain ⟨b, xs, hP⟩ := lw_pre_spec hpre.2.2 hpre.2.1
  obtain ⟨k, o, h1, h2, h3, hQ⟩ := lw_walk how l hl9 b xs p e ha hc hk s m args below hf ((Spec.applies_iff_loose hf).mp happ).1 hP trivial
  exact ⟨k, o, h1, h2, h3, hQ⟩
theorem lw_frame {s t : State} {o : Outcome} {args : Array Value} (h : Framed s o t [] room_1.cells room_1.slots) :
    Framed s o t (fieldLocs frame_1_writes args s ++ arrayLocs frame_1_arrays args s ++ staticLocs frame_1_statics s) room_1.cells room_1.slots := h
theorem lw_limb (how : lw_ow) (L : Cond) (hL : ∀ (args : Array Value) (s t : State), L.after args s (.returned (some (.int 1))) t = true) :
    ArmFor flags0 classFile x code maxLocals ret World_1 tables_1 room_1 Calls_1 rest_1 Pre_1
      (fun tb e a s o t => postC L tb e a s o t ∧ Framed s o t (fieldLocs frame_1_writes a s ++ arrayLocs frame_1_arrays a s ++ staticLocs frame_1_statics s) room_1.cells room_1.slots) := by
  intro l hfl _ _ p e ha hc hk s m args below hf hfit hheap happ hpre
  obtain ⟨k, o, h1, h2, h3, rfl, hF⟩ := lw_comes how l (by show (!l.flags.contains Jvm.noTraceFlag) = false; rw [hfl]; decide +kernel) p e ha hc hk s m args below hf hfit hheap happ hpre
  exact ⟨k, _, h1, h2, h3, hL args s _, lw_frame hF⟩
theorem i_vc_open (how : lw_ow) : Claimed_1_1 ∧ Claimed_1_2 := ⟨lw_limb how limb_1_1 (fun args s t => by simp [limb_1_1, Cond.after, Cond.holds, Cond.value]), lw_limb how limb_1_2 (fun args s t => Cond.after_iff.mpr (by
  first | (rw [show limb_1_2 = Cond.eq .result (.int 1) from rfl, Cond.eq_ints (x := 1) (y := 1) rfl rfl]; simp; done) | (simp [limb_1_2, Cond.value, Term.eval]; done)))⟩
theorem lw_done : lw_ow := fun G _ hL => lk_run (by decide) (by decide) hL (fun _ => rfl)
theorem i_vc : Claimed_1_1 ∧ Claimed_1_2 := i_vc_open lw_done

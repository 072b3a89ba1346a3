/-! AW: calls, throws, catches -/
def aw_K (k1 : Option Value → aw_J → Prop) (k2 : String → aw_J → Prop) : aw_O → aw_J → Prop := fun oc J => match oc with
  | .inl v => k1 v J
  | .inr E => k2 E J
def aw_Pc (G : aw_G) (vs : List Value) (ws : va_W) (sz : Nat) : Array Value → State → Prop := va_Pc vs (fun U => U.heap.size = sz ∧ va_P G.2.1 aw_cl ws U.heap ∧ va_D (fun _ => True) ws ∧ aw_T G U ∧ aw_Z G (va_A ws sz) U U.heap)
def aw_rm (d mc ms : Nat) : Room := { frames := aw_fr d, cells := mc, slots := ms, locals := aw_lo d }
def aw_ws (M : aw_M) : List Cond := Cond.code M.1 M.2.1 M.2.2.1 M.2.2.2.1 :: aw_TB
def aw_wsW (M : aw_M) : List Cond := Cond.codeWith M.1 M.2.1 M.2.2.1 M.2.2.2.1 M.2.2.2.2 :: aw_TB
theorem aw_gin {big : List Cond} (h : ∀ w ∈ big, w ∈ aw_TB) : GoodIn aw_TB big := fun w hw => ⟨h w hw, aw_TB_good w (h w hw)⟩
theorem aw_blind {G : aw_G} {vs : List Value} {ws : va_W} {sz : Nat} : FrameBlind (aw_Pc G vs ws sz) := by
  intro a U g mk q
  obtain ⟨q0, q1, qP, qD, qT, qZ⟩ := q
  exact ⟨q0, q1, qP, qD, aw_T.same (u := U) (U := U.calling g mk a) rfl qT, aw_Z.moved (u := U) (U := U.calling g mk a) (Vm.Alike.refl U.vm) qZ⟩
section AWM
variable {G : aw_G} {M : aw_M} {d : Nat} {Q : aw_O → aw_J → Prop} {J : aw_J} {mc ms : Nat} {vs : List Value} {ws : va_W} {sz : Nat}
theorem aw_met (hy : plainName M.1.cls = true) (hh : M.2.2.2.2 = []) (hlen : (lg_sl vs).length ≤ M.2.2.1) (hoff : G.1.stackTraces = false) (hJw : ∀ (a : Nat) (e : va_E), J a = some e → ∃ k : Nat, ws[k]? = some (a, e)) (k : aw_W G M d Q 0 (aw_ent vs M.2.2.1) [] J mc ms) :
    vx_Met G.1 M.1 (aw_ws M) (aw_rm d mc ms) (aw_Pc G vs ws sz) (aw_Qc G Q (va_A ws sz)) (aw_XC G Q (va_A ws sz)) mc ms (va_A ws sz) := by
  refine vx_ofW (cc := M.2.1) (maxL := M.2.2.1) (ret := M.2.2.2.1) hy rfl ?_
  intro p e s m args below meth c s₁ B hml hex hPc
  obtain ⟨rfl, hsz, hP, hD, hT, hZ⟩ := hPc
  have hts := atoms_spec (ws := aw_ws M) B.pre
  subst hsz
  rw [lg_entry_eq]
  refine k p e _ s m _ below meth c s.heap _ [] 0 0 mc ms (va_A ws s.heap.size) ⟨⟨B.exec, B.bytes, hml, B.returns, B.notSynchronized, findClass_of_methodNamed B.named, (name_of_methodNamed B.named B.method).1, ?_, fun w hw => hts w (List.mem_cons_of_mem _ hw), hT, hZ, fun q h => Or.inr h, hoff⟩, ⟨Nat.le_refl _, Nat.le_refl _, by omega, Nat.le_refl _, by omega, Nat.le_refl _⟩, ?_, ⟨ws, hP, hD.self, hJw⟩, va_S.rf⟩
  · rw [hh]
    exact List.eq_nil_iff_forall_not_mem.mpr (fun x hx => hex x hx)
  · show lv_has _ _ (aw_ps 0 (aw_ent vs M.2.2.1))
    rw [aw_ent_args]
    exact lv_entry vs hlen
theorem aw_metW (hy : plainName M.1.cls = true) (hlen : (lg_sl vs).length ≤ M.2.2.1) (hoff : G.1.stackTraces = false) (hJw : ∀ (a : Nat) (e : va_E), J a = some e → ∃ k : Nat, ws[k]? = some (a, e)) (k : aw_W G M d Q 0 (aw_ent vs M.2.2.1) [] J mc ms) :
    vx_Met G.1 M.1 (aw_wsW M) (aw_rm d mc ms) (aw_Pc G vs ws sz) (aw_Qc G Q (va_A ws sz)) (aw_XC G Q (va_A ws sz)) mc ms (va_A ws sz) := by
  refine vx_ofWH (cc := M.2.1) (maxL := M.2.2.1) (ret := M.2.2.2.1) (hh := M.2.2.2.2) hy rfl ?_
  intro p e s m args below meth c s₁ B hml hPc
  obtain ⟨rfl, hsz, hP, hD, hT, hZ⟩ := hPc
  have hts := atoms_spec (ws := aw_wsW M) B.pre
  have htab : c.exceptionTable.toList = tableOf M.2.2.2.2 := vx_table (x := M.1) B (hts _ List.mem_cons_self)
  subst hsz
  rw [lg_entry_eq]
  refine k p e _ s m _ below meth c s.heap _ [] 0 0 mc ms (va_A ws s.heap.size) ⟨⟨B.exec, B.bytes, hml, B.returns, B.notSynchronized, findClass_of_methodNamed B.named, (name_of_methodNamed B.named B.method).1, htab, fun w hw => hts w (List.mem_cons_of_mem _ hw), hT, hZ, fun q h => Or.inr h, hoff⟩, ⟨Nat.le_refl _, Nat.le_refl _, by omega, Nat.le_refl _, by omega, Nat.le_refl _⟩, ?_, ⟨ws, hP, hD.self, hJw⟩, va_S.rf⟩
  show lv_has _ _ (aw_ps 0 (aw_ent vs M.2.2.1))
  rw [aw_ent_args]
  exact lv_entry vs hlen
end AWM
/-- a contract with no throw -/
theorem aw_plain {l : Launch} {y : MethodName} {ws : List Cond} {rm : Room} {Pc : Array Value → State → Prop} {Qc : Array Value → State → Outcome → State → Prop} {XC : String → State → State → Prop} {mc ms : Nat} {free : Addr → Prop} (h : vx_Met l y ws rm Pc Qc XC mc ms free) (hx : ∀ E st t, ¬ XC E st t) : Met l y ws rm Pc Qc mc ms free := by
  intro p e ha hc hk s m args below hf happ hP hK
  obtain ⟨n, oc, h1, h2, h3, h4⟩ := h p e ha hc hk s m args below hf happ hP hK
  rcases h4 with h4 | ⟨q, -, E, ce, Lo, hX, -⟩
  · exact ⟨n, oc, h1, h2, h3, h4⟩
  · exact absurd hX (hx E _ _)
theorem aw_noX {G : aw_G} {k1 : Option Value → aw_J → Prop} {A : Nat → Prop} (E : String) (st t : State) : ¬ aw_XC G (aw_K k1 (fun _ _ => False)) A E st t := fun ⟨_, h, _⟩ => h
/-- a callee: what the tables say of it -/
def aw_CB (M' : aw_M) (n : Nat) : Prop := plainName M'.1.cls = true ∧ M'.2.2.2.2 = [] ∧ M'.2.2.1 ≤ 45 ∧ Cond.code M'.1 M'.2.1 M'.2.2.1 M'.2.2.2.1 ∈ aw_TB ∧ Cond.initialized M'.1.cls ∈ aw_TB ∧ (M'.1.cls ≠ "java/lang/invoke/MethodHandle" ∧ M'.1.cls ≠ "java/lang/invoke/VarHandle" ∧ (parseMethodDescriptor M'.1.desc).map (fun d => d.parameters.length) = some n)
def aw_CBW (M' : aw_M) (n : Nat) : Prop := plainName M'.1.cls = true ∧ M'.2.2.1 ≤ 45 ∧ Cond.codeWith M'.1 M'.2.1 M'.2.2.1 M'.2.2.2.1 M'.2.2.2.2 ∈ aw_TB ∧ Cond.initialized M'.1.cls ∈ aw_TB ∧ (M'.1.cls ≠ "java/lang/invoke/MethodHandle" ∧ M'.1.cls ≠ "java/lang/invoke/VarHandle" ∧ (parseMethodDescriptor M'.1.desc).map (fun d => d.parameters.length) = some n)
def aw_CV (own : String) (idx : Nat) (M' : aw_M) (ci n : Nat) : Prop := aw_CB M' n ∧ (∃ (T : u_T) (N : Nat), aw_cl[ci]? = some (M'.1.cls, T, N)) ∧ Cond.instanceMethod M'.1 ∈ aw_TB ∧ Cond.selects M'.1.cls M'.1 M'.1 ∈ aw_TB ∧ Cond.methodLink own idx M'.1 ∈ aw_TB
def aw_CVN (own : String) (idx : Nat) (M' : aw_M) (ci n : Nat) : Prop := aw_CB M' n ∧ (∃ (T : u_T) (N : Nat), aw_cl[ci]? = some (M'.1.cls, T, N)) ∧ Cond.instanceMethod M'.1 ∈ aw_TB ∧ Cond.selects M'.1.cls M'.1 M'.1 ∈ aw_TB ∧ ∃ host : String, Cond.methodLinkNest own idx M'.1 host ∈ aw_NB
def aw_CS (own : String) (idx : Nat) (M' : aw_M) (n : Nat) : Prop := aw_CB M' n ∧ Cond.static M'.1 ∈ aw_TB ∧ Cond.methodLink own idx M'.1 ∈ aw_TB
def aw_CSW (own : String) (idx : Nat) (M' : aw_M) (n : Nat) : Prop := aw_CBW M' n ∧ Cond.static M'.1 ∈ aw_TB ∧ Cond.methodLink own idx M'.1 ∈ aw_TB
def aw_CI (own : String) (idx : Nat) (M' : aw_M) (n : Nat) : Prop := aw_CB M' n ∧ M'.1.name = "<init>" ∧ M'.2.2.2.1 = none ∧ Cond.instanceMethod M'.1 ∈ aw_TB ∧ Cond.methodLink own idx M'.1 ∈ aw_TB
def aw_CIN (own : String) (idx : Nat) (M' : aw_M) (n : Nat) : Prop := aw_CB M' n ∧ M'.1.name = "<init>" ∧ M'.2.2.2.1 = none ∧ Cond.instanceMethod M'.1 ∈ aw_TB ∧ ∃ host : String, Cond.methodLinkNest own idx M'.1 host ∈ aw_NB
section AWR
variable {G : aw_G} {M : aw_M} {d : Nat} {Q Q' : aw_O → aw_J → Prop} {pc : Nat} {L : List (Option Value)} {st : List Value} {J : aw_J} {kc ks kc' ks' mc' ms' : Nat}
variable {p : Program} {e : Env} {R : Room} {s : State} {m : MethodId} {args : Array Value} {below : List Frame} {meth : Method} {c : Code} {H : Heap} {ls : Array Slot} {locs : List Loc} {cells slots mc ms : Nat} {A : Nat → Prop} {ws : va_W}
theorem aw_ofRun {g : JFrame} {rest : List Value} {Qa : State → Outcome → State → Prop} {XC : String → State → State → Prop} {free : Addr → Prop} {l : Launch} (h : va_Run p l e R s m args below meth c H locs cells slots mc' ms' g rest Qa free) : vx_Run p l e R s m args below meth c H locs cells slots mc' ms' g rest Qa XC free := fun T hT X => Or.inl (h T hT X)
theorem aw_wide (h : aw_I G M d L J kc ks p R s m args meth c H ls locs cells slots mc ms A) (hD : va_D A ws) : ∀ q, va_A ws H.size q → A q := by
  intro q hq
  rcases hq with ⟨k, e, hk⟩ | hq
  · exact hD.2 k _ hk
  · exact h.fr q (Nat.le_trans h.S.1 hq)
theorem aw_pre {vs : List Value} (h : aw_I G M d L J kc ks p R s m args meth c H ls locs cells slots mc ms A) (hP : va_P G.2.1 aw_cl ws H) (hD : va_D A ws) : ∀ U : State, U.heap = H → s.WarmedH U.vm → aw_Pc G vs ws H.size vs.toArray U := fun U hU hW =>
  ⟨rfl, by rw [hU], by rw [hU]; exact hP, hD.weaken (fun _ _ _ _ => trivial), aw_T.warm hW h.T, by rw [hU]; exact aw_Z.moved hW.alike ((h.Z.kept h.S.1 h.S.2.1).narrow (aw_wide h hD))⟩
/-- behind a call: the walk goes on, by the callee's end -/
theorem aw_after {st0 : List Value} {a : Array Value} (hr : vx_Run p G.1 e R s m args below meth c H locs cells slots mc' ms' (F0 m pc ls st0) st (aw_Qc G Q' (va_A ws H.size) a) (aw_XC G Q' (va_A ws H.size)) (va_A ws H.size)) (h : aw_I G M d L J kc ks p R s m args meth c H ls locs cells slots mc ms A) (hD : va_D A ws)
    (k1 : ∀ (v : Option Value) (J' : aw_J), Q' (.inl v) J' → aw_W G M d Q (pc + 3) L (v.toList ++ st) J' kc' ks')
    (k2 : ∀ (E : String) (J' : aw_J), Q' (.inr E) J' → ∀ (H1 : Heap) (locs1 : List Loc) (q : Nat) (ce : Cell), aw_I G M d L J' kc' ks' p R s m args meth c H1 ls locs1 (cells + mc') (slots + ms') mc ms A → H1[q]? = some ce → ce.vm = .none → s.vm.findClass E = some ce.cls → vx_W p G.1 e R s m args below meth c H1 locs1 (cells + mc') (slots + ms') (vx_MQ below (aw_Qc G Q A) (aw_XC G Q A) args s mc ms A) (F0 m pc ls st) q)
    (hc : mc' + kc' ≤ kc) (hs : ms' + ks' ≤ ks) : W p G.1 e R s m args below meth c H locs cells slots (vx_MQ below (aw_Qc G Q A) (aw_XC G Q A) args s mc ms A) (F0 m pc ls st0) := by
  intro T hT X
  have hA := aw_wide h hD
  have b1 := h.2.1.2.2.1
  have b2 := h.2.1.2.2.2.1
  have b3 := h.2.1.2.2.2.2.1
  have b4 := h.2.1.2.2.2.2.2
  rcases hr T hT X with ⟨v, st₀, t, T', Lo, h0, X', hL, e1, e2, ⟨v', J', hv, hQ, hR, hF⟩, stp⟩ | ⟨q, st₀, t, T', Lo, E, ce, h0, X', hL, e1, e2, ⟨J', hQ, hR, hF⟩, hce, hcv, hcl, stp⟩
  · cases hv
    obtain ⟨z1, z2, z3⟩ := vx_keep h0 e1 h.S (fun q _ z => hA q z) (fun q z => hA q z) hL hF
    obtain ⟨ws', hP', hD', hJ'⟩ := hR
    obtain ⟨t2, a1, b⟩ := k1 v J' hQ p e R s m args below meth c T'.heap ls (locs ++ Lo) (cells + mc') (slots + ms') mc ms A ⟨h.1, ⟨h.2.1.1, h.2.1.2.1, by omega, b2, by omega, b4⟩, h.2.2.1, ⟨ws', by rw [e1]; exact hP', hD'.weaken (fun _ _ _ z => hA _ z), hJ'⟩, z3⟩ T' rfl X'
    exact ⟨t2, stp t2 a1, b⟩
  · obtain ⟨z1, z2, z3⟩ := vx_keep h0 e1 h.S (fun q _ z => hA q z) (fun q z => hA q z) hL hF
    obtain ⟨ws', hP', hD', hJ'⟩ := hR
    obtain ⟨t2, a1, b⟩ := k2 E J' hQ T'.heap (locs ++ Lo) q ce ⟨h.1, ⟨h.2.1.1, h.2.1.2.1, by omega, b2, by omega, b4⟩, h.2.2.1, ⟨ws', by rw [e1]; exact hP', hD'.weaken (fun _ _ _ z => hA _ z), hJ'⟩, z3⟩ (by rw [e1]; exact hce) hcv hcl T' rfl X'
    exact ⟨t2, stp.trans a1, b⟩
theorem aw_outs (hX : M.2.2.2.2 = []) {E : String} (hQ : Q (.inr E) J) {q : Nat} {ce : Cell} (h : aw_I G M d L J kc ks p R s m args meth c H ls locs cells slots mc ms A) (hce : H[q]? = some ce) (hcv : ce.vm = .none) (hcl : s.vm.findClass E = some ce.cls) : vx_W p G.1 e R s m args below meth c H locs cells slots (vx_MQ below (aw_Qc G Q A) (aw_XC G Q A) args s mc ms A) (F0 m pc ls st) q :=
  vx_out (fun x hx => by rw [h.tab, hX] at hx; cases hx) h.lk hce hcv hcl (fun t ht _ => ⟨J, hQ, by rw [ht]; exact h.2.2.2.1, h.S.F ht⟩) h.S.2.2 (by have := h.2.1.2.2.1; omega) (by have := h.2.1.2.2.2.2.1; omega)
end AWR
section AWK
variable {G : aw_G} {M M' : aw_M} {d : Nat} {Q : aw_O → aw_J → Prop} {pc : Nat} {L : List (Option Value)} {st st0 vs : List Value} {J : aw_J} {kc ks kc' ks' mc' ms' : Nat}
theorem aw_callV {idx ci b : Nat} {fs : List Value} (hd : decode M.2.1 pc = .ok (.invokevirtual idx, 3)) (hS : aw_CV M.1.cls idx M' ci vs.length) (hJ : J b = some (.inr (ci, fs))) (hst : st0 = vs.reverse ++ .ref b :: st) (hcat : (st.map fun v => v.category).sum ≤ 8) (hlen : (lg_sl (.ref b :: vs)).length ≤ M'.2.2.1) (hc : mc' + kc' ≤ kc) (hs : ms' + ks' ≤ ks) (hX : M.2.2.2.2 = [])
    (k : aw_W G M' d (aw_K (fun v J' => aw_W G M (d + 1) Q (pc + 3) L (v.toList ++ st) J' kc' ks') (fun E J' => Q (.inr E) J')) 0 (aw_ent (.ref b :: vs) M'.2.2.1) [] J mc' ms') : aw_W G M (d + 1) Q pc L st0 J kc ks := by
  intro p e R s m args below meth c H ls locs cells slots mc ms A h
  obtain ⟨ws, hP, hD, hJw⟩ := h.2.2.2.1
  obtain ⟨q0, he⟩ := hJw _ _ hJ
  obtain ⟨hB, ⟨T9, N9, hci⟩, hin, hse, hli⟩ := hS
  have hrecv := va_recv h.K hP hci he
  have hini := hB.2.2.2.2.1
  have hrf : aw_fr d + 1 ≤ R.frames := by have := h.2.1.1; unfold aw_fr at *; omega
  have hrl : 8 + (M'.2.2.1 + 11) + aw_lo d ≤ R.locals := by have := h.2.1.2.1; have := hB.2.2.1; unfold aw_lo at *; omega
  have hfit : cells + mc' ≤ R.cells ∧ slots + ms' ≤ R.slots := by have := h.2.1.2.2; omega
  have hM := aw_met (ws := ws) (sz := H.size) hB.1 hB.2.1 hlen h.off hJw k
  have hgw : ∀ w ∈ aw_ws M', w ∈ aw_TB := fun w hw => by
    rcases List.mem_cons.mp hw with rfl | hw
    · exact hB.2.2.2.1
    · exact hw
  refine aw_after (ws := ws) (vx_runV (rm := aw_rm d mc' ms') (bytes := M'.2.1) (maxL := M'.2.2.1) (ret := M'.2.2.2.1) (As := vs) (rest := st) ⟨h.x, h.b, h.ml, h.own, h.ts⟩ hM (cwV vs.length h.ts (aw_gin (fun w hw => by
      rcases List.mem_append.mp hw with hw | hw
      · simp only [List.mem_cons, List.not_mem_nil, or_false] at hw
        rcases hw with rfl | rfl | rfl | rfl <;> assumption
      · exact hgw w hw)) rfl rfl rfl ⟨rfl, hB.2.2.2.2.2⟩ ⟨hrf, hrl⟩) ⟨aw_blind, hrecv, aw_pre h hP hD⟩ rfl rfl h.sz hst (by show 2 * 0 + _ ≤ 8; omega) hd hfit) h hD (fun v J' hQ => hQ) (fun E J' hQ H1 locs1 q ce hI hce hcv hcl => aw_outs (Q := Q) hX hQ hI hce hcv hcl) hc hs
theorem aw_callVN {idx ci b : Nat} {fs : List Value} (hd : decode M.2.1 pc = .ok (.invokevirtual idx, 3)) (hS : aw_CVN M.1.cls idx M' ci vs.length) (hJ : J b = some (.inr (ci, fs))) (hst : st0 = vs.reverse ++ .ref b :: st) (hcat : (st.map fun v => v.category).sum ≤ 8) (hlen : (lg_sl (.ref b :: vs)).length ≤ M'.2.2.1) (hc : mc' + kc' ≤ kc) (hs : ms' + ks' ≤ ks)
    (k : aw_W G M' d (aw_K (fun v J' => aw_W G M (d + 1) Q (pc + 3) L (v.toList ++ st) J' kc' ks') (fun _ _ => False)) 0 (aw_ent (.ref b :: vs) M'.2.2.1) [] J mc' ms') : aw_W G M (d + 1) Q pc L st0 J kc ks := by
  intro p e R s m args below meth c H ls locs cells slots mc ms A h
  obtain ⟨ws, hP, hD, hJw⟩ := h.2.2.2.1
  obtain ⟨q0, he⟩ := hJw _ _ hJ
  obtain ⟨hB, ⟨T9, N9, hci⟩, hin, hse, host, hli⟩ := hS
  have hrecv := va_recv h.K hP hci he
  have hrf : aw_fr d + 1 ≤ R.frames := by have := h.2.1.1; unfold aw_fr at *; omega
  have hrl : 8 + (M'.2.2.1 + 11) + aw_lo d ≤ R.locals := by have := h.2.1.2.1; have := hB.2.2.1; unfold aw_lo at *; omega
  have hfit : cells + mc' ≤ R.cells ∧ slots + ms' ≤ R.slots := by have := h.2.1.2.2; omega
  have hM := aw_met (ws := ws) (sz := H.size) hB.1 hB.2.1 hlen h.off hJw k
  have hgw : ∀ w ∈ aw_ws M', w ∈ aw_TB := fun w hw => by
    rcases List.mem_cons.mp hw with rfl | hw
    · exact hB.2.2.2.1
    · exact hw
  refine aw_after (ws := ws) (aw_ofRun (va_runVN (rm := aw_rm d mc' ms') (bytes := M'.2.1) (maxL := M'.2.2.1) (ret := M'.2.2.2.1) (As := vs) (rest := st) ⟨h.x, h.b, h.ml, h.own, h.ts⟩ (aw_plain hM aw_noX) ⟨va_cnB vs.length h.ts (aw_gin hgw) rfl rfl rfl (h.T.1 _ hli) (h.ts _ hB.2.2.2.2.1) hB.2.2.2.2.2 ⟨hrf, hrl⟩, h.ts _ hin, h.ts _ hse⟩ ⟨aw_blind, hrecv, aw_pre h hP hD⟩ rfl rfl h.sz hst (by show 2 * 0 + _ ≤ 8; omega) hd hfit)) h hD (fun v J' hQ => hQ) (fun E J' hQ => hQ.elim) hc hs
theorem aw_callS {idx : Nat} (hd : decode M.2.1 pc = .ok (.invokestatic idx, 3)) (hS : aw_CS M.1.cls idx M' vs.length) (hst : st0 = vs.reverse ++ st) (hcat : (st.map fun v => v.category).sum ≤ 8) (hlen : (lg_sl (vs)).length ≤ M'.2.2.1) (hc : mc' + kc' ≤ kc) (hs : ms' + ks' ≤ ks) (hX : M.2.2.2.2 = [])
    (k : aw_W G M' d (aw_K (fun v J' => aw_W G M (d + 1) Q (pc + 3) L (v.toList ++ st) J' kc' ks') (fun E J' => Q (.inr E) J')) 0 (aw_ent (vs) M'.2.2.1) [] J mc' ms') : aw_W G M (d + 1) Q pc L st0 J kc ks := by
  intro p e R s m args below meth c H ls locs cells slots mc ms A h
  obtain ⟨ws, hP, hD, hJw⟩ := h.2.2.2.1
  obtain ⟨hB, hsta, hli⟩ := hS
  have hini := hB.2.2.2.2.1
  have hrf : aw_fr d + 1 ≤ R.frames := by have := h.2.1.1; unfold aw_fr at *; omega
  have hrl : 8 + (M'.2.2.1 + 11) + aw_lo d ≤ R.locals := by have := h.2.1.2.1; have := hB.2.2.1; unfold aw_lo at *; omega
  have hfit : cells + mc' ≤ R.cells ∧ slots + ms' ≤ R.slots := by have := h.2.1.2.2; omega
  have hM := aw_met (ws := ws) (sz := H.size) hB.1 hB.2.1 hlen h.off hJw k
  have hgw : ∀ w ∈ aw_ws M', w ∈ aw_TB := fun w hw => by
    rcases List.mem_cons.mp hw with rfl | hw
    · exact hB.2.2.2.1
    · exact hw
  refine aw_after (ws := ws) (vx_runS (rm := aw_rm d mc' ms') (bytes := M'.2.1) (maxL := M'.2.2.1) (ret := M'.2.2.2.1) (As := vs) (rest := st) ⟨h.x, h.b, h.ml, h.own, h.ts⟩ hM (va_cwS vs.length h.ts (aw_gin (fun w hw => by
      rcases List.mem_append.mp hw with hw | hw
      · simp only [List.mem_cons, List.not_mem_nil, or_false] at hw
        rcases hw with rfl | rfl | rfl <;> assumption
      · exact hgw w hw)) rfl rfl rfl hB.2.2.2.2.2 ⟨hrf, hrl⟩) ⟨aw_blind, aw_pre h hP hD⟩ rfl rfl h.sz hst (by show 2 * 0 + _ ≤ 8; omega) hd hfit) h hD (fun v J' hQ => hQ) (fun E J' hQ H1 locs1 q ce hI hce hcv hcl => aw_outs (Q := Q) hX hQ hI hce hcv hcl) hc hs
theorem aw_callI {idx b : Nat} (hd : decode M.2.1 pc = .ok (.invokespecial idx, 3)) (hS : aw_CI M.1.cls idx M' vs.length) (hst : st0 = vs.reverse ++ .ref b :: st) (hcat : (st.map fun v => v.category).sum ≤ 8) (hlen : (lg_sl (.ref b :: vs)).length ≤ M'.2.2.1) (hc : mc' + kc' ≤ kc) (hs : ms' + ks' ≤ ks)
    (k : aw_W G M' d (aw_K (fun v J' => aw_W G M (d + 1) Q (pc + 3) L (v.toList ++ st) J' kc' ks') (fun _ _ => False)) 0 (aw_ent (.ref b :: vs) M'.2.2.1) [] J mc' ms') : aw_W G M (d + 1) Q pc L st0 J kc ks := by
  intro p e R s m args below meth c H ls locs cells slots mc ms A h
  obtain ⟨ws, hP, hD, hJw⟩ := h.2.2.2.1
  obtain ⟨hB, hnm, hrt, hin, hli⟩ := hS
  have hrf : aw_fr d + 1 ≤ R.frames := by have := h.2.1.1; unfold aw_fr at *; omega
  have hrl : 8 + (M'.2.2.1 + 11) + aw_lo d ≤ R.locals := by have := h.2.1.2.1; have := hB.2.2.1; unfold aw_lo at *; omega
  have hfit : cells + mc' ≤ R.cells ∧ slots + ms' ≤ R.slots := by have := h.2.1.2.2; omega
  have hM := aw_met (ws := ws) (sz := H.size) hB.1 hB.2.1 hlen h.off hJw k
  have hgw : ∀ w ∈ aw_ws M', w ∈ aw_TB := fun w hw => by
    rcases List.mem_cons.mp hw with rfl | hw
    · exact hB.2.2.2.1
    · exact hw
  refine aw_after (ws := ws) (aw_ofRun (va_runI (rm := aw_rm d mc' ms') (bytes := M'.2.1) (maxL := M'.2.2.1) (As := vs) (rest := st) ⟨h.x, h.b, h.ml, h.own, h.ts⟩ (aw_plain hM aw_noX) (cwI vs.length h.ts (aw_gin hgw) (by unfold aw_ws; rw [hrt]) rfl rfl (h.ts _ hB.2.2.2.2.1) (h.ts _ hli) (h.ts _ hin) hnm hB.2.2.2.2.2 ⟨hrf, hrl⟩) ⟨aw_blind, aw_pre h hP hD⟩ rfl rfl h.sz hst (by show 2 * 0 + _ ≤ 8; omega) hd hfit)) h hD (fun v J' hQ => hQ) (fun E J' hQ => hQ.elim) hc hs
theorem aw_callIN {idx b : Nat} (hd : decode M.2.1 pc = .ok (.invokespecial idx, 3)) (hS : aw_CIN M.1.cls idx M' vs.length) (hst : st0 = vs.reverse ++ .ref b :: st) (hcat : (st.map fun v => v.category).sum ≤ 8) (hlen : (lg_sl (.ref b :: vs)).length ≤ M'.2.2.1) (hc : mc' + kc' ≤ kc) (hs : ms' + ks' ≤ ks)
    (k : aw_W G M' d (aw_K (fun v J' => aw_W G M (d + 1) Q (pc + 3) L (v.toList ++ st) J' kc' ks') (fun _ _ => False)) 0 (aw_ent (.ref b :: vs) M'.2.2.1) [] J mc' ms') : aw_W G M (d + 1) Q pc L st0 J kc ks := by
  intro p e R s m args below meth c H ls locs cells slots mc ms A h
  obtain ⟨ws, hP, hD, hJw⟩ := h.2.2.2.1
  obtain ⟨hB, hnm, hrt, hin, host, hli⟩ := hS
  have hrf : aw_fr d + 1 ≤ R.frames := by have := h.2.1.1; unfold aw_fr at *; omega
  have hrl : 8 + (M'.2.2.1 + 11) + aw_lo d ≤ R.locals := by have := h.2.1.2.1; have := hB.2.2.1; unfold aw_lo at *; omega
  have hfit : cells + mc' ≤ R.cells ∧ slots + ms' ≤ R.slots := by have := h.2.1.2.2; omega
  have hM := aw_met (ws := ws) (sz := H.size) hB.1 hB.2.1 hlen h.off hJw k
  have hgw : ∀ w ∈ aw_ws M', w ∈ aw_TB := fun w hw => by
    rcases List.mem_cons.mp hw with rfl | hw
    · exact hB.2.2.2.1
    · exact hw
  refine aw_after (ws := ws) (aw_ofRun (va_runIN (rm := aw_rm d mc' ms') (bytes := M'.2.1) (maxL := M'.2.2.1) (As := vs) (rest := st) ⟨h.x, h.b, h.ml, h.own, h.ts⟩ (aw_plain hM aw_noX) ⟨va_cnB vs.length h.ts (aw_gin hgw) (by unfold aw_ws; rw [hrt]) rfl rfl (h.T.1 _ hli) (h.ts _ hB.2.2.2.2.1) hB.2.2.2.2.2 ⟨hrf, hrl⟩, hnm, h.ts _ hin⟩ ⟨aw_blind, aw_pre h hP hD⟩ rfl rfl h.sz hst (by show 2 * 0 + _ ≤ 8; omega) hd hfit)) h hD (fun v J' hQ => hQ) (fun E J' hQ => hQ.elim) hc hs
end AWK
/-- a place where a class of ours throws: new, dup, ldc, invokespecial, athrow -/
def aw_TS (own : String) (ik ist ic : Nat) (cls text : String) (names : List String) : Prop := Bundle.fit cls = true ∧ (∀ n ∈ names, Bundle.fit n = true) ∧ names.length ≤ 4 ∧ Cond.classLink own ik cls ∈ aw_TB ∧ Cond.initialized cls ∈ aw_TB ∧ (own, ist, text) ∈ aw_SB ∧ (∀ w ∈ vx_atS own ic cls names, w ∈ aw_TB ∨ w ∈ aw_NB) ∧ ∀ w ∈ Cond.classLink own ik cls :: Cond.initialized cls :: vx_atS own ic cls names, vx_ot w = true
section AWT
variable {G : aw_G} {M : aw_M} {d : Nat} {Q : aw_O → aw_J → Prop} {pc : Nat} {L : List (Option Value)} {st : List Value} {J : aw_J} {kc ks : Nat}
theorem aw_throw {ik ist ic : Nat} {cls text : String} {names : List String} (hS : aw_TS M.1.cls ik ist ic cls text names) (hX : M.2.2.2.2 = []) (d0 : decode M.2.1 pc = .ok (.new ik, 3)) (d3 : decode M.2.1 (pc + 3) = .ok (.dup, 1)) (d4 : decode M.2.1 (pc + 4) = .ok (.ldc ist, 2)) (d6 : decode M.2.1 (pc + 6) = .ok (.invokespecial ic, 3)) (d9 : decode M.2.1 (pc + 9) = .ok (.athrow, 1))
    (hcat : (st.map fun v => v.category).sum ≤ 40) (hc : 1 ≤ kc) (hs : 6 ≤ ks) (hq : Q (.inr cls) J) : aw_W G M d Q pc L st J kc ks := by
  intro p e R s m args below meth c H ls locs cells slots mc ms A h
  obtain ⟨h1, h2, h3, h4, h5, h6, h7, h8⟩ := hS
  obtain ⟨sa, hsa⟩ := h.T.2.2.2.1 _ h6
  have b1 := h.2.1.2.2.1
  have b2 := h.2.1.2.2.2.1
  have b3 := h.2.1.2.2.2.2.1
  have b4 := h.2.1.2.2.2.2.2
  refine vx_throwS h.x h.b h.off h.own h1 h2 (h.ts _ h4) (h.ts _ h5) hsa (fun w hw => ?_) h8 h.Z.2.1 h.Z.2.2.1 h.S (h.sz.trans h.ml.symm) d0 d3 d4 d6 d9 (fun x hx => by rw [h.tab, hX] at hx; cases hx) (by have := h.2.1.1; unfold aw_fr at this; omega) (by have := h.2.1.2.1; unfold aw_lo at this; omega) (by omega) (by omega) h.lk (fun t hv hz hk => ?_) h.S.2.2 (by omega) (by omega)
  · rcases h7 w hw with hw2 | hw2
    · exact h.ts _ hw2
    · have hn := h.T.1 _ hw2
      have hk := aw_NB_nw _ hw2
      cases w <;> first | exact va_Nw.use rfl hn | (simp [aw_nw] at hk)
  · obtain ⟨ws, hP, hD, hJw⟩ := h.2.2.2.1
    exact ⟨J, hq, ⟨ws, hP.kept (fun k q hkq => hk q.1 ((hP k q hkq).lt)), hD, hJw⟩, Nat.le_trans h.S.1 hz, fun q z1 z2 => (hk q (Nat.lt_of_lt_of_le z1 h.S.1)).trans (h.S.2.1 q z1 z2)⟩
theorem aw_throwW {ik ist ic : Nat} {cls text : String} {names : List String} (hS : aw_TS M.1.cls ik ist ic cls text names) (hX : M.2.2.2.2 = []) (d0 : decode M.2.1 pc = .ok (.new ik, 3)) (d3 : decode M.2.1 (pc + 3) = .ok (.dup, 1)) (d4 : decode M.2.1 (pc + 4) = .ok (.ldc_w ist, 3)) (d6 : decode M.2.1 (pc + 7) = .ok (.invokespecial ic, 3)) (d9 : decode M.2.1 (pc + 10) = .ok (.athrow, 1))
    (hcat : (st.map fun v => v.category).sum ≤ 40) (hc : 1 ≤ kc) (hs : 6 ≤ ks) (hq : Q (.inr cls) J) : aw_W G M d Q pc L st J kc ks := by
  intro p e R s m args below meth c H ls locs cells slots mc ms A h
  obtain ⟨h1, h2, h3, h4, h5, h6, h7, h8⟩ := hS
  obtain ⟨sa, hsa⟩ := h.T.2.2.2.1 _ h6
  have b1 := h.2.1.2.2.1
  have b2 := h.2.1.2.2.2.1
  have b3 := h.2.1.2.2.2.2.1
  have b4 := h.2.1.2.2.2.2.2
  refine vx_throwSW h.x h.b h.off h.own h1 h2 (h.ts _ h4) (h.ts _ h5) hsa (fun w hw => ?_) h8 h.Z.2.1 h.Z.2.2.1 h.S (h.sz.trans h.ml.symm) d0 d3 d4 d6 d9 (fun x hx => by rw [h.tab, hX] at hx; cases hx) (by have := h.2.1.1; unfold aw_fr at this; omega) (by have := h.2.1.2.1; unfold aw_lo at this; omega) (by omega) (by omega) h.lk (fun t hv hz hk => ?_) h.S.2.2 (by omega) (by omega)
  · rcases h7 w hw with hw2 | hw2
    · exact h.ts _ hw2
    · have hn := h.T.1 _ hw2
      have hk := aw_NB_nw _ hw2
      cases w <;> first | exact va_Nw.use rfl hn | (simp [aw_nw] at hk)
  · obtain ⟨ws, hP, hD, hJw⟩ := h.2.2.2.1
    exact ⟨J, hq, ⟨ws, hP.kept (fun k q hkq => hk q.1 ((hP k q hkq).lt)), hD, hJw⟩, Nat.le_trans h.S.1 hz, fun q z1 z2 => (hk q (Nat.lt_of_lt_of_le z1 h.S.1)).trans (h.S.2.1 q z1 z2)⟩
end AWT
section AWN
variable {G : aw_G} {M M' : aw_M} {d : Nat} {Q : aw_O → aw_J → Prop} {pc idx ci b : Nat} {L : List (Option Value)} {st fs : List Value} {J : aw_J} {kc ks kc' ks' mc' ms' : Nat}
theorem aw_callV0 (hd : decode M.2.1 pc = .ok (.invokevirtual idx, 3)) (hS : aw_CV M.1.cls idx M' ci 0) (hJ : J b = some (.inr (ci, fs))) (hcat : (st.map fun v => v.category).sum ≤ 8) (hlen : (lg_sl [.ref b]).length ≤ M'.2.2.1) (hc : mc' + kc' ≤ kc) (hs : ms' + ks' ≤ ks) (hX : M.2.2.2.2 = []) (k : aw_W G M' d (aw_K (fun v J' => aw_W G M (d + 1) Q (pc + 3) L (v.toList ++ st) J' kc' ks') (fun E J' => Q (.inr E) J')) 0 (aw_ent [.ref b] M'.2.2.1) [] J mc' ms') : aw_W G M (d + 1) Q pc L (.ref b :: st) J kc ks := aw_callV (vs := []) hd hS hJ rfl hcat hlen hc hs hX k
theorem aw_callV1 {v1 : Value} (hd : decode M.2.1 pc = .ok (.invokevirtual idx, 3)) (hS : aw_CV M.1.cls idx M' ci 1) (hJ : J b = some (.inr (ci, fs))) (hcat : (st.map fun v => v.category).sum ≤ 8) (hlen : (lg_sl [.ref b, v1]).length ≤ M'.2.2.1) (hc : mc' + kc' ≤ kc) (hs : ms' + ks' ≤ ks) (hX : M.2.2.2.2 = []) (k : aw_W G M' d (aw_K (fun v J' => aw_W G M (d + 1) Q (pc + 3) L (v.toList ++ st) J' kc' ks') (fun E J' => Q (.inr E) J')) 0 (aw_ent [.ref b, v1] M'.2.2.1) [] J mc' ms') : aw_W G M (d + 1) Q pc L (v1 :: .ref b :: st) J kc ks := aw_callV (vs := [v1]) hd hS hJ rfl hcat hlen hc hs hX k
theorem aw_callV2 {v1 v2 : Value} (hd : decode M.2.1 pc = .ok (.invokevirtual idx, 3)) (hS : aw_CV M.1.cls idx M' ci 2) (hJ : J b = some (.inr (ci, fs))) (hcat : (st.map fun v => v.category).sum ≤ 8) (hlen : (lg_sl [.ref b, v1, v2]).length ≤ M'.2.2.1) (hc : mc' + kc' ≤ kc) (hs : ms' + ks' ≤ ks) (hX : M.2.2.2.2 = []) (k : aw_W G M' d (aw_K (fun v J' => aw_W G M (d + 1) Q (pc + 3) L (v.toList ++ st) J' kc' ks') (fun E J' => Q (.inr E) J')) 0 (aw_ent [.ref b, v1, v2] M'.2.2.1) [] J mc' ms') : aw_W G M (d + 1) Q pc L (v2 :: v1 :: .ref b :: st) J kc ks := aw_callV (vs := [v1, v2]) hd hS hJ rfl hcat hlen hc hs hX k
theorem aw_callV3 {v1 v2 v3 : Value} (hd : decode M.2.1 pc = .ok (.invokevirtual idx, 3)) (hS : aw_CV M.1.cls idx M' ci 3) (hJ : J b = some (.inr (ci, fs))) (hcat : (st.map fun v => v.category).sum ≤ 8) (hlen : (lg_sl [.ref b, v1, v2, v3]).length ≤ M'.2.2.1) (hc : mc' + kc' ≤ kc) (hs : ms' + ks' ≤ ks) (hX : M.2.2.2.2 = []) (k : aw_W G M' d (aw_K (fun v J' => aw_W G M (d + 1) Q (pc + 3) L (v.toList ++ st) J' kc' ks') (fun E J' => Q (.inr E) J')) 0 (aw_ent [.ref b, v1, v2, v3] M'.2.2.1) [] J mc' ms') : aw_W G M (d + 1) Q pc L (v3 :: v2 :: v1 :: .ref b :: st) J kc ks := aw_callV (vs := [v1, v2, v3]) hd hS hJ rfl hcat hlen hc hs hX k
theorem aw_callV4 {v1 v2 v3 v4 : Value} (hd : decode M.2.1 pc = .ok (.invokevirtual idx, 3)) (hS : aw_CV M.1.cls idx M' ci 4) (hJ : J b = some (.inr (ci, fs))) (hcat : (st.map fun v => v.category).sum ≤ 8) (hlen : (lg_sl [.ref b, v1, v2, v3, v4]).length ≤ M'.2.2.1) (hc : mc' + kc' ≤ kc) (hs : ms' + ks' ≤ ks) (hX : M.2.2.2.2 = []) (k : aw_W G M' d (aw_K (fun v J' => aw_W G M (d + 1) Q (pc + 3) L (v.toList ++ st) J' kc' ks') (fun E J' => Q (.inr E) J')) 0 (aw_ent [.ref b, v1, v2, v3, v4] M'.2.2.1) [] J mc' ms') : aw_W G M (d + 1) Q pc L (v4 :: v3 :: v2 :: v1 :: .ref b :: st) J kc ks := aw_callV (vs := [v1, v2, v3, v4]) hd hS hJ rfl hcat hlen hc hs hX k
theorem aw_callV5 {v1 v2 v3 v4 v5 : Value} (hd : decode M.2.1 pc = .ok (.invokevirtual idx, 3)) (hS : aw_CV M.1.cls idx M' ci 5) (hJ : J b = some (.inr (ci, fs))) (hcat : (st.map fun v => v.category).sum ≤ 8) (hlen : (lg_sl [.ref b, v1, v2, v3, v4, v5]).length ≤ M'.2.2.1) (hc : mc' + kc' ≤ kc) (hs : ms' + ks' ≤ ks) (hX : M.2.2.2.2 = []) (k : aw_W G M' d (aw_K (fun v J' => aw_W G M (d + 1) Q (pc + 3) L (v.toList ++ st) J' kc' ks') (fun E J' => Q (.inr E) J')) 0 (aw_ent [.ref b, v1, v2, v3, v4, v5] M'.2.2.1) [] J mc' ms') : aw_W G M (d + 1) Q pc L (v5 :: v4 :: v3 :: v2 :: v1 :: .ref b :: st) J kc ks := aw_callV (vs := [v1, v2, v3, v4, v5]) hd hS hJ rfl hcat hlen hc hs hX k
theorem aw_callVN0 (hd : decode M.2.1 pc = .ok (.invokevirtual idx, 3)) (hS : aw_CVN M.1.cls idx M' ci 0) (hJ : J b = some (.inr (ci, fs))) (hcat : (st.map fun v => v.category).sum ≤ 8) (hlen : (lg_sl [.ref b]).length ≤ M'.2.2.1) (hc : mc' + kc' ≤ kc) (hs : ms' + ks' ≤ ks) (k : aw_W G M' d (aw_K (fun v J' => aw_W G M (d + 1) Q (pc + 3) L (v.toList ++ st) J' kc' ks') (fun _ _ => False)) 0 (aw_ent [.ref b] M'.2.2.1) [] J mc' ms') : aw_W G M (d + 1) Q pc L (.ref b :: st) J kc ks := aw_callVN (vs := []) hd hS hJ rfl hcat hlen hc hs k
theorem aw_callVN1 {v1 : Value} (hd : decode M.2.1 pc = .ok (.invokevirtual idx, 3)) (hS : aw_CVN M.1.cls idx M' ci 1) (hJ : J b = some (.inr (ci, fs))) (hcat : (st.map fun v => v.category).sum ≤ 8) (hlen : (lg_sl [.ref b, v1]).length ≤ M'.2.2.1) (hc : mc' + kc' ≤ kc) (hs : ms' + ks' ≤ ks) (k : aw_W G M' d (aw_K (fun v J' => aw_W G M (d + 1) Q (pc + 3) L (v.toList ++ st) J' kc' ks') (fun _ _ => False)) 0 (aw_ent [.ref b, v1] M'.2.2.1) [] J mc' ms') : aw_W G M (d + 1) Q pc L (v1 :: .ref b :: st) J kc ks := aw_callVN (vs := [v1]) hd hS hJ rfl hcat hlen hc hs k
theorem aw_callVN2 {v1 v2 : Value} (hd : decode M.2.1 pc = .ok (.invokevirtual idx, 3)) (hS : aw_CVN M.1.cls idx M' ci 2) (hJ : J b = some (.inr (ci, fs))) (hcat : (st.map fun v => v.category).sum ≤ 8) (hlen : (lg_sl [.ref b, v1, v2]).length ≤ M'.2.2.1) (hc : mc' + kc' ≤ kc) (hs : ms' + ks' ≤ ks) (k : aw_W G M' d (aw_K (fun v J' => aw_W G M (d + 1) Q (pc + 3) L (v.toList ++ st) J' kc' ks') (fun _ _ => False)) 0 (aw_ent [.ref b, v1, v2] M'.2.2.1) [] J mc' ms') : aw_W G M (d + 1) Q pc L (v2 :: v1 :: .ref b :: st) J kc ks := aw_callVN (vs := [v1, v2]) hd hS hJ rfl hcat hlen hc hs k
theorem aw_callVN3 {v1 v2 v3 : Value} (hd : decode M.2.1 pc = .ok (.invokevirtual idx, 3)) (hS : aw_CVN M.1.cls idx M' ci 3) (hJ : J b = some (.inr (ci, fs))) (hcat : (st.map fun v => v.category).sum ≤ 8) (hlen : (lg_sl [.ref b, v1, v2, v3]).length ≤ M'.2.2.1) (hc : mc' + kc' ≤ kc) (hs : ms' + ks' ≤ ks) (k : aw_W G M' d (aw_K (fun v J' => aw_W G M (d + 1) Q (pc + 3) L (v.toList ++ st) J' kc' ks') (fun _ _ => False)) 0 (aw_ent [.ref b, v1, v2, v3] M'.2.2.1) [] J mc' ms') : aw_W G M (d + 1) Q pc L (v3 :: v2 :: v1 :: .ref b :: st) J kc ks := aw_callVN (vs := [v1, v2, v3]) hd hS hJ rfl hcat hlen hc hs k
theorem aw_callVN4 {v1 v2 v3 v4 : Value} (hd : decode M.2.1 pc = .ok (.invokevirtual idx, 3)) (hS : aw_CVN M.1.cls idx M' ci 4) (hJ : J b = some (.inr (ci, fs))) (hcat : (st.map fun v => v.category).sum ≤ 8) (hlen : (lg_sl [.ref b, v1, v2, v3, v4]).length ≤ M'.2.2.1) (hc : mc' + kc' ≤ kc) (hs : ms' + ks' ≤ ks) (k : aw_W G M' d (aw_K (fun v J' => aw_W G M (d + 1) Q (pc + 3) L (v.toList ++ st) J' kc' ks') (fun _ _ => False)) 0 (aw_ent [.ref b, v1, v2, v3, v4] M'.2.2.1) [] J mc' ms') : aw_W G M (d + 1) Q pc L (v4 :: v3 :: v2 :: v1 :: .ref b :: st) J kc ks := aw_callVN (vs := [v1, v2, v3, v4]) hd hS hJ rfl hcat hlen hc hs k
theorem aw_callVN5 {v1 v2 v3 v4 v5 : Value} (hd : decode M.2.1 pc = .ok (.invokevirtual idx, 3)) (hS : aw_CVN M.1.cls idx M' ci 5) (hJ : J b = some (.inr (ci, fs))) (hcat : (st.map fun v => v.category).sum ≤ 8) (hlen : (lg_sl [.ref b, v1, v2, v3, v4, v5]).length ≤ M'.2.2.1) (hc : mc' + kc' ≤ kc) (hs : ms' + ks' ≤ ks) (k : aw_W G M' d (aw_K (fun v J' => aw_W G M (d + 1) Q (pc + 3) L (v.toList ++ st) J' kc' ks') (fun _ _ => False)) 0 (aw_ent [.ref b, v1, v2, v3, v4, v5] M'.2.2.1) [] J mc' ms') : aw_W G M (d + 1) Q pc L (v5 :: v4 :: v3 :: v2 :: v1 :: .ref b :: st) J kc ks := aw_callVN (vs := [v1, v2, v3, v4, v5]) hd hS hJ rfl hcat hlen hc hs k
theorem aw_callS0 (hd : decode M.2.1 pc = .ok (.invokestatic idx, 3)) (hS : aw_CS M.1.cls idx M' 0) (hcat : (st.map fun v => v.category).sum ≤ 8) (hlen : (lg_sl []).length ≤ M'.2.2.1) (hc : mc' + kc' ≤ kc) (hs : ms' + ks' ≤ ks) (hX : M.2.2.2.2 = []) (k : aw_W G M' d (aw_K (fun v J' => aw_W G M (d + 1) Q (pc + 3) L (v.toList ++ st) J' kc' ks') (fun E J' => Q (.inr E) J')) 0 (aw_ent [] M'.2.2.1) [] J mc' ms') : aw_W G M (d + 1) Q pc L st J kc ks := aw_callS (vs := []) hd hS rfl hcat hlen hc hs hX k
theorem aw_callS1 {v1 : Value} (hd : decode M.2.1 pc = .ok (.invokestatic idx, 3)) (hS : aw_CS M.1.cls idx M' 1) (hcat : (st.map fun v => v.category).sum ≤ 8) (hlen : (lg_sl [v1]).length ≤ M'.2.2.1) (hc : mc' + kc' ≤ kc) (hs : ms' + ks' ≤ ks) (hX : M.2.2.2.2 = []) (k : aw_W G M' d (aw_K (fun v J' => aw_W G M (d + 1) Q (pc + 3) L (v.toList ++ st) J' kc' ks') (fun E J' => Q (.inr E) J')) 0 (aw_ent [v1] M'.2.2.1) [] J mc' ms') : aw_W G M (d + 1) Q pc L (v1 :: st) J kc ks := aw_callS (vs := [v1]) hd hS rfl hcat hlen hc hs hX k
theorem aw_callS2 {v1 v2 : Value} (hd : decode M.2.1 pc = .ok (.invokestatic idx, 3)) (hS : aw_CS M.1.cls idx M' 2) (hcat : (st.map fun v => v.category).sum ≤ 8) (hlen : (lg_sl [v1, v2]).length ≤ M'.2.2.1) (hc : mc' + kc' ≤ kc) (hs : ms' + ks' ≤ ks) (hX : M.2.2.2.2 = []) (k : aw_W G M' d (aw_K (fun v J' => aw_W G M (d + 1) Q (pc + 3) L (v.toList ++ st) J' kc' ks') (fun E J' => Q (.inr E) J')) 0 (aw_ent [v1, v2] M'.2.2.1) [] J mc' ms') : aw_W G M (d + 1) Q pc L (v2 :: v1 :: st) J kc ks := aw_callS (vs := [v1, v2]) hd hS rfl hcat hlen hc hs hX k
theorem aw_callS3 {v1 v2 v3 : Value} (hd : decode M.2.1 pc = .ok (.invokestatic idx, 3)) (hS : aw_CS M.1.cls idx M' 3) (hcat : (st.map fun v => v.category).sum ≤ 8) (hlen : (lg_sl [v1, v2, v3]).length ≤ M'.2.2.1) (hc : mc' + kc' ≤ kc) (hs : ms' + ks' ≤ ks) (hX : M.2.2.2.2 = []) (k : aw_W G M' d (aw_K (fun v J' => aw_W G M (d + 1) Q (pc + 3) L (v.toList ++ st) J' kc' ks') (fun E J' => Q (.inr E) J')) 0 (aw_ent [v1, v2, v3] M'.2.2.1) [] J mc' ms') : aw_W G M (d + 1) Q pc L (v3 :: v2 :: v1 :: st) J kc ks := aw_callS (vs := [v1, v2, v3]) hd hS rfl hcat hlen hc hs hX k
theorem aw_callS4 {v1 v2 v3 v4 : Value} (hd : decode M.2.1 pc = .ok (.invokestatic idx, 3)) (hS : aw_CS M.1.cls idx M' 4) (hcat : (st.map fun v => v.category).sum ≤ 8) (hlen : (lg_sl [v1, v2, v3, v4]).length ≤ M'.2.2.1) (hc : mc' + kc' ≤ kc) (hs : ms' + ks' ≤ ks) (hX : M.2.2.2.2 = []) (k : aw_W G M' d (aw_K (fun v J' => aw_W G M (d + 1) Q (pc + 3) L (v.toList ++ st) J' kc' ks') (fun E J' => Q (.inr E) J')) 0 (aw_ent [v1, v2, v3, v4] M'.2.2.1) [] J mc' ms') : aw_W G M (d + 1) Q pc L (v4 :: v3 :: v2 :: v1 :: st) J kc ks := aw_callS (vs := [v1, v2, v3, v4]) hd hS rfl hcat hlen hc hs hX k
theorem aw_callS5 {v1 v2 v3 v4 v5 : Value} (hd : decode M.2.1 pc = .ok (.invokestatic idx, 3)) (hS : aw_CS M.1.cls idx M' 5) (hcat : (st.map fun v => v.category).sum ≤ 8) (hlen : (lg_sl [v1, v2, v3, v4, v5]).length ≤ M'.2.2.1) (hc : mc' + kc' ≤ kc) (hs : ms' + ks' ≤ ks) (hX : M.2.2.2.2 = []) (k : aw_W G M' d (aw_K (fun v J' => aw_W G M (d + 1) Q (pc + 3) L (v.toList ++ st) J' kc' ks') (fun E J' => Q (.inr E) J')) 0 (aw_ent [v1, v2, v3, v4, v5] M'.2.2.1) [] J mc' ms') : aw_W G M (d + 1) Q pc L (v5 :: v4 :: v3 :: v2 :: v1 :: st) J kc ks := aw_callS (vs := [v1, v2, v3, v4, v5]) hd hS rfl hcat hlen hc hs hX k
theorem aw_callI0 (hd : decode M.2.1 pc = .ok (.invokespecial idx, 3)) (hS : aw_CI M.1.cls idx M' 0) (hcat : (st.map fun v => v.category).sum ≤ 8) (hlen : (lg_sl [.ref b]).length ≤ M'.2.2.1) (hc : mc' + kc' ≤ kc) (hs : ms' + ks' ≤ ks) (k : aw_W G M' d (aw_K (fun v J' => aw_W G M (d + 1) Q (pc + 3) L (v.toList ++ st) J' kc' ks') (fun _ _ => False)) 0 (aw_ent [.ref b] M'.2.2.1) [] J mc' ms') : aw_W G M (d + 1) Q pc L (.ref b :: st) J kc ks := aw_callI (vs := []) hd hS rfl hcat hlen hc hs k
theorem aw_callI1 {v1 : Value} (hd : decode M.2.1 pc = .ok (.invokespecial idx, 3)) (hS : aw_CI M.1.cls idx M' 1) (hcat : (st.map fun v => v.category).sum ≤ 8) (hlen : (lg_sl [.ref b, v1]).length ≤ M'.2.2.1) (hc : mc' + kc' ≤ kc) (hs : ms' + ks' ≤ ks) (k : aw_W G M' d (aw_K (fun v J' => aw_W G M (d + 1) Q (pc + 3) L (v.toList ++ st) J' kc' ks') (fun _ _ => False)) 0 (aw_ent [.ref b, v1] M'.2.2.1) [] J mc' ms') : aw_W G M (d + 1) Q pc L (v1 :: .ref b :: st) J kc ks := aw_callI (vs := [v1]) hd hS rfl hcat hlen hc hs k
theorem aw_callI2 {v1 v2 : Value} (hd : decode M.2.1 pc = .ok (.invokespecial idx, 3)) (hS : aw_CI M.1.cls idx M' 2) (hcat : (st.map fun v => v.category).sum ≤ 8) (hlen : (lg_sl [.ref b, v1, v2]).length ≤ M'.2.2.1) (hc : mc' + kc' ≤ kc) (hs : ms' + ks' ≤ ks) (k : aw_W G M' d (aw_K (fun v J' => aw_W G M (d + 1) Q (pc + 3) L (v.toList ++ st) J' kc' ks') (fun _ _ => False)) 0 (aw_ent [.ref b, v1, v2] M'.2.2.1) [] J mc' ms') : aw_W G M (d + 1) Q pc L (v2 :: v1 :: .ref b :: st) J kc ks := aw_callI (vs := [v1, v2]) hd hS rfl hcat hlen hc hs k
theorem aw_callI3 {v1 v2 v3 : Value} (hd : decode M.2.1 pc = .ok (.invokespecial idx, 3)) (hS : aw_CI M.1.cls idx M' 3) (hcat : (st.map fun v => v.category).sum ≤ 8) (hlen : (lg_sl [.ref b, v1, v2, v3]).length ≤ M'.2.2.1) (hc : mc' + kc' ≤ kc) (hs : ms' + ks' ≤ ks) (k : aw_W G M' d (aw_K (fun v J' => aw_W G M (d + 1) Q (pc + 3) L (v.toList ++ st) J' kc' ks') (fun _ _ => False)) 0 (aw_ent [.ref b, v1, v2, v3] M'.2.2.1) [] J mc' ms') : aw_W G M (d + 1) Q pc L (v3 :: v2 :: v1 :: .ref b :: st) J kc ks := aw_callI (vs := [v1, v2, v3]) hd hS rfl hcat hlen hc hs k
theorem aw_callI4 {v1 v2 v3 v4 : Value} (hd : decode M.2.1 pc = .ok (.invokespecial idx, 3)) (hS : aw_CI M.1.cls idx M' 4) (hcat : (st.map fun v => v.category).sum ≤ 8) (hlen : (lg_sl [.ref b, v1, v2, v3, v4]).length ≤ M'.2.2.1) (hc : mc' + kc' ≤ kc) (hs : ms' + ks' ≤ ks) (k : aw_W G M' d (aw_K (fun v J' => aw_W G M (d + 1) Q (pc + 3) L (v.toList ++ st) J' kc' ks') (fun _ _ => False)) 0 (aw_ent [.ref b, v1, v2, v3, v4] M'.2.2.1) [] J mc' ms') : aw_W G M (d + 1) Q pc L (v4 :: v3 :: v2 :: v1 :: .ref b :: st) J kc ks := aw_callI (vs := [v1, v2, v3, v4]) hd hS rfl hcat hlen hc hs k
theorem aw_callI5 {v1 v2 v3 v4 v5 : Value} (hd : decode M.2.1 pc = .ok (.invokespecial idx, 3)) (hS : aw_CI M.1.cls idx M' 5) (hcat : (st.map fun v => v.category).sum ≤ 8) (hlen : (lg_sl [.ref b, v1, v2, v3, v4, v5]).length ≤ M'.2.2.1) (hc : mc' + kc' ≤ kc) (hs : ms' + ks' ≤ ks) (k : aw_W G M' d (aw_K (fun v J' => aw_W G M (d + 1) Q (pc + 3) L (v.toList ++ st) J' kc' ks') (fun _ _ => False)) 0 (aw_ent [.ref b, v1, v2, v3, v4, v5] M'.2.2.1) [] J mc' ms') : aw_W G M (d + 1) Q pc L (v5 :: v4 :: v3 :: v2 :: v1 :: .ref b :: st) J kc ks := aw_callI (vs := [v1, v2, v3, v4, v5]) hd hS rfl hcat hlen hc hs k
theorem aw_callIN0 (hd : decode M.2.1 pc = .ok (.invokespecial idx, 3)) (hS : aw_CIN M.1.cls idx M' 0) (hcat : (st.map fun v => v.category).sum ≤ 8) (hlen : (lg_sl [.ref b]).length ≤ M'.2.2.1) (hc : mc' + kc' ≤ kc) (hs : ms' + ks' ≤ ks) (k : aw_W G M' d (aw_K (fun v J' => aw_W G M (d + 1) Q (pc + 3) L (v.toList ++ st) J' kc' ks') (fun _ _ => False)) 0 (aw_ent [.ref b] M'.2.2.1) [] J mc' ms') : aw_W G M (d + 1) Q pc L (.ref b :: st) J kc ks := aw_callIN (vs := []) hd hS rfl hcat hlen hc hs k
theorem aw_callIN1 {v1 : Value} (hd : decode M.2.1 pc = .ok (.invokespecial idx, 3)) (hS : aw_CIN M.1.cls idx M' 1) (hcat : (st.map fun v => v.category).sum ≤ 8) (hlen : (lg_sl [.ref b, v1]).length ≤ M'.2.2.1) (hc : mc' + kc' ≤ kc) (hs : ms' + ks' ≤ ks) (k : aw_W G M' d (aw_K (fun v J' => aw_W G M (d + 1) Q (pc + 3) L (v.toList ++ st) J' kc' ks') (fun _ _ => False)) 0 (aw_ent [.ref b, v1] M'.2.2.1) [] J mc' ms') : aw_W G M (d + 1) Q pc L (v1 :: .ref b :: st) J kc ks := aw_callIN (vs := [v1]) hd hS rfl hcat hlen hc hs k
theorem aw_callIN2 {v1 v2 : Value} (hd : decode M.2.1 pc = .ok (.invokespecial idx, 3)) (hS : aw_CIN M.1.cls idx M' 2) (hcat : (st.map fun v => v.category).sum ≤ 8) (hlen : (lg_sl [.ref b, v1, v2]).length ≤ M'.2.2.1) (hc : mc' + kc' ≤ kc) (hs : ms' + ks' ≤ ks) (k : aw_W G M' d (aw_K (fun v J' => aw_W G M (d + 1) Q (pc + 3) L (v.toList ++ st) J' kc' ks') (fun _ _ => False)) 0 (aw_ent [.ref b, v1, v2] M'.2.2.1) [] J mc' ms') : aw_W G M (d + 1) Q pc L (v2 :: v1 :: .ref b :: st) J kc ks := aw_callIN (vs := [v1, v2]) hd hS rfl hcat hlen hc hs k
theorem aw_callIN3 {v1 v2 v3 : Value} (hd : decode M.2.1 pc = .ok (.invokespecial idx, 3)) (hS : aw_CIN M.1.cls idx M' 3) (hcat : (st.map fun v => v.category).sum ≤ 8) (hlen : (lg_sl [.ref b, v1, v2, v3]).length ≤ M'.2.2.1) (hc : mc' + kc' ≤ kc) (hs : ms' + ks' ≤ ks) (k : aw_W G M' d (aw_K (fun v J' => aw_W G M (d + 1) Q (pc + 3) L (v.toList ++ st) J' kc' ks') (fun _ _ => False)) 0 (aw_ent [.ref b, v1, v2, v3] M'.2.2.1) [] J mc' ms') : aw_W G M (d + 1) Q pc L (v3 :: v2 :: v1 :: .ref b :: st) J kc ks := aw_callIN (vs := [v1, v2, v3]) hd hS rfl hcat hlen hc hs k
theorem aw_callIN4 {v1 v2 v3 v4 : Value} (hd : decode M.2.1 pc = .ok (.invokespecial idx, 3)) (hS : aw_CIN M.1.cls idx M' 4) (hcat : (st.map fun v => v.category).sum ≤ 8) (hlen : (lg_sl [.ref b, v1, v2, v3, v4]).length ≤ M'.2.2.1) (hc : mc' + kc' ≤ kc) (hs : ms' + ks' ≤ ks) (k : aw_W G M' d (aw_K (fun v J' => aw_W G M (d + 1) Q (pc + 3) L (v.toList ++ st) J' kc' ks') (fun _ _ => False)) 0 (aw_ent [.ref b, v1, v2, v3, v4] M'.2.2.1) [] J mc' ms') : aw_W G M (d + 1) Q pc L (v4 :: v3 :: v2 :: v1 :: .ref b :: st) J kc ks := aw_callIN (vs := [v1, v2, v3, v4]) hd hS rfl hcat hlen hc hs k
theorem aw_callIN5 {v1 v2 v3 v4 v5 : Value} (hd : decode M.2.1 pc = .ok (.invokespecial idx, 3)) (hS : aw_CIN M.1.cls idx M' 5) (hcat : (st.map fun v => v.category).sum ≤ 8) (hlen : (lg_sl [.ref b, v1, v2, v3, v4, v5]).length ≤ M'.2.2.1) (hc : mc' + kc' ≤ kc) (hs : ms' + ks' ≤ ks) (k : aw_W G M' d (aw_K (fun v J' => aw_W G M (d + 1) Q (pc + 3) L (v.toList ++ st) J' kc' ks') (fun _ _ => False)) 0 (aw_ent [.ref b, v1, v2, v3, v4, v5] M'.2.2.1) [] J mc' ms') : aw_W G M (d + 1) Q pc L (v5 :: v4 :: v3 :: v2 :: v1 :: .ref b :: st) J kc ks := aw_callIN (vs := [v1, v2, v3, v4, v5]) hd hS rfl hcat hlen hc hs k
end AWN
theorem aw_catrf (r : Option Nat) : (va_rf r).category = 1 := by
  cases r <;> rfl
theorem aw_ent_rf (r : Option Nat) (t : List Value) (n : Nat) : aw_ent (va_rf r :: t) n = some (va_rf r) :: aw_ent t (n - 1) := by
  cases r <;> rfl

/-! AW: methods that catch what their callees throw -/
/-- E, thrown at pc, is caught by a row of the table of M, and the walk goes on there -/
def aw_X (G : aw_G) (M : aw_M) (d : Nat) (Q : aw_O → aw_J → Prop) (pc : Nat) (L : List (Option Value)) (E : String) (J : aw_J) (kc ks : Nat) : Prop :=
  ∃ (pre : List (Nat × Nat × Nat × Nat)) (h : Nat × Nat × Nat × Nat) (suf : List (Nat × Nat × Nat × Nat)) (nm : String), M.2.2.2.2 = pre ++ h :: suf ∧ (∀ z ∈ pre, z.2.2.2 ≠ 0 ∧ ∃ nm' : String, Cond.classLink M.1.cls z.2.2.2 nm' ∈ aw_TB ∧ (E, nm') ∈ aw_NC) ∧ covers ⟨h.1, h.2.1, h.2.2.1, h.2.2.2⟩ pc = true ∧ h.2.2.2 ≠ 0 ∧ Cond.classLink M.1.cls h.2.2.2 nm ∈ aw_TB ∧ Cond.castable E nm ∈ aw_NB ∧ ∀ q : Nat, aw_W G M d Q h.2.2.1 L [.ref q] J kc ks
section AWX
variable {G : aw_G} {M : aw_M} {d : Nat} {Q : aw_O → aw_J → Prop} {pc : Nat} {L : List (Option Value)} {st : List Value} {J : aw_J} {kc ks : Nat}
variable {p : Program} {e : Env} {R : Room} {s : State} {m : MethodId} {args : Array Value} {below : List Frame} {meth : Method} {c : Code} {H : Heap} {ls : Array Slot} {locs : List Loc} {cells slots mc ms : Nat} {A : Nat → Prop}
theorem aw_caught {E : String} (hX : aw_X G M d Q pc L E J kc ks) {q : Nat} {ce : Cell} (h : aw_I G M d L J kc ks p R s m args meth c H ls locs cells slots mc ms A) (hce : H[q]? = some ce) (hcv : ce.vm = .none) (hcl : s.vm.findClass E = some ce.cls) : vx_W p G.1 e R s m args below meth c H locs cells slots (vx_MQ below (aw_Qc G Q A) (aw_XC G Q A) args s mc ms A) (F0 m pc ls st) q := by
  obtain ⟨pre, hh, suf, nm, h1, h2, h3, h4, h5, h6, h7⟩ := hX
  refine vx_catch h.own (tableOf pre) ⟨hh.1, hh.2.1, hh.2.2.1, hh.2.2.2⟩ (tableOf suf) (by rw [h.tab, h1]; simp [tableOf]) (fun z hz => ?_) h3 h4 (h.ts _ h5) (va_Nw.use rfl (h.T.1 _ h6)) hce hcv hcl ?_
  · obtain ⟨z0, hz0, rfl⟩ := List.mem_map.mp hz
    obtain ⟨g1, nm', g2, g3⟩ := h2 z0 hz0
    exact Or.inr ⟨g1, nm', h.ts _ g2, h.T.2.2.2.2 _ g3⟩
  · exact h7 q p e R s m args below meth c H ls locs cells slots mc ms A h
end AWX
section AWXC
variable {G : aw_G} {M M' : aw_M} {d : Nat} {Q : aw_O → aw_J → Prop} {pc : Nat} {L : List (Option Value)} {st st0 vs : List Value} {J : aw_J} {kc ks kc' ks' mc' ms' : Nat}
theorem aw_callX {idx ci b : Nat} {fs : List Value} (hd : decode M.2.1 pc = .ok (.invokevirtual idx, 3)) (hS : aw_CV M.1.cls idx M' ci vs.length) (hJ : J b = some (.inr (ci, fs))) (hst : st0 = vs.reverse ++ .ref b :: st) (hcat : (st.map fun v => v.category).sum ≤ 8) (hlen : (lg_sl (.ref b :: vs)).length ≤ M'.2.2.1) (hc : mc' + kc' ≤ kc) (hs : ms' + ks' ≤ ks)
    (k : aw_W G M' d (aw_K (fun v J' => aw_W G M (d + 1) Q (pc + 3) L (v.toList ++ st) J' kc' ks') (fun E J' => aw_X G M (d + 1) Q pc L E J' kc' ks')) 0 (aw_ent (.ref b :: vs) M'.2.2.1) [] J mc' ms') : aw_W G M (d + 1) Q pc L st0 J kc ks := by
  intro p e R s m args below meth c H ls locs cells slots mc ms A h
  obtain ⟨ws, hP, hD, hJw⟩ := h.2.2.2.1
  obtain ⟨q0, he⟩ := hJw _ _ hJ
  obtain ⟨hB, ⟨T9, N9, hci⟩, hin, hse, hli⟩ := hS
  have hrecv := va_recv h.K hP hci he
  have hini := hB.2.2.2.2.1
  have hrf : aw_fr d + 1 ≤ R.frames := by have := h.2.1.1; unfold aw_fr at *; omega
  have hrl : 8 + (M'.2.2.1 + 11) + aw_lo d ≤ R.locals := by have := h.2.1.2.1; have := hB.2.2.1; unfold aw_lo at *; omega
  have hfit : cells + mc' ≤ R.cells ∧ slots + ms' ≤ R.slots := by have := h.2.1.2.2; omega
  have hM := aw_met (ws := ws) (sz := H.size) hB.1 hB.2.1 hlen h.off hJw k
  have hgw : ∀ w ∈ aw_ws M', w ∈ aw_TB := fun w hw => by
    rcases List.mem_cons.mp hw with rfl | hw
    · exact hB.2.2.2.1
    · exact hw
  refine aw_after (ws := ws) (vx_runV (rm := aw_rm d mc' ms') (bytes := M'.2.1) (maxL := M'.2.2.1) (ret := M'.2.2.2.1) (As := vs) (rest := st) ⟨h.x, h.b, h.ml, h.own, h.ts⟩ hM (cwV vs.length h.ts (aw_gin (fun w hw => by
      rcases List.mem_append.mp hw with hw | hw
      · simp only [List.mem_cons, List.not_mem_nil, or_false] at hw
        rcases hw with rfl | rfl | rfl | rfl <;> assumption
      · exact hgw w hw)) rfl rfl rfl ⟨rfl, hB.2.2.2.2.2⟩ ⟨hrf, hrl⟩) ⟨aw_blind, hrecv, aw_pre h hP hD⟩ rfl rfl h.sz hst (by show 2 * 0 + _ ≤ 8; omega) hd hfit) h hD (fun v J' hQ => hQ) (fun E J' hQ H1 locs1 q ce hI hce hcv hcl => aw_caught (Q := Q) hQ hI hce hcv hcl) hc hs
theorem aw_callX0 {idx ci b : Nat} {fs : List Value} (hd : decode M.2.1 pc = .ok (.invokevirtual idx, 3)) (hS : aw_CV M.1.cls idx M' ci 0) (hJ : J b = some (.inr (ci, fs))) (hcat : (st.map fun v => v.category).sum ≤ 8) (hlen : (lg_sl [.ref b]).length ≤ M'.2.2.1) (hc : mc' + kc' ≤ kc) (hs : ms' + ks' ≤ ks) (k : aw_W G M' d (aw_K (fun v J' => aw_W G M (d + 1) Q (pc + 3) L (v.toList ++ st) J' kc' ks') (fun E J' => aw_X G M (d + 1) Q pc L E J' kc' ks')) 0 (aw_ent [.ref b] M'.2.2.1) [] J mc' ms') : aw_W G M (d + 1) Q pc L (.ref b :: st) J kc ks := aw_callX (vs := []) hd hS hJ rfl hcat hlen hc hs k
theorem aw_callX1 {idx ci b : Nat} {fs : List Value} {v1 : Value} (hd : decode M.2.1 pc = .ok (.invokevirtual idx, 3)) (hS : aw_CV M.1.cls idx M' ci 1) (hJ : J b = some (.inr (ci, fs))) (hcat : (st.map fun v => v.category).sum ≤ 8) (hlen : (lg_sl [.ref b, v1]).length ≤ M'.2.2.1) (hc : mc' + kc' ≤ kc) (hs : ms' + ks' ≤ ks) (k : aw_W G M' d (aw_K (fun v J' => aw_W G M (d + 1) Q (pc + 3) L (v.toList ++ st) J' kc' ks') (fun E J' => aw_X G M (d + 1) Q pc L E J' kc' ks')) 0 (aw_ent [.ref b, v1] M'.2.2.1) [] J mc' ms') : aw_W G M (d + 1) Q pc L (v1 :: .ref b :: st) J kc ks := aw_callX (vs := [v1]) hd hS hJ rfl hcat hlen hc hs k
theorem aw_callX2 {idx ci b : Nat} {fs : List Value} {v1 v2 : Value} (hd : decode M.2.1 pc = .ok (.invokevirtual idx, 3)) (hS : aw_CV M.1.cls idx M' ci 2) (hJ : J b = some (.inr (ci, fs))) (hcat : (st.map fun v => v.category).sum ≤ 8) (hlen : (lg_sl [.ref b, v1, v2]).length ≤ M'.2.2.1) (hc : mc' + kc' ≤ kc) (hs : ms' + ks' ≤ ks) (k : aw_W G M' d (aw_K (fun v J' => aw_W G M (d + 1) Q (pc + 3) L (v.toList ++ st) J' kc' ks') (fun E J' => aw_X G M (d + 1) Q pc L E J' kc' ks')) 0 (aw_ent [.ref b, v1, v2] M'.2.2.1) [] J mc' ms') : aw_W G M (d + 1) Q pc L (v2 :: v1 :: .ref b :: st) J kc ks := aw_callX (vs := [v1, v2]) hd hS hJ rfl hcat hlen hc hs k
theorem aw_callX3 {idx ci b : Nat} {fs : List Value} {v1 v2 v3 : Value} (hd : decode M.2.1 pc = .ok (.invokevirtual idx, 3)) (hS : aw_CV M.1.cls idx M' ci 3) (hJ : J b = some (.inr (ci, fs))) (hcat : (st.map fun v => v.category).sum ≤ 8) (hlen : (lg_sl [.ref b, v1, v2, v3]).length ≤ M'.2.2.1) (hc : mc' + kc' ≤ kc) (hs : ms' + ks' ≤ ks) (k : aw_W G M' d (aw_K (fun v J' => aw_W G M (d + 1) Q (pc + 3) L (v.toList ++ st) J' kc' ks') (fun E J' => aw_X G M (d + 1) Q pc L E J' kc' ks')) 0 (aw_ent [.ref b, v1, v2, v3] M'.2.2.1) [] J mc' ms') : aw_W G M (d + 1) Q pc L (v3 :: v2 :: v1 :: .ref b :: st) J kc ks := aw_callX (vs := [v1, v2, v3]) hd hS hJ rfl hcat hlen hc hs k
theorem aw_callX4 {idx ci b : Nat} {fs : List Value} {v1 v2 v3 v4 : Value} (hd : decode M.2.1 pc = .ok (.invokevirtual idx, 3)) (hS : aw_CV M.1.cls idx M' ci 4) (hJ : J b = some (.inr (ci, fs))) (hcat : (st.map fun v => v.category).sum ≤ 8) (hlen : (lg_sl [.ref b, v1, v2, v3, v4]).length ≤ M'.2.2.1) (hc : mc' + kc' ≤ kc) (hs : ms' + ks' ≤ ks) (k : aw_W G M' d (aw_K (fun v J' => aw_W G M (d + 1) Q (pc + 3) L (v.toList ++ st) J' kc' ks') (fun E J' => aw_X G M (d + 1) Q pc L E J' kc' ks')) 0 (aw_ent [.ref b, v1, v2, v3, v4] M'.2.2.1) [] J mc' ms') : aw_W G M (d + 1) Q pc L (v4 :: v3 :: v2 :: v1 :: .ref b :: st) J kc ks := aw_callX (vs := [v1, v2, v3, v4]) hd hS hJ rfl hcat hlen hc hs k
theorem aw_callX5 {idx ci b : Nat} {fs : List Value} {v1 v2 v3 v4 v5 : Value} (hd : decode M.2.1 pc = .ok (.invokevirtual idx, 3)) (hS : aw_CV M.1.cls idx M' ci 5) (hJ : J b = some (.inr (ci, fs))) (hcat : (st.map fun v => v.category).sum ≤ 8) (hlen : (lg_sl [.ref b, v1, v2, v3, v4, v5]).length ≤ M'.2.2.1) (hc : mc' + kc' ≤ kc) (hs : ms' + ks' ≤ ks) (k : aw_W G M' d (aw_K (fun v J' => aw_W G M (d + 1) Q (pc + 3) L (v.toList ++ st) J' kc' ks') (fun E J' => aw_X G M (d + 1) Q pc L E J' kc' ks')) 0 (aw_ent [.ref b, v1, v2, v3, v4, v5] M'.2.2.1) [] J mc' ms') : aw_W G M (d + 1) Q pc L (v5 :: v4 :: v3 :: v2 :: v1 :: .ref b :: st) J kc ks := aw_callX (vs := [v1, v2, v3, v4, v5]) hd hS hJ rfl hcat hlen hc hs k
theorem aw_callSW {idx : Nat} (hd : decode M.2.1 pc = .ok (.invokestatic idx, 3)) (hS : aw_CSW M.1.cls idx M' vs.length) (hst : st0 = vs.reverse ++ st) (hcat : (st.map fun v => v.category).sum ≤ 8) (hlen : (lg_sl (vs)).length ≤ M'.2.2.1) (hc : mc' + kc' ≤ kc) (hs : ms' + ks' ≤ ks)
    (k : aw_W G M' d (aw_K (fun v J' => aw_W G M (d + 1) Q (pc + 3) L (v.toList ++ st) J' kc' ks') (fun _ _ => False)) 0 (aw_ent (vs) M'.2.2.1) [] J mc' ms') : aw_W G M (d + 1) Q pc L st0 J kc ks := by
  intro p e R s m args below meth c H ls locs cells slots mc ms A h
  obtain ⟨ws, hP, hD, hJw⟩ := h.2.2.2.1
  obtain ⟨hB, hsta, hli⟩ := hS
  have hini := hB.2.2.2.1
  have hrf : aw_fr d + 1 ≤ R.frames := by have := h.2.1.1; unfold aw_fr at *; omega
  have hrl : 8 + (M'.2.2.1 + 11) + aw_lo d ≤ R.locals := by have := h.2.1.2.1; have := hB.2.1; unfold aw_lo at *; omega
  have hfit : cells + mc' ≤ R.cells ∧ slots + ms' ≤ R.slots := by have := h.2.1.2.2; omega
  have hM := aw_metW (ws := ws) (sz := H.size) hB.1 hlen h.off hJw k
  have hgw : ∀ w ∈ aw_wsW M', w ∈ aw_TB := fun w hw => by
    rcases List.mem_cons.mp hw with rfl | hw
    · exact hB.2.2.1
    · exact hw
  refine aw_after (ws := ws) (aw_ofRun (vx_runSW (hh := M'.2.2.2.2) (rm := aw_rm d mc' ms') (bytes := M'.2.1) (maxL := M'.2.2.1) (ret := M'.2.2.2.1) (As := vs) (rest := st) ⟨h.x, h.b, h.ml, h.own, h.ts⟩ (aw_plain hM aw_noX) (vx_cwSW vs.length h.ts (aw_gin (fun w hw => by
      rcases List.mem_append.mp hw with hw | hw
      · simp only [List.mem_cons, List.not_mem_nil, or_false] at hw
        rcases hw with rfl | rfl | rfl <;> assumption
      · exact hgw w hw)) rfl rfl rfl hB.2.2.2.2 ⟨hrf, hrl⟩) ⟨aw_blind, aw_pre h hP hD⟩ rfl rfl h.sz hst (by show 2 * 0 + _ ≤ 8; omega) hd hfit)) h hD (fun v J' hQ => hQ) (fun E J' hQ => hQ.elim) hc hs
end AWXC

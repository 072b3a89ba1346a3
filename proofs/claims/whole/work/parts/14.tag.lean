/-! array classes of different types are different -/
def aw_nmt (i : Nat) : String := match i with
  | 3 => "ScopeTree$Archive"
  | 4 => "ScopeTree$Scope"
  | 5 => "ScopeTree$Loader"
  | 6 => "ScopeTree$Type"
  | 7 => "ScopeTree$ClassFile"
  | _ => "ScopeTree$Descriptor"
theorem aw_nmt_t (G : aw_G) {i : Nat} (h1 : 3 ≤ i) (h2 : i < 9) : (aw_tys G)[i]? = some (G.2.2.1 i, .object (aw_nmt i)) := by
  have : i = 3 ∨ i = 4 ∨ i = 5 ∨ i = 6 ∨ i = 7 ∨ i = 8 := by omega
  rcases this with rfl | rfl | rfl | rfl | rfl | rfl <;> rfl
theorem aw_nmt_i {i j : Nat} (h1 : 3 ≤ i) (h2 : i < 9) (h3 : 3 ≤ j) (h4 : j < 9) (h : aw_nmt i = aw_nmt j) : i = j := by
  have a : i = 3 ∨ i = 4 ∨ i = 5 ∨ i = 6 ∨ i = 7 ∨ i = 8 := by omega
  have b : j = 3 ∨ j = 4 ∨ j = 5 ∨ j = 6 ∨ j = 7 ∨ j = 8 := by omega
  rcases a with rfl | rfl | rfl | rfl | rfl | rfl <;> rcases b with rfl | rfl | rfl | rfl | rfl | rfl <;> first | rfl | exact absurd h (by decide +kernel)
/-- the tags of the arrays of references are told apart -/
def aw_tg (G : aw_G) : Prop := ∀ i j, 3 ≤ i → i < 9 → 3 ≤ j → j < 9 → G.2.2.1 i = G.2.2.1 j → i = j
theorem aw_tags {G : aw_G} {M : aw_M} {d : Nat} {Q : aw_O → aw_J → Prop} {pc : Nat} {L : List (Option Value)} {st : List Value} {J : aw_J} {kc ks : Nat} (k : aw_tg G → aw_W G M d Q pc L st J kc ks) : aw_W G M d Q pc L st J kc ks := by
  intro p e R s m args below meth c H ls locs cells slots mc ms A h
  refine k (fun i j h1 h2 h3 h4 he => ?_) p e R s m args below meth c H ls locs cells slots mc ms A h
  have K := h.K
  obtain ⟨kA, cA, a1, a2, -, -⟩ := (K.2 i _ (aw_nmt_t G h1 h2)).2
  obtain ⟨kB, cB, b1, b2, -, -⟩ := (K.2 j _ (aw_nmt_t G h3 h4)).2
  have a1 : s.vm.classes[G.2.2.1 i]? = some kA := a1
  have b1 : s.vm.classes[G.2.2.1 j]? = some kB := b1
  rw [he, b1] at a1
  cases a1
  have e2 := a2.symm.trans b2
  injection e2 with _ e3
  injection e3 with e4
  exact aw_nmt_i h1 h2 h3 h4 e4
theorem aw_ens {G : aw_G} {M : aw_M} {d : Nat} {Q : aw_O → aw_J → Prop} {pc : Nat} {L : List (Option Value)} {st : List Value} {J : aw_J} {kc ks : Nat} (k : (∀ i j, i < 3 → j < 3 → G.2.2.2.1 i = G.2.2.2.1 j → i = j) → aw_W G M d Q pc L st J kc ks) : aw_W G M d Q pc L st J kc ks := by
  intro p e R s m args below meth c H ls locs cells slots mc ms A h
  exact k (fun i j hi hj he => h.Z.1.2 i j hi hj he) p e R s m args below meth c H ls locs cells slots mc ms A h
theorem aw_aretA {G : aw_G} {M : aw_M} {d : Nat} {Q : aw_O → aw_J → Prop} {pc : Nat} {L : List (Option Value)} {J : aw_J} {kc ks : Nat} {v : Value} {C : FieldType} (hd : decode M.2.1 pc = .ok (.areturn, 1)) (hr : M.2.2.2.1 = some (.array C)) (hv : v = .null ∨ ∃ a : Nat, v = .ref a) (hq : Q (.inl (some v)) J) : aw_W G M d Q pc L [v] J kc ks := by
  intro p e R s m args below meth c H ls locs cells slots mc ms A h
  have hq2 : ∀ t : State, t.heap = H → s.WarmedH t.vm → aw_Qc G Q A args s (.returned (some v)) t := fun t ht _ => ⟨_, J, rfl, hq, by rw [ht]; exact h.2.2.2.1, h.2.2.2.2.F ht⟩
  refine W.widen (k := mc) (n := ms) (by have := h.2.1.2.2.1; omega) (by have := h.2.1.2.2.2.2.1; omega) (vx_ret ?_)
  exact W.aret h.1.1 h.1.2.1 (h.1.2.2.2.1.trans hr) (Or.inr ⟨_, rfl⟩) hv hq2 h.2.2.2.2.2.2 hd h.1.2.2.2.2.1

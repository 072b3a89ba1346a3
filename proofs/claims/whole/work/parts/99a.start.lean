/-! the start: what the Statement gives makes aw_T and aw_Z -/
def R_law : String := "ScopeTreeLaw"
def lw_At (p : Program) (s : State) (m : MethodId) (meth : Method) (c : Code) (b L : Nat) (xs : Nat → Int32) : Prop :=
  p.tables.exec = Jvm.exec ∧ c.code = code ∧ meth.sig.returnType = ret ∧ c.maxLocals = 7 ∧ s.vm.findClass R_law = some m.cls ∧ (∀ w ∈ lw_tbl, w.before #[Value.ref b] s = true) ∧ va_X b L xs s s.heap ∧ b < s.heap.size ∧ meth.locks = false ∧ (Jvm.Cond.and given_1 narrow_1).before #[Value.ref b] s = true
theorem sa_eqT {args : Array Value} {s : State} {t : Term} {z : Int32} (h : (Cond.eq t (.int z)).before args s = true) : t.eval args s none [] s = some (.int z) := by
  cases hv : t.eval args s none [] s with
  | none => simp [Cond.before, Cond.holds, Cond.value, hv] at h
  | some w =>
    have hz : (Term.int z).eval args s none [] s = some (.int z) := rfl
    simp only [Cond.before, Cond.holds, Cond.value, hv, hz] at h
    cases w <;> simp_all
theorem sa_prim {args : Array Value} {s : State} {ty : FieldType} (hp : ∀ C, ty ≠ .object C) (h : (Cond.arrayClass ty).before args s = true) : ∃ cA : ClassId, ArrOfT s cA ty ∧ va_RA s cA ty := by
  obtain ⟨cA, kA, comp, h1, h2, h3⟩ := Cond.arrayClass_spec (args := args) (first := s) (o := none) (s := s) (idx := []) h
  refine ⟨cA, fun n z => ⟨fun k h => (by cases h), kA, h2, comp, h3⟩, ?_⟩
  cases ty <;> first | exact h1 | exact absurd rfl (hp _)
theorem sa_obj {args : Array Value} {s : State} {C : String} (h : (Cond.arrayOver (.object C)).before args s = true) : ∃ cA : ClassId, ArrOfT s cA (.object C) ∧ va_RA s cA (.object C) := by
  obtain ⟨comp, cA, kA, h1, -, h2, h3, h4⟩ := Cond.arrayOver_spec (args := args) (first := s) (o := none) (s := s) (idx := []) h
  exact ⟨cA, fun n z => ⟨fun k h => (by cases h), kA, h2, comp, h3⟩, kA, comp, h2, h3, h1, h4⟩
def sa_fl : List Cond := flatC (Jvm.Cond.and given_1 narrow_1)
set_option maxRecDepth 100000 in
theorem sa_sb : ∀ q ∈ aw_SB, Cond.stringRef q.1 q.2.1 q.2.2 ∈ lw_tbl ∧ Cond.exactly (.string q.1 q.2.1) "java/lang/String" ∈ sa_fl := by decide +kernel
set_option maxRecDepth 100000 in
theorem sa_nc : ∀ q ∈ aw_NC, Cond.not (.castable q.1 q.2) ∈ sa_fl := by decide +kernel
set_option maxRecDepth 100000 in
theorem sa_en : ∀ i, i < 3 → Cond.exactly (.static "ScopeTree$State" (aw_en.getD i "") "LScopeTree$State;") "ScopeTree$State" ∈ sa_fl ∧ Cond.eq (.field (.static "ScopeTree$State" (aw_en.getD i "") "LScopeTree$State;") "java/lang/Enum" "ordinal" "I") (.int (Int32.ofNat i)) ∈ sa_fl := by decide +kernel
set_option maxRecDepth 100000 in
theorem sa_ref : Cond.isRef (.static "java/lang/Throwable" "UNASSIGNED_STACK" "[Ljava/lang/StackTraceElement;") ∈ sa_fl ∧ Cond.isRef (.static "java/lang/Throwable" "SUPPRESSED_SENTINEL" "Ljava/util/List;") ∈ sa_fl := by decide +kernel
theorem sa_ls (i : Nat) (hi : i < 3) : Cond.laysStatic "ScopeTree$State" (aw_en.getD i "") "LScopeTree$State;" ∈ lw_tbl := by
  match i, hi with
  | 0, _ => exact stE_0
  | 1, _ => exact stE_1
  | 2, _ => exact stE_2
theorem sa_onT {w : Cond} (h : aw_nw w = true) : w.onTables = true := by
  cases w <;> first | rfl | (simp [aw_nw] at h)
theorem sa_cl {s : State} {args : Array Value} (hts : ∀ w ∈ aw_TB, w.before args s = true) (c : Nat) : ∃ (cC : ClassId) (iS : Nat → Nat), ∀ q, aw_cl[c]? = some q → u_Kn s q.1 q.2.1 q.2.2 cC iS := by
  have key : ∀ (C : String) (T : u_T) (N : Nat), aw_cl[c]? = some (C, T, N) → (∀ w ∈ u_ws C T N, w ∈ aw_TB) → Cond.instantiable C N ∈ aw_TB → ∃ (cC : ClassId) (iS : Nat → Nat), ∀ q, aw_cl[c]? = some q → u_Kn s q.1 q.2.1 q.2.2 cC iS := by
    intro C T N h0 h1 h2
    obtain ⟨cC, iS, h⟩ := u_known hts h1 (hts _ h2)
    exact ⟨cC, iS, fun q hq => by cases h0.symm.trans hq; exact h⟩
  match c with
  | 0 => exact key _ _ _ rfl in_A stC_A
  | 1 => exact key _ _ _ rfl in_C stC_C
  | 2 => exact key _ _ _ rfl in_D stC_D
  | 3 => exact key _ _ _ rfl in_F stC_F
  | 4 => exact key _ _ _ rfl in_L stC_L
  | 5 => exact key _ _ _ rfl in_P stC_P
  | 6 => exact key _ _ _ rfl in_S stC_S
  | 7 => exact key _ _ _ rfl in_Y stC_Y
  | 8 => exact key _ _ _ rfl in_T stC_T
  | 9 => exact key _ _ _ rfl in_M stC_M
  | n + 10 => exact ⟨0, fun _ => 0, fun q hq => by cases hq⟩
def sa_ty : List FieldType := [.int, .boolean, .long, .object "ScopeTree$Archive", .object "ScopeTree$Scope", .object "ScopeTree$Loader", .object "ScopeTree$Type", .object "ScopeTree$ClassFile", .object "ScopeTree$Descriptor"]
theorem sa_arr {s : State} {args : Array Value} (hts : ∀ w ∈ lw_tbl, w.before args s = true) (htb : ∀ w ∈ aw_TB, w.before args s = true) (t : Nat) : ∃ cA : ClassId, ∀ ty, sa_ty[t]? = some ty → ArrOfT s cA ty ∧ va_RA s cA ty := by
  have key : ∀ ty0, sa_ty[t]? = some ty0 → (∃ cA : ClassId, ArrOfT s cA ty0 ∧ va_RA s cA ty0) → ∃ cA : ClassId, ∀ ty, sa_ty[t]? = some ty → ArrOfT s cA ty ∧ va_RA s cA ty := by
    intro ty0 h0 ⟨cA, h⟩
    exact ⟨cA, fun ty hty => by cases h0.symm.trans hty; exact h⟩
  match t with
  | 0 => exact key _ rfl (sa_prim (fun _ h => by cases h) (htb _ wP_I))
  | 1 => exact key _ rfl (sa_prim (fun _ h => by cases h) (htb _ wP_Z))
  | 2 => exact key _ rfl (sa_prim (fun _ h => by cases h) (htb _ wP_J))
  | 3 => exact key _ rfl (sa_obj (hts _ stA_0))
  | 4 => exact key _ rfl (sa_obj (hts _ stA_1))
  | 5 => exact key _ rfl (sa_obj (hts _ stA_2))
  | 6 => exact key _ rfl (sa_obj (hts _ stA_3))
  | 7 => exact key _ rfl (sa_obj (hts _ stA_4))
  | 8 => exact key _ rfl (sa_obj (hts _ stA_5))
  | n + 9 => exact ⟨0, fun ty hty => by cases hty⟩
theorem sa_tys (G : aw_G) : ∀ (k : Nat) (q : ClassId × FieldType), (aw_tys G)[k]? = some q → q.1 = G.2.2.1 k ∧ sa_ty[k]? = some q.2 := by
  intro k q h
  match k with
  | 0 => cases h; exact ⟨rfl, rfl⟩
  | 1 => cases h; exact ⟨rfl, rfl⟩
  | 2 => cases h; exact ⟨rfl, rfl⟩
  | 3 => cases h; exact ⟨rfl, rfl⟩
  | 4 => cases h; exact ⟨rfl, rfl⟩
  | 5 => cases h; exact ⟨rfl, rfl⟩
  | 6 => cases h; exact ⟨rfl, rfl⟩
  | 7 => cases h; exact ⟨rfl, rfl⟩
  | 8 => cases h; exact ⟨rfl, rfl⟩
  | n + 9 => cases h
theorem sa_G {p : Program} {s : State} {m : MethodId} {meth : Method} {c : Code} (l : Launch) {b L : Nat} {xs : Nat → Int32} (C0 : lw_At p s m meth c b L xs) :
    ∃ (D : va_G) (ca : Nat → ClassId) (ec : Nat → Nat), aw_T (l, D, ca, ec, b, L, xs) s ∧ aw_Z (l, D, ca, ec, b, L, xs) (fun q => s.heap.size ≤ q) s s.heap := by
  obtain ⟨-, -, -, -, -, hts, hX, hbl, -, hgv⟩ := C0
  have hs : ∀ w ∈ sa_fl, w.before #[Value.ref b] s = true := flat_of_before _ hgv
  have htb : ∀ w ∈ aw_TB, w.before #[Value.ref b] s = true := fun w hw => hts w (List.mem_filter.mp hw).1
  have hA : ∀ a : Nat, a < s.heap.size → ¬ s.heap.size ≤ a := fun a h => Nat.not_le.mpr h
  have hen : ∀ i, ∃ a : Nat, i < 3 → (Term.static "ScopeTree$State" (aw_en.getD i "") "LScopeTree$State;").eval #[Value.ref b] s none [] s = some (.ref a) := by
    intro i
    by_cases hi : i < 3
    · obtain ⟨a, -, -, -, h, -⟩ := Cond.exactly_spec (args := #[Value.ref b]) (first := s) (o := none) (s := s) (idx := []) (hs _ (sa_en i hi).1)
      exact ⟨a, fun _ => h⟩
    · exact ⟨0, fun h => absurd h hi⟩
  refine ⟨(fun k => (sa_cl htb k).choose, fun k => (sa_cl htb k).choose_spec.choose), fun t => (sa_arr hts htb t).choose, fun i => (hen i).choose, ⟨fun w hw => ?_, ⟨fun k q hq => ?_, fun k q hk => ?_⟩, ?_, fun q hq => ?_, fun q hq => ?_⟩, ⟨⟨fun i hi => ?_, fun i j hi hj hij => ?_⟩, ?_, ?_, hX, hbl, hA _ hbl⟩⟩
  · exact va_Nw.of (sa_onT (aw_NB_nw w hw)) (hts w (List.mem_filter.mp hw).1)
  · exact (sa_cl htb k).choose_spec.choose_spec q hq
  · obtain ⟨e1, e2⟩ := sa_tys _ k q hk
    rw [e1]
    exact (sa_arr hts htb k).choose_spec q.2 e2
  · intro C hC
    simp only [aw_AO, List.mem_cons, List.not_mem_nil, or_false] at hC
    rcases hC with rfl | rfl | rfl | rfl | rfl | rfl
    · exact va_AO.of (hts _ stA_0)
    · exact va_AO.of (hts _ stA_1)
    · exact va_AO.of (hts _ stA_2)
    · exact va_AO.of (hts _ stA_3)
    · exact va_AO.of (hts _ stA_4)
    · exact va_AO.of (hts _ stA_5)
  · obtain ⟨a, -, -, -, h, -⟩ := Cond.exactly_spec (args := #[Value.ref b]) (first := s) (o := none) (s := s) (idx := []) (hs _ (sa_sb q hq).2)
    exact ⟨a, vk_R.of (hts _ (sa_sb q hq).1) h⟩
  · exact va_Nc.of (hs _ (sa_nc q hq))
  · have hv := (hen i).choose_spec hi
    exact ⟨va_Zof (hts _ (sa_ls i hi)) (htb _ stIS) hv hA, va_Oof (hs _ (sa_en i hi).1) hv hA, fun q hq => by cases hq⟩
  · have h1 := (hen i).choose_spec hi
    have h2 := (hen j).choose_spec hj
    have o1 := sa_eqT (hs _ (sa_en i hi).2)
    have o2 := sa_eqT (hs _ (sa_en j hj).2)
    rw [va_fe h1] at o1
    rw [va_fe h2] at o2
    have hij2 : (hen i).choose = (hen j).choose := hij
    rw [hij2] at o1
    have e := Value.int.inj (Option.some.inj (o1.symm.trans o2))
    have hi2 : i < 3 := hi
    have hj2 : j < 3 := hj
    match i, hi2, j, hj2 with
    | 0, _, 0, _ => rfl
    | 1, _, 1, _ => rfl
    | 2, _, 2, _ => rfl
    | 0, _, 1, _ => exact absurd e (by decide)
    | 0, _, 2, _ => exact absurd e (by decide)
    | 1, _, 0, _ => exact absurd e (by decide)
    | 1, _, 2, _ => exact absurd e (by decide)
    | 2, _, 0, _ => exact absurd e (by decide)
    | 2, _, 1, _ => exact absurd e (by decide)
  · exact vx_Zqof (hts _ stU) (htb _ stIT) (hs _ sa_ref.1) hA
  · exact vx_Zqof (hts _ stN) (htb _ stIT) (hs _ sa_ref.2) hA

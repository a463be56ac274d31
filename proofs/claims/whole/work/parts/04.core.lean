/-! THE PURE MACHINE: a heap is a function from addresses to cells; a method's walk speaks of it alone -/
abbrev zC : Type := (Nat × vp_A) ⊕ (Nat × List Value)
abbrev zH : Type := Nat → Option zC
abbrev zS : Type := zH × (Nat × Nat × Nat)
abbrev zL : Type := List (Option Value)
abbrev zE : Type := va_G × Nat × (Nat → ClassId) × (Nat → Nat) × (Nat → Nat) × Value
abbrev zP : Type := zS → Nat → zL → List Value → Prop
def z_at {α : Type} : List α → Nat → Option α
  | [], _ => none
  | a :: _, 0 => some a
  | _ :: l, n + 1 => z_at l n
def z_st {α : Type} : List α → Nat → α → List α
  | [], _, _ => []
  | _ :: l, 0, b => b :: l
  | a :: l, n + 1, b => a :: z_st l n b
theorem z_at_eq {α : Type} : ∀ (l : List α) (n : Nat), z_at l n = l[n]?
  | [], n => by simp [z_at]
  | a :: l, 0 => by simp [z_at]
  | a :: l, n + 1 => by simp [z_at, z_at_eq l n]
theorem z_st_eq {α : Type} : ∀ (l : List α) (n : Nat) (b : α), z_st l n b = l.set n b
  | [], n, b => by simp [z_st]
  | a :: l, 0, b => by simp [z_st]
  | a :: l, n + 1, b => by simp [z_st, z_st_eq l n b]
def z_up (M : zH) (a : Nat) (e : zC) : zH := fun b => if b = a then some e else M b
theorem z_up_s (M : zH) (a : Nat) (e : zC) : z_up M a e a = some e := by simp [z_up]
theorem z_up_n {M : zH} {a b : Nat} {e : zC} (h : b ≠ a) : z_up M a e b = M b := by simp [z_up, h]
def z_cv (E : zE) : zC → va_E
  | .inl q => .inl (E.2.2.1 q.1, q.2)
  | .inr o => .inr o
def z_tys (E : zE) : List (ClassId × FieldType) := [(E.2.2.1 0, .int), (E.2.2.1 1, .boolean), (E.2.2.1 2, .object "LaceWorks$Row"), (E.2.2.1 3, .object "LaceWorks$Works")]
def z_A (E : zE) : Nat → Prop := fun q => E.2.1 ≤ q
def z_R (E : zE) (M : zH) (z : Nat) (H : Heap) : Prop := H.size = z ∧ ∀ (a : Nat) (e : zC), M a = some e → z_A E a ∧ va_at E.1 vwCl (a, z_cv E e) H
def z_L (ls : Array Slot) (nL : Nat) (lv : zL) : Prop := ∃ l : List (Nat × Value), lv_has ls nL l ∧ (∀ q ∈ l, q.2.category = 1) ∧ lv.length = nL ∧ ∀ (i : Nat) (v : Value), z_at lv i = some (some v) → (i, v) ∈ l
theorem z_L.get {ls : Array Slot} {nL : Nat} {lv : zL} {i : Nat} {v : Value} (h : z_L ls nL lv) (hi : z_at lv i = some (some v)) : ls[i]? = some (.val v) := by
  obtain ⟨l, h1, -, -, h4⟩ := h
  exact h1.2.2 (i, v) (h4 i v hi)
theorem z_at_lt {α : Type} {l : List α} {i : Nat} {x : α} (h : z_at l i = some x) : i < l.length := by
  rw [z_at_eq] at h
  exact (List.getElem?_eq_some_iff.mp h).1
theorem z_L.put {ls : Array Slot} {nL : Nat} {lv : zL} {i : Nat} {v : Value} {l : List (Nat × Value)} (h2 : ∀ q ∈ l, q.2.category = 1) (h3 : lv.length = nL) (h4 : ∀ (i : Nat) (v : Value), z_at lv i = some (some v) → (i, v) ∈ l) (hc : v.category = 1)
    (h : lv_has ls nL ((i, v) :: l.filter (fun q => !(q.1 == i) && !(q.1 + 1 == i && q.2.category == 2)))) : z_L ls nL (z_st lv i (some v)) := by
  refine ⟨_, h, ?_, by rw [z_st_eq, List.length_set]; exact h3, ?_⟩
  · intro q hq
    rcases List.mem_cons.mp hq with rfl | hq
    · exact hc
    · exact h2 q (List.mem_filter.mp hq).1
  · intro j w hj
    rw [z_at_eq, z_st_eq] at hj
    by_cases hji : i = j
    · subst hji
      rw [List.getElem?_set_self' ] at hj
      cases h5 : lv[i]? with
      | none => rw [h5] at hj; cases hj
      | some x => rw [h5] at hj; cases hj; exact List.mem_cons_self
    · rw [List.getElem?_set_ne hji] at hj
      have h6 := h4 j w (by rw [z_at_eq]; exact hj)
      refine List.mem_cons_of_mem _ (List.mem_filter.mpr ⟨h6, ?_⟩)
      have h7 := h2 _ h6
      have hne : ¬ j = i := fun e => hji e.symm
      dsimp only at h7
      simp [hne, h7]
def z_gw : List Cond := lw_tbl.filter goodWord
theorem z_gw_good : ∀ w ∈ z_gw, (w.onTables && w.keeps) = true ∨ ∃ ty, w = .arrayClass ty := fun w h => good_of_word (List.mem_filter.mp h).2
/-- what the statement gives beside the tables: links between nest mates, the text of the five signs, two statics -/
def z_sK (E : zE) (i : Nat) : Nat := E.2.2.2.1 i
def z_sV (E : zE) (i : Nat) : Nat := E.2.2.2.2.1 i
def z_qf (E : zE) : Value := E.2.2.2.2.2
def z_Str (E : zE) (U : State) : Prop := vk_S 1 [5] [[67, 68, 84, 85, 80]] (z_sK E) (z_sV E) (z_A E) U U.heap ∧ vk_R "LaceWorks$Reader" 37 "CDTUP" (z_sK E 0) U ∧ vk_R "LaceWorks" 181 "CDTUP" (z_sK E 0) U ∧ va_Z "java/lang/String" "COMPACT_STRINGS" "Z" (.int 1) (z_A E) U U.heap ∧ va_Z "jdk/internal/util/Preconditions" "SIOOBE_FORMATTER" "Ljava/util/function/BiFunction;" (z_qf E) (z_A E) U U.heap ∧ (z_qf E = .null ∨ ∃ a, z_qf E = .ref a) ∧ va_AO "LaceWorks$Row" U ∧ va_AO "LaceWorks$Works" U
def z_N (E : zE) (U : State) : Prop := (∀ w ∈ z_nw, va_Nw w U) ∧ z_Str E U
theorem z_Nmove {E : zE} {s U : State} {locs : List Loc} (h : z_N E s) (hW : s.WarmedH U.vm) (hS : va_S (z_A E) s.heap U.heap locs) : z_N E U := by
  obtain ⟨h1, h2, h3, h4, h5, h6, h7, h8, h9⟩ := h
  refine ⟨fun w hw => ?_, (h2.moved hW.alike).kept hS.2.1, h3.warm hW, h4.warm hW, (h5.moved hW.alike).kept hS.2.1, (h6.moved hW.alike).kept hS.2.1, h7, h8.moved hW.alike, h9.moved hW.alike⟩
  have h8 := h1 w hw
  simp only [z_nw, List.mem_cons, List.not_mem_nil, or_false] at hw
  rcases hw with rfl | rfl | rfl | rfl <;> exact h8.warmM hW
def z_U (E : zE) (M : zH) (z : Nat) (U : State) : Prop := E.2.1 ≤ U.heap.size ∧ z_R E M z U.heap ∧ va_K E.1 vwCl (z_tys E) U ∧ z_N E U
def z_Qc (E : zE) (post : Option Value → zH → Nat → Prop) : Array Value → State → Outcome → State → Prop := fun _ st o t => (∃ (r : Option Value) (M' : zH) (z' : Nat), o = .returned r ∧ post r M' z' ∧ z_R E M' z' t.heap) ∧ va_F (z_A E) st t
def z_rm (d mc ms : Nat) : Room := { frames := d, cells := mc, slots := ms, locals := 60 * d }
def z_ws (nm : MethodName) (cc : ByteArray) (nL : Nat) (rt : Option FieldType) : List Cond := .code nm cc nL rt :: z_gw
/-- A CONTRACT: called with these arguments over this heap, the method returns, and its answer and the heap behind it are as 'post' says -/
def z_Ct (l : Launch) (E : zE) (d : Nat) (nm : MethodName) (cc : ByteArray) (nL : Nat) (rt : Option FieldType) (as : List Value) (M : zH) (z mc ms : Nat) (post : Option Value → zH → Nat → Prop) : Prop :=
  Met l nm (z_ws nm cc nL rt) (z_rm d mc ms) (va_Pc as (z_U E M z)) (z_Qc E post) mc ms (z_A E)
def z_W (p : Program) (l : Launch) (e : Env) (R : Room) (s : State) (m : MethodId) (args : Array Value) (below : List Frame) (meth : Method) (c : Code) (E : zE) (nL : Nat) (Q : State → Prop) : zP := fun S pc lv st =>
  ∀ (H : Heap) (locs : List Loc) (ls : Array Slot), z_R E S.1 S.2.1 H → va_S (z_A E) s.heap H locs → z_L ls nL lv → W p l e R s m args below meth c H locs S.2.2.1 S.2.2.2 Q (F0 m pc ls st)
def z_C (p : Program) (s : State) (m : MethodId) (args : Array Value) (meth : Method) (c : Code) (E : zE) (cn : Nat) (cc : ByteArray) (nL : Nat) (rt : Option FieldType) (ini : Bool) : Prop :=
  p.tables.exec = Jvm.exec ∧ c.code = cc ∧ c.maxLocals = nL ∧ meth.sig.returnType = rt ∧ s.vm.findClass (z_own cn) = some m.cls ∧ (∀ w ∈ z_gw, w.before args s = true) ∧ meth.locks = false ∧ (ini = true → meth.name = "<init>") ∧ va_K E.1 vwCl (z_tys E) s ∧ z_N E s ∧ E.2.1 ≤ s.heap.size
/-- the walk of one method: P is its judgement, Kr what must hold where it returns -/
def z_OK (P : zP) (l : Launch) (E : zE) (R : Room) (cn : Nat) (cc : ByteArray) (nL : Nat) (rt : Option FieldType) (ini : Bool) (Kr : Option Value → zS → Prop) : Prop :=
  ∃ (p : Program) (e : Env) (s : State) (m : MethodId) (args : Array Value) (below : List Frame) (meth : Method) (c : Code) (Q : State → Prop), P = z_W p l e R s m args below meth c E nL Q ∧ z_C p s m args meth c E cn cc nL rt ini ∧ ∀ (v : Option Value) (S : zS), Kr v S → ∃ (post : Option Value → zH → Nat → Prop) (mc ms : Nat), Q = MQ below (z_Qc E post) args s mc ms (z_A E) ∧ S.2.2.1 ≤ mc ∧ S.2.2.2 ≤ ms ∧ post v S.1 S.2.1
def z_Kr (mc ms : Nat) (post : Option Value → zH → Nat → Prop) : Option Value → zS → Prop := fun v S => S.2.2.1 ≤ mc ∧ S.2.2.2 ≤ ms ∧ post v S.1 S.2.1
def z_lv (as : List Value) (n : Nat) : zL := as.map some ++ List.replicate (n - as.length) none
theorem z_args : ∀ (vs : List Value) (k : Nat), (∀ v ∈ vs, v.category = 1) → (∀ q ∈ lv_args k vs, q.2.category = 1) ∧ ∀ (i : Nat) (v : Value), vs[i]? = some v → (k + i, v) ∈ lv_args k vs
  | [], k, _ => ⟨fun q h => (by simp [lv_args] at h), fun i v h => by simp at h⟩
  | a :: vs, k, hc => by
    have ha : a.category = 1 := hc a List.mem_cons_self
    obtain ⟨h1, h2⟩ := z_args vs (k + 1) (fun v hv => hc v (List.mem_cons_of_mem _ hv))
    refine ⟨fun q hq => ?_, fun i v h => ?_⟩
    · simp only [lv_args, ha] at hq
      rcases List.mem_cons.mp hq with rfl | hq
      · exact ha
      · exact h1 q hq
    · simp only [lv_args, ha]
      cases i with
      | zero => simp at h; subst h; simp
      | succ i =>
        rw [List.getElem?_cons_succ] at h
        have h3 := h2 i v h
        rw [show k + 1 + i = k + (i + 1) by omega] at h3
        exact List.mem_cons_of_mem _ h3
theorem z_sl_len : ∀ (vs : List Value), (∀ v ∈ vs, v.category = 1) → (lg_sl vs).length = vs.length
  | [], _ => by simp [lg_sl]
  | a :: vs, hc => by
    have ha : a.category = 1 := hc a List.mem_cons_self
    have h2 := z_sl_len vs (fun v hv => hc v (List.mem_cons_of_mem _ hv))
    simp only [lg_sl] at h2 ⊢
    simp [h2, ha]
theorem z_ct {l : Launch} {E : zE} {d : Nat} {nm : MethodName} {cc : ByteArray} {nL : Nat} {rt : Option FieldType} {as : List Value} {M : zH} {z mc ms : Nat} {post : Option Value → zH → Nat → Prop} (cn : Nat) (ini : Bool) (hy : plainName nm.cls = true) (hcn : nm.cls = z_own cn) (hini : ini = true → nm.name = "<init>") (hc : ∀ v ∈ as, v.category = 1) (hn : as.length ≤ nL)
    (h : ∀ P : zP, z_OK P l E (z_rm d mc ms) cn cc nL rt ini (z_Kr mc ms post) → P (M, z, 0, 0) 0 (z_lv as nL) []) : z_Ct l E d nm cc nL rt as M z mc ms post := by
  refine Met.ofW (cc := cc) (maxL := nL) (ret := rt) hy rfl ?_
  intro p e s m args below meth c s₁ B hml hv
  obtain ⟨rfl, h1, h2, h3, h4⟩ := hv
  have hts := atoms_spec (ws := z_ws nm cc nL rt) B.pre
  have hown : s.vm.findClass nm.cls = some m.cls := findClass_of_methodNamed B.named
  have hl := lv_entry as (n := nL) (by rw [z_sl_len as hc]; exact hn)
  rw [lg_entry_eq]
  refine h (z_W p l e (z_rm d mc ms) s m as.toArray below meth c E nL (MQ below (z_Qc E post) as.toArray s mc ms (z_A E))) ⟨p, e, s, m, as.toArray, below, meth, c, _, rfl, ⟨B.exec, B.bytes, hml, B.returns, by rw [← hcn]; exact hown, fun w hw => hts w (List.mem_cons_of_mem _ hw), B.notSynchronized, fun hi => (name_of_methodNamed B.named B.method).1.trans (hini hi), h3, h4, h1⟩, fun v S hk => ⟨post, mc, ms, rfl, hk.1, hk.2.1, hk.2.2⟩⟩ s.heap [] _ h2 va_S.rf ?_
  obtain ⟨g1, g2⟩ := z_args as 0 hc
  refine ⟨_, hl, g1, by simp [z_lv]; omega, fun i v hi => ?_⟩
  rw [z_at_eq, z_lv] at hi
  by_cases hlt : i < as.length
  · rw [List.getElem?_append_left (by simpa using hlt), List.getElem?_map] at hi
    cases h5 : as[i]? with
    | none => rw [h5] at hi; cases hi
    | some w9 =>
      rw [h5] at hi
      cases hi
      have h6 := g2 i v h5
      rwa [Nat.zero_add] at h6
  · rw [List.getElem?_append_right (by simp; omega), List.getElem?_replicate] at hi
    split at hi <;> simp at hi
/-! fields -/
def z_fld (cn idx : Nat) : Option (Nat × Nat) := (z_fl.find? (fun q => q.1 == cn && q.2.1 == idx)).map (fun q => q.2.2)
def z_fin (ci k : Nat) : Bool := match z_at vwCl ci with
  | some q => (q.2.1 k).2.2.2
  | none => true
def z_fit (cn : Nat) (ini : Bool) (ci k : Nat) (v : Value) : Prop := narrow (z_ty ci k) v = v ∧ fits (z_ty ci k) v = true ∧ (z_fin ci k = true → ini = true ∧ cn = ci)
def z_bo (x : Int32) : Prop := narrow .boolean (.int x) = .int x ∧ fits .boolean (.int x) = true
def z_flp (q : Nat × Nat × Nat × Nat) : Bool := match z_at vwCl q.2.2.1 with
  | some r => decide (q.2.2.2 < r.2.2) && decide (Cond.fieldLink (z_own q.1) q.2.1 (r.2.1 q.2.2.2).1 (r.2.1 q.2.2.2).2.1 (r.2.1 q.2.2.2).2.2.1 ∈ z_gw) && decide ((r.2.1 q.2.2.2).1 = z_own q.2.2.1)
  | none => false
set_option maxRecDepth 100000 in
theorem z_fl_ok : ∀ q ∈ z_fl, z_flp q = true := by decide +kernel
theorem z_fld_ok {cn idx ci k : Nat} (h : z_fld cn idx = some (ci, k)) : ∃ r, z_at vwCl ci = some r ∧ k < r.2.2 ∧ Cond.fieldLink (z_own cn) idx (r.2.1 k).1 (r.2.1 k).2.1 (r.2.1 k).2.2.1 ∈ z_gw ∧ (r.2.1 k).1 = z_own ci := by
  unfold z_fld at h
  cases h1 : z_fl.find? (fun q => q.1 == cn && q.2.1 == idx) with
  | none => rw [h1] at h; cases h
  | some q =>
    rw [h1] at h
    obtain ⟨a, b, c, e⟩ := q
    simp only [Option.map_some, Option.some.injEq, Prod.mk.injEq] at h
    obtain ⟨rfl, rfl⟩ := h
    have h2 := List.find?_some h1
    simp only [Bool.and_eq_true, beq_iff_eq] at h2
    obtain ⟨rfl, rfl⟩ := h2
    have h3 := z_fl_ok _ (List.mem_of_find?_eq_some h1)
    unfold z_flp at h3
    dsimp only at h3
    cases h4 : z_at vwCl c with
    | none => rw [h4] at h3; cases h3
    | some r =>
      rw [h4] at h3
      simp only [Bool.and_eq_true, decide_eq_true_eq] at h3
      exact ⟨r, rfl, h3.1.1, h3.1.2, h3.2⟩
def z_clp (ci : Nat) (r : vw_C) : Prop := (∀ w ∈ u_ws r.1 r.2.1 r.2.2, w ∈ z_gw) ∧ (∀ k, k < r.2.2 → parseFieldDescriptor (r.2.1 k).2.2.1 = some (z_ty ci k)) ∧ (∀ a, a < r.2.2 → ∀ b, b < r.2.2 → a ≠ b → (r.2.1 a).2.1 ≠ (r.2.1 b).2.1) ∧ r.1 = z_own ci
set_option maxRecDepth 100000 in
theorem z_cl_ok {ci : Nat} {r : vw_C} (h : z_at vwCl ci = some r) : z_clp ci r := by
  match ci, h with
  | 0, h => cases h; exact ⟨by decide +kernel, tyX0_ok, nmX0, rfl⟩
  | 1, h => cases h; exact ⟨by decide +kernel, tyX1_ok, nmX1, rfl⟩
  | 2, h => cases h; exact ⟨by decide +kernel, tyX2_ok, nmX2, rfl⟩
  | 3, h => cases h; exact ⟨by decide +kernel, tyX3_ok, nmX3, rfl⟩
  | 4, h => cases h; exact ⟨by decide +kernel, tyX4_ok, nmX4, rfl⟩
  | 5, h => cases h; exact ⟨by decide +kernel, tyX5_ok, nmX5, rfl⟩
  | 6, h => cases h; exact ⟨by decide +kernel, tyX6_ok, nmX6, rfl⟩
  | k + 7, h => simp [vwCl, z_at] at h
abbrev z_lk (cn idx : Nat) (nm : MethodName) (cc : ByteArray) (nL : Nat) (rt : Option FieldType) (n : Nat) (ws : List Cond) : Prop := (∀ w ∈ (Cond.methodLink (z_own cn) idx nm :: Cond.initialized nm.cls :: Cond.code nm cc nL rt :: ws), w ∈ z_gw) ∧ nm.cls ≠ "java/lang/invoke/MethodHandle" ∧ nm.cls ≠ "java/lang/invoke/VarHandle" ∧ (parseMethodDescriptor nm.desc).map (fun d => d.parameters.length) = some n ∧ nL ≤ 41
abbrev z_lkN (cn idx : Nat) (nm : MethodName) (cc' : ByteArray) (nL' : Nat) (rt' : Option FieldType) (n : Nat) (host : String) : Prop := Cond.methodLinkNest (z_own cn) idx nm host ∈ z_nw ∧ (Cond.static nm ∈ z_gw ∧ Cond.initialized nm.cls ∈ z_gw ∧ Cond.code nm cc' nL' rt' ∈ z_gw) ∧ nm.cls ≠ "java/lang/invoke/MethodHandle" ∧ nm.cls ≠ "java/lang/invoke/VarHandle" ∧ (parseMethodDescriptor nm.desc).map (fun d => d.parameters.length) = some n ∧ nL' ≤ 41

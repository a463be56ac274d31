/-! CALLS -/
theorem z_blind {E : zE} {as : List Value} {M : zH} {z : Nat} : FrameBlind (va_Pc as (z_U E M z)) := by
  intro a U g mk h
  obtain ⟨h0, h1, h2, h3, h4, g2, g3, g4, g5, g6, g7, g8, g9⟩ := h
  refine ⟨h0, h1, h2, va_K.moved (u := U) (U := U.calling g mk a) (Vm.Alike.refl U.vm) h3, fun w hw => ?_, g2.moved (U := U.calling g mk a) (Vm.Alike.refl U.vm), g3.same rfl, g4.same rfl, g5.moved (U := U.calling g mk a) (Vm.Alike.refl U.vm), g6.moved (U := U.calling g mk a) (Vm.Alike.refl U.vm), g7, g8.moved (U := U.calling g mk a) (Vm.Alike.refl U.vm), g9.moved (U := U.calling g mk a) (Vm.Alike.refl U.vm)⟩
  have h8 := h4 w hw
  simp only [z_nw, List.mem_cons, List.not_mem_nil, or_false] at hw
  rcases hw with rfl | rfl | rfl | rfl <;> exact va_Nw.same rfl rfl h8
theorem z_go {p : Program} {l : Launch} {e : Env} {R : Room} {s : State} {m : MethodId} {args : Array Value} {below : List Frame} {meth : Method} {c : Code} {H : Heap} {locs : List Loc} {cells slots mc ms : Nat} {Q : State → Prop} {pc : Nat} {ls : Array Slot} {rest st0 : List Value} {a : Array Value} {E : zE} {post : Option Value → zH → Nat → Prop}
    (hr : va_Run p l e R s m args below meth c H locs cells slots mc ms (F0 m pc ls st0) rest (z_Qc E post a) (z_A E)) (hS : va_S (z_A E) s.heap H locs)
    (kk : ∀ (r : Option Value) (M' : zH) (z' : Nat) (H1 : Heap) (locs1 : List Loc), post r M' z' → z_R E M' z' H1 → va_S (z_A E) s.heap H1 locs1 → W p l e R s m args below meth c H1 locs1 (cells + mc) (slots + ms) Q (F0 m (pc + 3) ls (r.toList ++ rest))) : W p l e R s m args below meth c H locs cells slots Q (F0 m pc ls st0) := by
  intro T hT X
  obtain ⟨v, st₀, t, T', L, h0, X', hL, e1, e2, ⟨⟨r, M', z', hv, hp, hb⟩, hz, hk⟩, st⟩ := hr T hT X
  cases hv
  rw [h0] at hz hk
  obtain ⟨t2, a1, b1⟩ := kk v M' z' T'.heap (locs ++ L) hp (by rw [e1]; exact hb)
    ⟨Nat.le_trans hS.1 (by rw [e1]; exact hz), fun q h1 h2 => by rw [e1, hk q (Nat.lt_of_lt_of_le h1 hS.1) h2]; exact hS.2.1 q h1 h2, fun q hq => by
      rcases List.mem_append.mp hq with h | h
      · exact hS.2.2 q h
      · exact hL q h⟩ T' rfl X'
  exact ⟨t2, st t2 a1, b1⟩
theorem z_callB {R : Room} {s : State} {args : Array Value} {cn idx : Nat} {nm : MethodName} {cc : ByteArray} {nL : Nat} {rt : Option FieldType} {n d mc ms : Nat} {w2 : List Cond} (hts : ∀ w ∈ z_gw, w.before args s = true) (hk : z_lk cn idx nm cc nL rt n w2) (hR : d + 1 ≤ R.frames ∧ 60 * d + 60 ≤ R.locals) : CallB R s args (z_own cn) idx nm cc nL rt (z_ws nm cc nL rt) (z_rm d mc ms) mc ms n := by
  obtain ⟨k1, k2, k3, k4, k5⟩ := hk
  refine callB_of n hts (fun w hw => ?_) rfl rfl rfl (hts _ (k1 _ (by simp))) (hts _ (k1 _ (by simp))) ⟨k2, k3, k4⟩ ⟨hR.1, ?_⟩
  · rcases List.mem_cons.mp hw with rfl | hw
    · have hm := k1 (.code nm cc nL rt) (by simp)
      exact ⟨hm, z_gw_good _ hm⟩
    · exact ⟨hw, z_gw_good _ hw⟩
  · show 8 + (nL + 11) + 60 * d ≤ R.locals
    omega
section ZCALL
variable {P : zP} {l : Launch} {E : zE} {R : Room} {cn : Nat} {cc : ByteArray} {nL : Nat} {rt : Option FieldType} {ini : Bool} {Kr : Option Value → zS → Prop} {S : zS} {pc : Nat} {lv : zL} {st : List Value} {idx : Nat} {nm : MethodName} {cc' : ByteArray} {nL' : Nat} {rt' : Option FieldType} {n b ci d mc ms : Nat} {as rest fs : List Value} {post : Option Value → zH → Nat → Prop}
set_option maxHeartbeats 4000000 in
theorem z_cV (C : z_OK P l E R cn cc nL rt ini Kr) (hd : decode cc pc = .ok (.invokevirtual idx, 3)) (hk : z_lk cn idx nm cc' nL' rt' n [.instanceMethod nm, .selects nm.cls nm nm]) (hc : z_Ct l E d nm cc' nL' rt' (.ref b :: as) S.1 S.2.1 mc ms post) (hst : st = as.reverse ++ .ref b :: rest) (hb : S.1 b = some (.inr (ci, fs))) (hcls : z_own ci = nm.cls) (hR : d + 1 ≤ R.frames ∧ 60 * d + 60 ≤ R.locals) (hm : S.2.2.1 + mc ≤ R.cells ∧ S.2.2.2 + ms ≤ R.slots) (hn : as.length = n) (hrest : (rest.map fun v => v.category).sum ≤ 8)
    (kk : ∀ (r : Option Value) (M' : zH) (z' : Nat), post r M' z' → P (M', z', S.2.2.1 + mc, S.2.2.2 + ms) (pc + 3) lv (r.toList ++ rest)) : P S pc lv st := by
  subst hst
  obtain ⟨p, e, s, m, args, below, meth, c, Q, rfl, ⟨hx, hcb, hml, hrt, hown, hts, hlocks, hini, hKK, hN, hsz⟩, hQ⟩ := C
  intro H locs ls hRR hS hl
  obtain ⟨l0, hl1, hl2, hl3, hl4⟩ := id hl
  obtain ⟨r9, hc9, cell, g1, g2, g3, -⟩ := (hRR.2 b _ hb).2
  have hcl := hKK.1 ci r9 hc9
  have hnm : r9.1 = nm.cls := by
    obtain ⟨-, -, -, u4⟩ := z_cl_ok (ci := ci) (r := r9) (by rw [z_at_eq]; exact hc9)
    rw [u4, hcls]
  refine z_go (va_runV (C := nm.cls) (b := b) (As := as) (rest := rest) (g := F0 m pc ls (as.reverse ++ .ref b :: rest)) ⟨hx, hcb, hml, hown, hts⟩ hc ⟨z_callB hts hk hR, hts _ (hk.1 _ (by simp)), hts _ (hk.1 _ (by simp))⟩ ⟨z_blind, ⟨cell, g1, by rw [g3]; rfl, by rw [g2, ← hnm]; exact hcl.2.1⟩, fun U hU hW => ⟨rfl, ?_, ?_, va_K.moved hW.alike hKK, z_Nmove (locs := locs) hN hW (by rw [hU]; exact hS)⟩⟩ rfl hn hl1.1 rfl (lv_room hrest) hd hm) hS (fun r M' z' H1 locs1 hp hr hs => kk r M' z' hp H1 locs1 ls hr hs hl)
  · rw [hU]; exact Nat.le_trans hsz hS.1
  · rw [hU]; exact hRR
set_option maxHeartbeats 4000000 in
theorem z_cS (C : z_OK P l E R cn cc nL rt ini Kr) (hd : decode cc pc = .ok (.invokestatic idx, 3)) (hk : z_lk cn idx nm cc' nL' rt' n [.static nm]) (hc : z_Ct l E d nm cc' nL' rt' as S.1 S.2.1 mc ms post) (hst : st = as.reverse ++ rest) (hR : d + 1 ≤ R.frames ∧ 60 * d + 60 ≤ R.locals) (hm : S.2.2.1 + mc ≤ R.cells ∧ S.2.2.2 + ms ≤ R.slots) (hn : as.length = n) (hrest : (rest.map fun v => v.category).sum ≤ 8)
    (kk : ∀ (r : Option Value) (M' : zH) (z' : Nat), post r M' z' → P (M', z', S.2.2.1 + mc, S.2.2.2 + ms) (pc + 3) lv (r.toList ++ rest)) : P S pc lv st := by
  subst hst
  obtain ⟨p, e, s, m, args, below, meth, c, Q, rfl, ⟨hx, hcb, hml, hrt, hown, hts, hlocks, hini, hKK, hN, hsz⟩, hQ⟩ := C
  intro H locs ls hRR hS hl
  obtain ⟨l0, hl1, hl2, hl3, hl4⟩ := id hl
  refine z_go (va_runS (As := as) (rest := rest) (g := F0 m pc ls (as.reverse ++ rest)) ⟨hx, hcb, hml, hown, hts⟩ hc ⟨z_callB hts hk hR, hts _ (hk.1 _ (by simp))⟩ ⟨z_blind, fun U hU hW => ⟨rfl, ?_, ?_, va_K.moved hW.alike hKK, z_Nmove (locs := locs) hN hW (by rw [hU]; exact hS)⟩⟩ rfl hn hl1.1 rfl (lv_room hrest) hd hm) hS (fun r M' z' H1 locs1 hp hr hs => kk r M' z' hp H1 locs1 ls hr hs hl)
  · rw [hU]; exact Nat.le_trans hsz hS.1
  · rw [hU]; exact hRR
set_option maxHeartbeats 4000000 in
theorem z_cI (C : z_OK P l E R cn cc nL rt ini Kr) (hd : decode cc pc = .ok (.invokespecial idx, 3)) (hk : z_lk cn idx nm cc' nL' none n [.instanceMethod nm]) (hc : z_Ct l E d nm cc' nL' none (.ref b :: as) S.1 S.2.1 mc ms post) (hst : st = as.reverse ++ .ref b :: rest) (hni : nm.name = "<init>") (hR : d + 1 ≤ R.frames ∧ 60 * d + 60 ≤ R.locals) (hm : S.2.2.1 + mc ≤ R.cells ∧ S.2.2.2 + ms ≤ R.slots) (hn : as.length = n) (hrest : (rest.map fun v => v.category).sum ≤ 8)
    (kk : ∀ (r : Option Value) (M' : zH) (z' : Nat), post r M' z' → P (M', z', S.2.2.1 + mc, S.2.2.2 + ms) (pc + 3) lv (r.toList ++ rest)) : P S pc lv st := by
  subst hst
  obtain ⟨p, e, s, m, args, below, meth, c, Q, rfl, ⟨hx, hcb, hml, hrt, hown, hts, hlocks, hini, hKK, hN, hsz⟩, hQ⟩ := C
  intro H locs ls hRR hS hl
  obtain ⟨l0, hl1, hl2, hl3, hl4⟩ := id hl
  refine z_go (va_runI (b := b) (As := as) (rest := rest) (g := F0 m pc ls (as.reverse ++ .ref b :: rest)) ⟨hx, hcb, hml, hown, hts⟩ hc ⟨z_callB hts hk hR, hni, hts _ (hk.1 _ (by simp))⟩ ⟨z_blind, fun U hU hW => ⟨rfl, ?_, ?_, va_K.moved hW.alike hKK, z_Nmove (locs := locs) hN hW (by rw [hU]; exact hS)⟩⟩ rfl hn hl1.1 rfl (lv_room hrest) hd hm) hS (fun r M' z' H1 locs1 hp hr hs => kk r M' z' hp H1 locs1 ls hr hs hl)
  · rw [hU]; exact Nat.le_trans hsz hS.1
  · rw [hU]; exact hRR
set_option maxHeartbeats 4000000 in
/-- a static method of a nest mate -/
theorem z_cN (C : z_OK P l E R cn cc nL rt ini Kr) (hd : decode cc pc = .ok (.invokestatic idx, 3)) {host : String} (hnw : Cond.methodLinkNest (z_own cn) idx nm host ∈ z_nw) (hw : (Cond.static nm ∈ z_gw ∧ Cond.initialized nm.cls ∈ z_gw ∧ Cond.code nm cc' nL' rt' ∈ z_gw) ∧ nm.cls ≠ "java/lang/invoke/MethodHandle" ∧ nm.cls ≠ "java/lang/invoke/VarHandle" ∧ (parseMethodDescriptor nm.desc).map (fun d => d.parameters.length) = some n ∧ nL' ≤ 41) (hc : z_Ct l E d nm cc' nL' rt' as S.1 S.2.1 mc ms post) (hst : st = as.reverse ++ rest) (hR : d + 1 ≤ R.frames ∧ 60 * d + 60 ≤ R.locals) (hm : S.2.2.1 + mc ≤ R.cells ∧ S.2.2.2 + ms ≤ R.slots) (hn : as.length = n) (hrest : (rest.map fun v => v.category).sum ≤ 8)
    (kk : ∀ (r : Option Value) (M' : zH) (z' : Nat), post r M' z' → P (M', z', S.2.2.1 + mc, S.2.2.2 + ms) (pc + 3) lv (r.toList ++ rest)) : P S pc lv st := by
  subst hst
  obtain ⟨p, e, s, m, args, below, meth, c, Q, rfl, ⟨hx, hcb, hml, hrt, hown, hts, hlocks, hini, hKK, hN, hsz⟩, hQ⟩ := C
  intro H locs ls hRR hS hl
  obtain ⟨l0, hl1, hl2, hl3, hl4⟩ := id hl
  obtain ⟨⟨w1, w2, w3⟩, w4, w5, w6, w7⟩ := hw
  have hG : GoodIn z_gw (z_ws nm cc' nL' rt') := fun w hw => by
    rcases List.mem_cons.mp hw with rfl | hw
    · exact ⟨w3, z_gw_good _ w3⟩
    · exact ⟨hw, z_gw_good _ hw⟩
  refine z_go (va_runSN (As := as) (rest := rest) (g := F0 m pc ls (as.reverse ++ rest)) ⟨hx, hcb, hml, hown, hts⟩ hc ⟨va_cnB n hts hG rfl rfl rfl (hN.1 _ hnw) (hts _ w2) ⟨w4, w5, w6⟩ ⟨hR.1, ?_⟩, hts _ w1, trivial⟩ ⟨z_blind, fun U hU hW => ⟨rfl, ?_, ?_, va_K.moved hW.alike hKK, z_Nmove (locs := locs) hN hW (by rw [hU]; exact hS)⟩⟩ rfl hn hl1.1 rfl (lv_room hrest) hd hm) hS (fun r M' z' H1 locs1 hp hr hs => kk r M' z' hp H1 locs1 ls hr hs hl)
  · show 8 + (nL' + 11) + 60 * d ≤ R.locals
    omega
  · rw [hU]; exact Nat.le_trans hsz hS.1
  · rw [hU]; exact hRR
end ZCALL
/-- a contract of a method that makes nothing -/
def z_Cn (l : Launch) (E : zE) (d : Nat) (nm : MethodName) (cc : ByteArray) (nL : Nat) (rt : Option FieldType) (as : List Value) (M : zH) (post : Option Value → zH → Prop) : Prop := ∀ z : Nat, z_Ct l E d nm cc nL rt as M z 0 0 (fun r M' z' => z' = z ∧ post r M')
def z_i (post : Int32 → zH → Prop) : Option Value → zH → Prop := fun r M' => ∃ v, r = some (.int v) ∧ post v M'
def z_v (post : zH → Prop) : Option Value → zH → Prop := fun r M' => r = none ∧ post M'
def z_K0 (z : Nat) (post : Option Value → zH → Prop) : Option Value → zS → Prop := z_Kr 0 0 (fun r M' z' => z' = z ∧ post r M')
theorem z_cn {l : Launch} {E : zE} {d : Nat} {nm : MethodName} {cc : ByteArray} {nL : Nat} {rt : Option FieldType} {as : List Value} {M : zH} {post : Option Value → zH → Prop} (cn : Nat) (h : ∀ (P : zP) (z : Nat), z_OK P l E (z_rm d 0 0) cn cc nL rt false (z_K0 z post) → P (M, z, 0, 0) 0 (z_lv as nL) []) (hy : plainName nm.cls = true := by decide) (hcn : nm.cls = z_own cn := by rfl) (hc : ∀ v ∈ as, v.category = 1 := by simp [Value.category]) (hn : as.length ≤ nL := by simp) : z_Cn l E d nm cc nL rt as M post :=
  fun z => z_ct cn false hy hcn (fun h => by cases h) hc hn (fun P C => h P z C)
abbrev z_hi (post : Int32 → zH → Prop) (v : Int32) (M : zH) : Prop := post v M
abbrev z_hv (post : zH → Prop) (M : zH) : Prop := post M
theorem z_K0i (z : Nat) (post : Int32 → zH → Prop) (v : Int32) (M : zH) : z_K0 z (z_i post) (some (.int v)) (M, z, 0, 0) = z_hi post v M := propext ⟨fun h => by obtain ⟨-, -, -, w, e, h⟩ := h; cases e; exact h, fun h => ⟨Nat.le_refl _, Nat.le_refl _, rfl, v, rfl, h⟩⟩
theorem z_K0v (z : Nat) (post : zH → Prop) (M : zH) : z_K0 z (z_v post) none (M, z, 0, 0) = z_hv post M := propext ⟨fun h => by obtain ⟨-, -, -, -, h⟩ := h; exact h, fun h => ⟨Nat.le_refl _, Nat.le_refl _, rfl, rfl, h⟩⟩
theorem z_K0o (z : Nat) (post : Option Value → zH → Prop) (r : Option Value) (M : zH) : z_K0 z post r (M, z, 0, 0) = post r M := propext ⟨fun h => h.2.2.2, fun h => ⟨Nat.le_refl _, Nat.le_refl _, rfl, h⟩⟩
section ZCALL0
variable {P : zP} {l : Launch} {E : zE} {cn : Nat} {cc : ByteArray} {nL : Nat} {rt : Option FieldType} {ini : Bool} {Kr : Option Value → zS → Prop} {M : zH} {z : Nat} {pc : Nat} {lv : zL} {st : List Value} {idx : Nat} {nm : MethodName} {cc' : ByteArray} {nL' : Nat} {rt' : Option FieldType} {n b ci d : Nat} {as rest fs : List Value}
theorem z_rr {d mc ms : Nat} : d + 1 ≤ (z_rm (d + 1) mc ms).frames ∧ 60 * d + 60 ≤ (z_rm (d + 1) mc ms).locals := ⟨Nat.le_refl _, by show 60 * d + 60 ≤ 60 * (d + 1); omega⟩
theorem z_vo {post : Option Value → zH → Prop} (C : z_OK P l E (z_rm (d + 1) 0 0) cn cc nL rt ini Kr) (hd : decode cc pc = .ok (.invokevirtual idx, 3)) (hk : z_lk cn idx nm cc' nL' rt' n [.instanceMethod nm, .selects nm.cls nm nm]) (hc : z_Cn l E d nm cc' nL' rt' (.ref b :: as) M post) (hst : st = as.reverse ++ .ref b :: rest) (hb : M b = some (.inr (ci, fs))) (kk : ∀ (r : Option Value) (M' : zH), post r M' → P (M', z, 0, 0) (pc + 3) lv (r.toList ++ rest)) (hcls : z_own ci = nm.cls := by rfl) (hn : as.length = n := by rfl) (hrest : (rest.map fun v => v.category).sum ≤ 8 := by simp [Value.category]) : P (M, z, 0, 0) pc lv st :=
  z_cV C hd hk (hc z) hst hb hcls z_rr ⟨Nat.le_refl _, Nat.le_refl _⟩ hn hrest (fun r M' z' h => by obtain ⟨rfl, h⟩ := h; exact kk r M' h)
theorem z_vi {post : Int32 → zH → Prop} (C : z_OK P l E (z_rm (d + 1) 0 0) cn cc nL rt ini Kr) (hd : decode cc pc = .ok (.invokevirtual idx, 3)) (hk : z_lk cn idx nm cc' nL' rt' n [.instanceMethod nm, .selects nm.cls nm nm]) (hc : z_Cn l E d nm cc' nL' rt' (.ref b :: as) M (z_i post)) (hst : st = as.reverse ++ .ref b :: rest) (hb : M b = some (.inr (ci, fs))) (kk : ∀ (v : Int32) (M' : zH), post v M' → P (M', z, 0, 0) (pc + 3) lv (.int v :: rest)) (hcls : z_own ci = nm.cls := by rfl) (hn : as.length = n := by rfl) (hrest : (rest.map fun v => v.category).sum ≤ 8 := by simp [Value.category]) : P (M, z, 0, 0) pc lv st :=
  z_vo C hd hk hc hst hb (fun r M' h => by obtain ⟨v, rfl, h⟩ := h; exact kk v M' h) hcls hn hrest
theorem z_vv {post : zH → Prop} (C : z_OK P l E (z_rm (d + 1) 0 0) cn cc nL rt ini Kr) (hd : decode cc pc = .ok (.invokevirtual idx, 3)) (hk : z_lk cn idx nm cc' nL' rt' n [.instanceMethod nm, .selects nm.cls nm nm]) (hc : z_Cn l E d nm cc' nL' rt' (.ref b :: as) M (z_v post)) (hst : st = as.reverse ++ .ref b :: rest) (hb : M b = some (.inr (ci, fs))) (kk : ∀ (M' : zH), post M' → P (M', z, 0, 0) (pc + 3) lv rest) (hcls : z_own ci = nm.cls := by rfl) (hn : as.length = n := by rfl) (hrest : (rest.map fun v => v.category).sum ≤ 8 := by simp [Value.category]) : P (M, z, 0, 0) pc lv st :=
  z_vo C hd hk hc hst hb (fun r M' h => by obtain ⟨rfl, h⟩ := h; exact kk M' h) hcls hn hrest
theorem z_si {post : Int32 → zH → Prop} (C : z_OK P l E (z_rm (d + 1) 0 0) cn cc nL rt ini Kr) (hd : decode cc pc = .ok (.invokestatic idx, 3)) (hk : z_lk cn idx nm cc' nL' rt' n [.static nm]) (hc : z_Cn l E d nm cc' nL' rt' as M (z_i post)) (hst : st = as.reverse ++ rest) (kk : ∀ (v : Int32) (M' : zH), post v M' → P (M', z, 0, 0) (pc + 3) lv (.int v :: rest)) (hn : as.length = n := by rfl) (hrest : (rest.map fun v => v.category).sum ≤ 8 := by simp [Value.category]) : P (M, z, 0, 0) pc lv st :=
  z_cS C hd hk (hc z) hst z_rr ⟨Nat.le_refl _, Nat.le_refl _⟩ hn hrest (fun r M' z' h => by obtain ⟨rfl, v, rfl, h⟩ := h; exact kk v M' h)
theorem z_sw {post : zH → Prop} (C : z_OK P l E (z_rm (d + 1) 0 0) cn cc nL rt ini Kr) (hd : decode cc pc = .ok (.invokestatic idx, 3)) (hk : z_lk cn idx nm cc' nL' rt' n [.static nm]) (hc : z_Cn l E d nm cc' nL' rt' as M (z_v post)) (hst : st = as.reverse ++ rest) (kk : ∀ (M' : zH), post M' → P (M', z, 0, 0) (pc + 3) lv rest) (hn : as.length = n := by rfl) (hrest : (rest.map fun v => v.category).sum ≤ 8 := by simp [Value.category]) : P (M, z, 0, 0) pc lv st :=
  z_cS C hd hk (hc z) hst z_rr ⟨Nat.le_refl _, Nat.le_refl _⟩ hn hrest (fun r M' z' h => by obtain ⟨rfl, rfl, h⟩ := h; exact kk M' h)
theorem z_ni {post : Int32 → zH → Prop} {host : String} (C : z_OK P l E (z_rm (d + 1) 0 0) cn cc nL rt ini Kr) (hd : decode cc pc = .ok (.invokestatic idx, 3)) (hk : z_lkN cn idx nm cc' nL' rt' n host) (hc : z_Cn l E d nm cc' nL' rt' as M (z_i post)) (hst : st = as.reverse ++ rest) (kk : ∀ (v : Int32) (M' : zH), post v M' → P (M', z, 0, 0) (pc + 3) lv (.int v :: rest)) (hn : as.length = n := by rfl) (hrest : (rest.map fun v => v.category).sum ≤ 8 := by simp [Value.category]) : P (M, z, 0, 0) pc lv st :=
  z_cN C hd hk.1 hk.2 (hc z) hst z_rr ⟨Nat.le_refl _, Nat.le_refl _⟩ hn hrest (fun r M' z' h => by obtain ⟨rfl, v, rfl, h⟩ := h; exact kk v M' h)
end ZCALL0

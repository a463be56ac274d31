/-! WHAT IS MADE ANEW -/
abbrev z_nk (cn idx ci N : Nat) : Prop := Cond.classLink (z_own cn) idx (z_own ci) ∈ z_gw ∧ Cond.instantiable (z_own ci) N ∈ z_gw ∧ Cond.initialized (z_own ci) ∈ z_gw
theorem z_gw_ai : Cond.arrayClass .int ∈ z_gw := by decide +kernel
theorem z_gw_az : Cond.arrayClass .boolean ∈ z_gw := by decide +kernel
theorem z_gw_oi : Cond.instanceMethod Lib.objectInit ∈ z_gw ∧ Cond.code Lib.objectInit ⟨#[0xb1]⟩ 1 none ∈ z_gw := by decide +kernel
theorem z_R.push {E : zE} {M : zH} {z : Nat} {H H1 : Heap} {e : zC} (hR : z_R E M z H) (hz : E.2.1 ≤ z) (z1 : H1.size = z + 1) (o1 : ∀ q, q < z → H1[q]? = H[q]?) (he : va_at E.1 vwCl (z, z_cv E e) H1) : z_R E (z_up M z e) (z + 1) H1 := by
  refine ⟨z1, fun a e' ha => ?_⟩
  by_cases q : a = z
  · subst q
    rw [z_up_s] at ha
    cases ha
    exact ⟨hz, he⟩
  · rw [z_up_n q] at ha
    obtain ⟨h1, h2⟩ := hR.2 a e' ha
    exact ⟨h1, h2.kept (o1 a (by have := h2.lt; rw [hR.1] at this; exact this))⟩
theorem z_S.push {A : Nat → Prop} {H0 H H1 : Heap} {locs : List Loc} {z : Nat} (hS : va_S A H0 H locs) (hz : H.size = z) (z1 : H1.size = z + 1) (o1 : ∀ q, q < z → H1[q]? = H[q]?) : va_S A H0 H1 locs :=
  ⟨Nat.le_trans hS.1 (by omega), fun x h1 h2 => (o1 x (by have := hS.1; omega)).trans (hS.2.1 x h1 h2), hS.2.2⟩
section ZNEW
variable {P : zP} {l : Launch} {E : zE} {R : Room} {cn : Nat} {cc : ByteArray} {nL : Nat} {rt : Option FieldType} {ini : Bool} {Kr : Option Value → zS → Prop} {M : zH} {z c0 n0 : Nat} {pc : Nat} {lv : zL} {st : List Value} {idx ci N n : Nat}
set_option maxHeartbeats 4000000 in
theorem z_new {r : vw_C} (C : z_OK P l E R cn cc nL rt ini Kr) (hd : decode cc pc = .ok (.new idx, 3)) (hk : z_nk cn idx ci N) (hr : z_at vwCl ci = some r) (hN : r.2.2 = N) (fs : List Value) (hfs : ∀ j, j < N → defaultValue (z_ty ci j) = vp_V fs j) (hm : c0 + 1 ≤ R.cells ∧ n0 + N ≤ R.slots) (kk : P (z_up M z (.inr (ci, fs)), z + 1, c0 + 1, n0 + N) (pc + 3) lv (.ref z :: st)) : P (M, z, c0, n0) pc lv st := by
  obtain ⟨p, e, s, m, args, below, meth, c, Q, rfl, ⟨hx, hb, hml, hrt, hown, hts, hlocks, hini, hKK, hN2, hsz⟩, hQ⟩ := C
  intro H locs ls hR hS hl
  have hR : z_R E M z H := hR
  have hle : E.2.1 ≤ z := by have := hS.1; have h2 := hR.1; omega
  obtain ⟨u1, u2, u3, u4⟩ := z_cl_ok hr
  have g1 := hr
  rw [z_at_eq] at g1
  have hKn := hKK.1 ci r g1
  subst hN
  refine W.newcK hx hb hown (hts _ hk.1) (hts _ hk.2.1) (hts _ hk.2.2) rfl hd hm.1 hm.2 (by rw [← u4]; exact hKn.2.1) hR.1 fun H1 kC hkC e1 z1 o1 => ?_
  refine kk H1 locs ls (hR.push hle z1 o1 ⟨r, g1, (u_born (z_ty ci) hts u1 hKn hkC e1 u2).to hfs⟩) (z_S.push hS hR.1 z1 o1) hl
set_option maxHeartbeats 4000000 in
theorem z_nwI (C : z_OK P l E R cn cc nL rt ini Kr) (hd : decode cc pc = .ok (.newarray .int, 2)) (hn : n < 2 ^ 20) (hm : c0 + 1 ≤ R.cells ∧ n0 + n ≤ R.slots) (kk : P (z_up M z (.inl (0, n, .inl (fun _ => 0))), z + 1, c0 + 1, n0 + n) (pc + 2) lv (.ref z :: st)) : P (M, z, c0, n0) pc lv (.int (nI n) :: st) := by
  obtain ⟨p, e, s, m, args, below, meth, c, Q, rfl, ⟨hx, hb, hml, hrt, hown, hts, hlocks, hini, hKK, hN2, hsz⟩, hQ⟩ := C
  intro H locs ls hR hS hl
  have hR : z_R E M z H := hR
  have hle : E.2.1 ≤ z := by have := hS.1; have h2 := hR.1; omega
  refine va_newaK (atype := .int) hx hb (hts _ z_gw_ai) rfl hd rfl (nI_pos (by omega)) (nI_clamp (by omega)) (by show n * 4 ≤ _; omega) hm.1 hm.2 hR.1 fun H1 cA e1 z1 o1 hAr hNm => ?_
  have hc : cA = E.2.2.1 0 := Option.some.inj (hNm.symm.trans (hKK.2 0 _ rfl).2)
  subst hc
  exact kk H1 locs ls (hR.push hle z1 o1 e1) (z_S.push hS hR.1 z1 o1) hl
set_option maxHeartbeats 4000000 in
theorem z_nwZ (C : z_OK P l E R cn cc nL rt ini Kr) (hd : decode cc pc = .ok (.newarray .boolean, 2)) (hn : n < 2 ^ 20) (hm : c0 + 1 ≤ R.cells ∧ n0 + n ≤ R.slots) (kk : P (z_up M z (.inl (1, n, .inl (fun _ => 0))), z + 1, c0 + 1, n0 + n) (pc + 2) lv (.ref z :: st)) : P (M, z, c0, n0) pc lv (.int (nI n) :: st) := by
  obtain ⟨p, e, s, m, args, below, meth, c, Q, rfl, ⟨hx, hb, hml, hrt, hown, hts, hlocks, hini, hKK, hN2, hsz⟩, hQ⟩ := C
  intro H locs ls hR hS hl
  have hR : z_R E M z H := hR
  have hle : E.2.1 ≤ z := by have := hS.1; have h2 := hR.1; omega
  refine va_newaK (atype := .boolean) hx hb (hts _ z_gw_az) rfl hd rfl (nI_pos (by omega)) (nI_clamp (by omega)) (by show n * 1 ≤ _; omega) hm.1 hm.2 hR.1 fun H1 cA e1 z1 o1 hAr hNm => ?_
  have hc : cA = E.2.2.1 1 := Option.some.inj (hNm.symm.trans (hKK.2 1 _ rfl).2)
  subst hc
  exact kk H1 locs ls (hR.push hle z1 o1 e1) (z_S.push hS hR.1 z1 o1) hl
set_option maxHeartbeats 4000000 in
theorem z_nwQ (t : Nat) (ht : (t = 2 ∧ ci = 2) ∨ (t = 3 ∧ ci = 4)) (C : z_OK P l E R cn cc nL rt ini Kr) (hd : decode cc pc = .ok (.anewarray idx, 3)) (hk : Cond.classLink (z_own cn) idx (z_own ci) ∈ z_gw) (hn : n < 2 ^ 20) (hm : c0 + 1 ≤ R.cells ∧ n0 + n ≤ R.slots) (kk : P (z_up M z (.inl (t, n, .inr (.inr (.inr (.inr (fun _ => none)))))), z + 1, c0 + 1, n0 + n) (pc + 3) lv (.ref z :: st)) : P (M, z, c0, n0) pc lv (.int (nI n) :: st) := by
  obtain ⟨p, e, s, m, args, below, meth, c, Q, rfl, ⟨hx, hb, hml, hrt, hown, hts, hlocks, hini, hKK, hN2, hsz⟩, hQ⟩ := C
  intro H locs ls hR hS hl
  have hR : z_R E M z H := hR
  have hle : E.2.1 ≤ z := by have := hS.1; have h2 := hR.1; omega
  have hao : va_AO (z_own ci) s := by
    rcases ht with ⟨-, rfl⟩ | ⟨-, rfl⟩
    · exact hN2.2.2.2.2.2.2.2.1
    · exact hN2.2.2.2.2.2.2.2.2
  have hz : H.size = z := hR.1
  refine W.anew hx hb hown (hts _ hk) (va_AO.use hao) rfl hd rfl (nI_pos (by omega)) (by rw [nI_clamp (by omega)]; omega) hm.1 (by rw [nI_clamp (by omega)]; exact hm.2) fun cA kA comp f1 f2 f3 f4 => ?_
  rw [nI_clamp (by omega)]
  generalize hH1 : H.push ({ cls := cA, slots := Array.replicate n .null, vm := .none } : Cell) = H1
  have z1 : H1.size = z + 1 := by rw [← hH1, Array.size_push, hz]
  have e1 : H1[z]? = some (arrV cA n (fun _ => .null)) := by rw [← hH1, ← hz, Array.getElem?_push_size, ← arrV_new]
  have o1 : ∀ q : Nat, q < z → H1[q]? = H[q]? := fun q hq => by rw [← hH1, Array.getElem?_push, if_neg (by omega)]
  rw [hz]
  refine kk H1 locs ls (hR.push hle z1 o1 ?_) (z_S.push hS hR.1 z1 o1) hl
  have hc : cA = E.2.2.1 t := by
    rcases ht with ⟨rfl, rfl⟩ | ⟨rfl, rfl⟩
    · obtain ⟨kA', comp', -, -, -, h4⟩ := (hKK.2 2 _ rfl).2
      exact Option.some.inj (f1.symm.trans h4)
    · obtain ⟨kA', comp', -, -, -, h4⟩ := (hKK.2 3 _ rfl).2
      exact Option.some.inj (f1.symm.trans h4)
  subst hc
  exact e1
set_option maxHeartbeats 4000000 in
theorem z_ast {a v : Nat} {j : Nat} {f : Nat → Option Nat} {vs : List Value} (t : Nat) (ht : (t = 2 ∧ ci = 2) ∨ (t = 3 ∧ ci = 4)) (C : z_OK P l E R cn cc nL rt ini Kr) (hd : decode cc pc = .ok (.aastore, 1)) (ha : M a = some (.inl (t, n, .inr (.inr (.inr (.inr f)))))) (hv : M v = some (.inr (ci, vs))) (hj : j < n) (hn : n < 2 ^ 20) (kk : P (z_up M a (.inl (t, n, .inr (.inr (.inr (.inr (va_up f j (some v))))))), z, c0, n0) (pc + 1) lv st) : P (M, z, c0, n0) pc lv (.ref v :: .int (nI j) :: .ref a :: st) := by
  obtain ⟨p, e, s, m, args, below, meth, c, Q, rfl, ⟨hx, hb, hml, hrt, hown, hts, hlocks, hini, hKK, hN2, hsz⟩, hQ⟩ := C
  intro H locs ls hR hS hl
  have hR : z_R E M z H := hR
  have hle : E.2.1 ≤ z := by have := hS.1; have h2 := hR.1; omega
  have h0 : ¬ nI j < 0 := nI_pos (by omega)
  have hcl : (nI j).toNatClampNeg = j := nI_clamp (by omega)
  have hca : H[a]? = some (vp_cell (E.2.2.1 t) (n, .inr (.inr (.inr (.inr f))))) := (hR.2 a _ ha).2
  obtain ⟨r', hr', cellV, g1, g2, g3, -⟩ := (hR.2 v _ hv).2
  have hcls := (hKK.1 ci r' hr').2
  have hrn : r'.1 = z_own ci := (z_cl_ok (ci := ci) (r := r') (by rw [z_at_eq]; exact hr')).2.2.2
  have hRA : va_RA s (E.2.2.1 t) (.object r'.1) := by
    rcases ht with ⟨rfl, rfl⟩ | ⟨rfl, rfl⟩
    · rw [hrn]; exact (hKK.2 2 _ rfl).2
    · rw [hrn]; exact (hKK.2 3 _ rfl).2
  obtain ⟨kA, comp, k1, k2, k3, -⟩ := hRA
  have hcomp : comp = E.1.1 ci := Option.some.inj (k3.symm.trans hcls.1)
  subst hcomp
  obtain ⟨kC, hkC, -⟩ := hcls.2
  refine W.aast hx hb hca (fun q h => by cases h) (fun h => by cases h) k1 k2 rfl hkC ⟨h0, by rw [hcl]; show _ < (arrV _ _ _).slots.size; rw [arrV_size]; exact hj⟩ g1 (fun q h => by rw [g3] at h; cases h) (by rw [g2]; exact hkC) (by rw [g2]; exact va_assign hcls) rfl rfl hd fun H1 e z1 oq => ?_
  refine kk H1 _ ls (hR.put ha z1 ?_ oq) (hS.put z1 oq (hR.2 a _ ha).1) hl
  show H1[a]? = some (vp_cell _ _)
  rw [e, hcl]
  simp only [z_cv]
  rw [vp_cell_q, vp_cell_q, arrV_store]
  congr 2
  funext q
  by_cases hq : q = j
  · subst hq
    simp [updV, va_up, va_rf]
  · simp [updV, va_up, hq]
set_option maxHeartbeats 4000000 in
theorem z_objI {b : Nat} (C : z_OK P l E R cn cc nL rt ini Kr) (hd : decode cc pc = .ok (.invokespecial idx, 3)) (hk : Cond.methodLink (z_own cn) idx Lib.objectInit ∈ z_gw) (hR0 : 1 ≤ R.frames ∧ 20 ≤ R.locals) (kk : P (M, z, c0, n0) (pc + 3) lv st) (hrest : (st.map fun v => v.category).sum ≤ 8 := by simp [Value.category]) : P (M, z, c0, n0) pc lv (.ref b :: st) := by
  obtain ⟨p, e, s, m, args, below, meth, c, Q, rfl, ⟨hx, hb, hml, hrt, hown, hts, hlocks, hini, hKK, hN2, hsz⟩, hQ⟩ := C
  intro H locs ls hR hS hl
  have hR : z_R E M z H := hR
  have hle : E.2.1 ≤ z := by have := hS.1; have h2 := hR.1; omega
  obtain ⟨l0, hl1, hl2, hl3, hl4⟩ := id hl
  refine W.objInit hx hb hown (hts _ hk) (hts _ z_gw_oi.1) (hts _ z_gw_oi.2) rfl (by rw [hml]; exact hl1.1) rfl hd hR0.1 ?_ (kk H locs ls hR hS hl)
  have h0 : 2 * JFrame.monitorRoom (F0 m pc ls (.ref b :: st)) = 0 := rfl
  omega
end ZNEW

/-! WHAT EACH CALL ANSWERS -/
section ZSW
variable {P : zP} {l : Launch} {E : zE} {R : Room} {cn : Nat} {cc : ByteArray} {nL : Nat} {rt : Option FieldType} {ini : Bool} {Kr : Option Value → zS → Prop} {S : zS} {pc : Nat} {lv : zL} {st : List Value} {dflt lo hi : Int} {offs : Array Int} {len : Nat} {v : Int32}
theorem z_swIn (C : z_OK P l E R cn cc nL rt ini Kr) (hd : decode cc pc = .ok (.tableswitch dflt lo hi offs, len)) {off : Int} (tgt : Nat) (h1 : ¬ v.toInt < lo) (h2 : ¬ hi < v.toInt) (ho : offs[(v.toInt - lo).toNat]? = some off) (ht : (pc : Int) + off = (tgt : Int)) (kk : P S tgt lv st) : P S pc lv (.int v :: st) := by
  obtain ⟨p, e, s, m, args, below, meth, c, Q, rfl, ⟨hx, hb, hml, hrt, hown, hts, hlocks, hini, hKK, hN, hsz⟩, hQ⟩ := C
  intro H locs ls hR hS hl
  exact lv_tableIn hx hb hd h1 h2 ho ht (kk H locs ls hR hS hl)
theorem z_swOut (C : z_OK P l E R cn cc nL rt ini Kr) (hd : decode cc pc = .ok (.tableswitch dflt lo hi offs, len)) (tgt : Nat) (h : v.toInt < lo ∨ hi < v.toInt) (ht : (pc : Int) + dflt = (tgt : Int)) (kk : P S tgt lv st) : P S pc lv (.int v :: st) := by
  obtain ⟨p, e, s, m, args, below, meth, c, Q, rfl, ⟨hx, hb, hml, hrt, hown, hts, hlocks, hini, hKK, hN, hsz⟩, hQ⟩ := C
  intro H locs ls hR hS hl
  exact lv_tableOut hx hb hd h ht (kk H locs ls hR hS hl)
end ZSW
theorem z_out {v : Int32} {n : Nat} (hn : n < 1000) (h : ∀ k, k ≤ n → v ≠ nI k) : v.toInt < 0 ∨ (n : Int) < v.toInt := by
  by_cases h0 : v < 0
  · exact Or.inl (by have := Int32.lt_iff_toInt_lt.mp h0; simpa using this)
  · obtain ⟨j, hj, rfl⟩ := nI_of h0
    right
    rw [nI_toInt hj]
    rcases Nat.lt_or_ge n j with q | q
    · omega
    · exact absurd rfl (h j q)
def f_bad (i : Int32) : Prop := i < 0 ∨ 4 ≤ i
theorem f_ok {k : Nat} (hk : k < 4) : ¬ f_bad (nI k) := by
  rintro (h | h)
  · exact nI_pos (by omega) h
  · exact absurd ((nI_leI (a := 4) (by omega) (by omega)).mp h) (by omega)
theorem f_cl {k : Nat} (hk : k < 4) : (nI k).toNatClampNeg = k := nI_clamp (by omega)
noncomputable def f_w (i : Int32) (f : Nat → Int32) : Int32 := @ite _ (f_bad i) (Classical.propDecidable _) (-1) (f i.toNatClampNeg)
theorem f_w_bad {i : Int32} {f : Nat → Int32} (h : f_bad i) : f_w i f = -1 := by unfold f_w; rw [if_pos h]
theorem f_w_ok {k : Nat} {f : Nat → Int32} (h : k < 4) : f_w (nI k) f = f k := by unfold f_w; rw [if_neg (f_ok h), f_cl h]
def m_item (l : List Nat) (j : Int32) : Int32 := if j = -1 then nI l.length else z_get (l.map nI) j
def f_say (pad : List Nat) (c : Int32) : Int32 := if c < 33 ∨ 126 < c then -2 else if pad.length < 40 then nI (pad.length + 1) else -4
def p_say (pad : List Nat) (c : Int32) : List Nat := if c < 33 ∨ 126 < c then pad else if pad.length < 40 then pad ++ [c.toNatClampNeg] else pad
noncomputable def f_step (wk : Nat → List Nat) (i j w : Int32) : Int32 := f_w i fun k => if j < -1 ∨ w < 0 ∨ 1 < w then -2 else if j = -1 then nI (wk k).length else if nI (wk k).length ≤ j then -6 else if w = 0 then nI ((wk k).getD j.toNatClampNeg 0 / 3) else nI ((wk k).getD j.toNatClampNeg 0 % 3)
noncomputable def f_written (wk : Nat → List Nat) (i j : Int32) : Int32 := f_w i fun k => if j < -1 then -2 else m_item (m_wrt (wk k)) j
noncomputable def f_letter (wk : Nat → List Nat) (i j : Int32) : Int32 := f_w i fun k => if j < -1 then -2 else m_item (m_lets (wk k)) j
noncomputable def f_shortest (wk : Nat → List Nat) (i j : Int32) : Int32 := f_w i fun k => if j < -1 then -2 else m_item (m_sh (m_lets (wk k))) j
noncomputable def f_same (wk : Nat → List Nat) (i j : Int32) : Int32 := @ite _ (f_bad i ∨ f_bad j) (Classical.propDecidable _) (-1) (if m_sh (m_lets (wk i.toNatClampNeg)) = m_sh (m_lets (wk j.toNatClampNeg)) then 1 else 0)
noncomputable def f_at (wk : Nat → List Nat) (i j p : Int32) : Int32 := f_w i fun k => if j < 0 ∨ nI (wk k).length < j ∨ p < 0 ∨ 8 ≤ p then -2 else nI (m_lay (m_lets ((wk k).take j.toNatClampNeg)) id p.toNatClampNeg)
noncomputable def f_met (wk : Nat → List Nat) (i one oth what : Int32) : Int32 := f_w i fun k => if one < 0 ∨ 8 ≤ one ∨ oth < 0 ∨ 8 ≤ oth ∨ one = oth ∨ what < 0 ∨ 2 < what then -2 else m_mv (m_me (m_lets (wk k)) (m_lst (wk k)) id one.toNatClampNeg oth.toNatClampNeg 0 0 (-6)) what
noncomputable def f_told (wk : Nat → List Nat) (i what : Int32) : Int32 := f_w i fun k => if what = 0 then nI (wk k).length else if what = 1 then nI (m_lets (wk k)).length else if what = 2 then nI (m_pins (wk k)) else if what = 3 then nI (m_ord (m_lay (m_lets (wk k)) id)) else if what = 4 then nI (m_fix (m_lay (m_lets (wk k)) id) 8) else if what = 5 then m_msk (m_unt (m_lets (wk k))) else -2
def m_pinv (w : List Nat) (t : Nat) (what : Int32) : Int32 := if what = 0 then nI t else if what = 1 then nI (w.getD t 0 % 3) else nI (m_lay (m_lets (w.take t)) id (2 * (w.getD t 0 % 3) + (if what = 2 then 1 else 2)))
noncomputable def f_pin (wk : Nat → List Nat) (i j what : Int32) : Int32 := f_w i fun k => if what < 0 ∨ 3 < what then -2 else if m_pstF (wk k) 0 0 j = -6 then -6 else m_pinv (wk k) (m_pstF (wk k) 0 0 j).toNatClampNeg what
noncomputable def m_parF (w : List Nat) : Nat → Nat → Nat
  | 0, t => t
  | n + 1, t => @ite _ (w.length % t = 0 ∧ ∀ i, t ≤ i → i < w.length → w[i]? = w[i - t]?) (Classical.propDecidable _) t (m_parF w n (t + 1))
theorem m_parF_s (w : List Nat) (n t : Nat) : m_parF w (n + 1) t = @ite _ (w.length % t = 0 ∧ ∀ i, t ≤ i → i < w.length → w[i]? = w[i - t]?) (Classical.propDecidable _) t (m_parF w n (t + 1)) := by rw [m_parF]
noncomputable def m_part (w : List Nat) : Nat := if w.length = 0 then 0 else m_parF w (w.length - 1) 1
noncomputable def f_part (wk : Nat → List Nat) (i : Int32) : Int32 := f_w i fun k => nI (m_part (wk k))
noncomputable def f_fault (pad : List Nat) : Int32 := m_fl pad 0 0 false
def m_stp (pad : List Nat) : List Nat := m_app (m_dn pad).1 0
noncomputable def f_work (pad : List Nat) (i : Int32) : Int32 := f_w i fun _ => if f_fault pad ≠ -6 then -7 else if 60 < (m_stp pad).length then -4 else nI (m_stp pad).length
noncomputable def b_work (pad : List Nat) (i : Int32) : Prop := ¬ f_bad i ∧ f_fault pad = -6 ∧ (m_stp pad).length ≤ 60
def w_set (wk : Nat → List Nat) (k : Nat) (w : List Nat) : Nat → List Nat := fun j => if j = k then w else wk j
noncomputable def w_work (pad : List Nat) (wk : Nat → List Nat) (i : Int32) : Nat → List Nat := @ite _ (b_work pad i) (Classical.propDecidable _) (w_set wk i.toNatClampNeg (m_stp pad)) wk
noncomputable def p_work (pad : List Nat) (i : Int32) : List Nat := @ite _ (b_work pad i) (Classical.propDecidable _) [] pad
noncomputable def t_work (pad : List Nat) (told i : Int32) : Int32 := @ite _ (¬ f_bad i ∧ f_fault pad ≠ -6) (Classical.propDecidable _) (f_fault pad) told
def b_join (wk : Nat → List Nat) (t a c : Int32) : Prop := ¬ (f_bad t ∨ f_bad a ∨ f_bad c) ∧ (wk a.toNatClampNeg).length + (wk c.toNatClampNeg).length ≤ 60
noncomputable def f_join (wk : Nat → List Nat) (t a c : Int32) : Int32 := @ite _ (f_bad t ∨ f_bad a ∨ f_bad c) (Classical.propDecidable _) (-1) (if 60 < (wk a.toNatClampNeg).length + (wk c.toNatClampNeg).length then -4 else nI ((wk a.toNatClampNeg).length + (wk c.toNatClampNeg).length))
noncomputable def w_join (wk : Nat → List Nat) (t a c : Int32) : Nat → List Nat := @ite _ (b_join wk t a c) (Classical.propDecidable _) (w_set wk t.toNatClampNeg (wk a.toNatClampNeg ++ wk c.toNatClampNeg)) wk
noncomputable def f_undone (wk : Nat → List Nat) (t a : Int32) : Int32 := @ite _ (f_bad t ∨ f_bad a) (Classical.propDecidable _) (-1) (nI (wk a.toNatClampNeg).length)
noncomputable def w_undone (wk : Nat → List Nat) (t a : Int32) : Nat → List Nat := @ite _ (f_bad t ∨ f_bad a) (Classical.propDecidable _) wk (w_set wk t.toNatClampNeg ((wk a.toNatClampNeg).reverse.map m_opp))
def f_image (k : Int32) : Int32 := if k < 0 ∨ 2 ≤ k then -2 else 1
def i_image (wk : Nat → List Nat) (im : Nat → Nat → List Nat) (k : Int32) : Nat → Nat → List Nat := if k < 0 ∨ 2 ≤ k then im else fun j => if j = k.toNatClampNeg then wk else im j
def k_image (kept : Nat) (k : Int32) : Nat := if k < 0 ∨ 2 ≤ k then kept else kept ||| (1 <<< k.toNatClampNeg)
def f_restore (kept : Nat) (k : Int32) : Int32 := if k < 0 ∨ 2 ≤ k then -2 else if kept.testBit k.toNatClampNeg then 1 else -3
def w_restore (wk : Nat → List Nat) (im : Nat → Nat → List Nat) (kept : Nat) (k : Int32) : Nat → List Nat := if k < 0 ∨ 2 ≤ k then wk else if kept.testBit k.toNatClampNeg then im k.toNatClampNeg else wk
def f_count (pad : List Nat) (wk : Nat → List Nat) (kept : Nat) (told what : Int32) : Int32 := if what = 0 then nI pad.length else if what = 1 then nI ((wk 0).length + (wk 1).length + (wk 2).length + (wk 3).length) else if what = 2 then told else if what = 3 then nI kept else -2
/-- the whole object -/
def z_inv (pad : List Nat) (wk : Nat → List Nat) (im : Nat → Nat → List Nat) (kept : Nat) : Prop := (∀ c ∈ pad, 33 ≤ c ∧ c ≤ 126) ∧ (∀ k, k < 4 → ∀ s ∈ wk k, s < 15) ∧ (∀ j, j < 2 → ∀ k, k < 4 → ∀ s ∈ im j k, s < 15) ∧ kept < 4
def z_lw (M : zH) (b : Nat) (pad : List Nat) (wk : Nat → List Nat) (im : Nat → Nat → List Nat) (kept : Nat) (told : Int32) : Prop := z_core M b pad wk im kept told ∧ z_scr M b ∧ z_inv pad wk im kept
def z_oA (b : Nat) : Nat → Prop := fun q => b ≤ q ∧ q < b + 55
theorem z_sA_oA {b q : Nat} (h : z_sA b q) : z_oA b q := by unfold z_sA at h; unfold z_oA; omega
theorem z_row.n60 {M : zH} {r : Nat} {w : List Nat} (h : z_row M r 60 (w.map nI)) : w.length ≤ 60 := by
  have := h.le.1
  simpa using this

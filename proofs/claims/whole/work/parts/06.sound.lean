/-! the step is right -/
set_option maxHeartbeats 4000000 in
set_option maxRecDepth 100000 in
theorem z_n_ok {P K : zP} {l : Launch} {E : zE} {R : Room} {cn : Nat} {cc : ByteArray} {nL : Nat} {rt : Option FieldType} {ini : Bool} {Kr : Option Value → zS → Prop} (C : z_OK P l E R cn cc nL rt ini Kr) (hK : ∀ S pc lv st, K S pc lv st → P S pc lv st) {S : zS} {pc : Nat} {lv : zL} {st : List Value} {len : Nat} {i : Instr} (hd : decode cc pc = .ok (i, len)) (h : z_n K Kr cn rt ini S pc lv st len i) : P S pc lv st := by
  obtain ⟨p, e, s, m, args, below, meth, c, Q, rfl, ⟨hx, hb, hml, hrt, hown, hts, hlocks, hini, hKK, hN, hsz⟩, hQ⟩ := C
  intro H locs ls hR hS hl
  have ld : ∀ {j : Nat} {v : Value}, z_at lv j = some (some v) → ls[j]? = some (.val v) := fun h => hl.get h
  obtain ⟨l0, hl1, hl2, hl3, hl4⟩ := id hl
  have br : ∀ {off : Int} {r : List Value} {q : Prop}, z_br K S pc off lv r q → ((pc : Int) + off = (((pc : Int) + off).toNat : Int)) ∧ (q → W p l e R s m args below meth c H locs S.2.2.1 S.2.2.2 Q (F0 m ((pc : Int) + off).toNat ls r)) ∧ (¬ q → W p l e R s m args below meth c H locs S.2.2.1 S.2.2.2 Q (F0 m (pc + 3) ls r)) := fun hq => ⟨(Int.toNat_of_nonneg hq.1).symm, fun z => hK _ _ _ _ (hq.2.1 z) H locs ls hR hS hl, fun z => hK _ _ _ _ (hq.2.2 z) H locs ls hR hS hl⟩
  have bn : ∀ {off : Int} {r : List Value} {q : Prop}, z_bn K S pc off lv r q → ((pc : Int) + off = (((pc : Int) + off).toNat : Int)) ∧ (q → W p l e R s m args below meth c H locs S.2.2.1 S.2.2.2 Q (F0 m (pc + 3) ls r)) ∧ (¬ q → W p l e R s m args below meth c H locs S.2.2.1 S.2.2.2 Q (F0 m ((pc : Int) + off).toNat ls r)) := fun hq => ⟨(Int.toNat_of_nonneg hq.1).symm, fun z => hK _ _ _ _ (hq.2.1 z) H locs ls hR hS hl, fun z => hK _ _ _ _ (hq.2.2 z) H locs ls hR hS hl⟩
  cases i
  case iconst n => obtain ⟨rfl, h⟩ := h; exact lv_iconst hx hb hd rfl (hK _ _ _ _ h H locs ls hR hS hl)
  case bipush n => obtain ⟨rfl, h⟩ := h; exact lv_bipush hx hb hd rfl (hK _ _ _ _ h H locs ls hR hS hl)
  case sipush n => obtain ⟨rfl, h⟩ := h; exact lv_sipush hx hb hd rfl (hK _ _ _ _ h H locs ls hR hS hl)
  case aconst_null => obtain ⟨rfl, h⟩ := h; exact lv_null hx hb hd (hK _ _ _ _ h H locs ls hR hS hl)
  case iload_n k => obtain ⟨rfl, h⟩ := h; replace h := z_ldi_spec h; obtain ⟨a, h1, h⟩ := h; exact lv_iload_n hx hb hd rfl (ld h1) (hK _ _ _ _ h H locs ls hR hS hl)
  case iload k => obtain ⟨rfl, h⟩ := h; replace h := z_ldi_spec h; obtain ⟨a, h1, h⟩ := h; exact lv_iload hx hb hd (ld h1) (hK _ _ _ _ h H locs ls hR hS hl)
  case aload_n k =>
    obtain ⟨rfl, h⟩ := h
    replace h := z_lda_spec h; rcases h with ⟨a, h1, h⟩ | ⟨h1, h⟩
    · exact lv_aload_n hx hb hd rfl (ld h1) (hK _ _ _ _ h H locs ls hR hS hl)
    · exact lv_aload_nN hx hb hd rfl (ld h1) (hK _ _ _ _ h H locs ls hR hS hl)
  case aload k =>
    obtain ⟨rfl, h⟩ := h
    replace h := z_lda_spec h; rcases h with ⟨a, h1, h⟩ | ⟨h1, h⟩
    · exact lv_aload hx hb hd (ld h1) (hK _ _ _ _ h H locs ls hR hS hl)
    · exact lv_aloadN hx hb hd (ld h1) (hK _ _ _ _ h H locs ls hR hS hl)
  case istore_n k =>
    obtain ⟨rfl, h⟩ := h; replace h := z_s1_spec h; obtain ⟨a, r, rfl, h⟩ := h; replace h := z_sto_spec h; obtain ⟨h1, h⟩ := h
    exact lv_istore_n hx hb hd rfl hl1 (by rw [← hl3]; exact h1) rfl (fun ls' hl' => hK _ _ _ _ h H locs ls' hR hS (z_L.put hl2 hl3 hl4 rfl hl'))
  case istore k =>
    obtain ⟨rfl, h⟩ := h; replace h := z_s1_spec h; obtain ⟨a, r, rfl, h⟩ := h; replace h := z_sto_spec h; obtain ⟨h1, h⟩ := h
    exact lv_istore hx hb hd hl1 (by rw [← hl3]; exact h1) rfl (fun ls' hl' => hK _ _ _ _ h H locs ls' hR hS (z_L.put hl2 hl3 hl4 rfl hl'))
  case astore_n k =>
    obtain ⟨rfl, h⟩ := h
    replace h := z_sa_spec h; rcases h with ⟨a, r, rfl, h⟩ | ⟨r, rfl, h⟩ <;> (replace h := z_sto_spec h; obtain ⟨h1, h⟩ := h)
    · exact lv_astore_n hx hb hd rfl hl1 (by rw [← hl3]; exact h1) rfl (fun ls' hl' => hK _ _ _ _ h H locs ls' hR hS (z_L.put hl2 hl3 hl4 rfl hl'))
    · exact lv_astore_nN hx hb hd rfl hl1 (by rw [← hl3]; exact h1) rfl (fun ls' hl' => hK _ _ _ _ h H locs ls' hR hS (z_L.put hl2 hl3 hl4 rfl hl'))
  case astore k =>
    obtain ⟨rfl, h⟩ := h
    replace h := z_sa_spec h; rcases h with ⟨a, r, rfl, h⟩ | ⟨r, rfl, h⟩ <;> (replace h := z_sto_spec h; obtain ⟨h1, h⟩ := h)
    · exact lv_astore hx hb hd hl1 (by rw [← hl3]; exact h1) rfl (fun ls' hl' => hK _ _ _ _ h H locs ls' hR hS (z_L.put hl2 hl3 hl4 rfl hl'))
    · exact lv_astoreN hx hb hd hl1 (by rw [← hl3]; exact h1) rfl (fun ls' hl' => hK _ _ _ _ h H locs ls' hR hS (z_L.put hl2 hl3 hl4 rfl hl'))
  case iinc k n =>
    obtain ⟨rfl, h⟩ := h; replace h := z_ldi_spec h; obtain ⟨a, h1, h⟩ := h
    obtain ⟨j, hj⟩ := List.getElem?_of_mem (hl4 _ _ h1)
    exact lv_iinc hx hb hd hl1 hj rfl (by rw [← hl3]; exact z_at_lt h1) rfl (fun ls' hl' => hK _ _ _ _ h H locs ls' hR hS (z_L.put hl2 hl3 hl4 rfl hl'))
  case iadd => obtain ⟨rfl, h⟩ := h; replace h := z_s2_spec h; obtain ⟨a, b, r, rfl, h⟩ := h; exact lv_iadd hx hb hd (hK _ _ _ _ h H locs ls hR hS hl)
  case isub => obtain ⟨rfl, h⟩ := h; replace h := z_s2_spec h; obtain ⟨a, b, r, rfl, h⟩ := h; exact lv_isub hx hb hd (hK _ _ _ _ h H locs ls hR hS hl)
  case imul => obtain ⟨rfl, h⟩ := h; replace h := z_s2_spec h; obtain ⟨a, b, r, rfl, h⟩ := h; exact lv_imul hx hb hd (hK _ _ _ _ h H locs ls hR hS hl)
  case iand => obtain ⟨rfl, h⟩ := h; replace h := z_s2_spec h; obtain ⟨a, b, r, rfl, h⟩ := h; exact lv_iand hx hb hd (hK _ _ _ _ h H locs ls hR hS hl)
  case ior => obtain ⟨rfl, h⟩ := h; replace h := z_s2_spec h; obtain ⟨a, b, r, rfl, h⟩ := h; exact lv_ior hx hb hd (hK _ _ _ _ h H locs ls hR hS hl)
  case ixor => obtain ⟨rfl, h⟩ := h; replace h := z_s2_spec h; obtain ⟨a, b, r, rfl, h⟩ := h; exact lv_ixor hx hb hd (hK _ _ _ _ h H locs ls hR hS hl)
  case ishl => obtain ⟨rfl, h⟩ := h; replace h := z_s2_spec h; obtain ⟨a, b, r, rfl, h⟩ := h; exact lv_ishl hx hb hd (hK _ _ _ _ h H locs ls hR hS hl)
  case ishr => obtain ⟨rfl, h⟩ := h; replace h := z_s2_spec h; obtain ⟨a, b, r, rfl, h⟩ := h; exact lv_ishr hx hb hd (hK _ _ _ _ h H locs ls hR hS hl)
  case i2b => obtain ⟨rfl, h⟩ := h; replace h := z_s1_spec h; obtain ⟨a, r, rfl, h⟩ := h; exact lv_i2b hx hb hd rfl (hK _ _ _ _ h H locs ls hR hS hl)
  case idiv => obtain ⟨rfl, h⟩ := h; replace h := z_s2_spec h; obtain ⟨a, b, r, rfl, h0, h⟩ := h; exact lv_idiv hx hb hd h0 (hK _ _ _ _ h H locs ls hR hS hl)
  case irem => obtain ⟨rfl, h⟩ := h; replace h := z_s2_spec h; obtain ⟨a, b, r, rfl, h0, h⟩ := h; exact lv_irem hx hb hd h0 (hK _ _ _ _ h H locs ls hR hS hl)
  case i2c => obtain ⟨rfl, h⟩ := h; replace h := z_s1_spec h; obtain ⟨a, r, rfl, h⟩ := h; exact lv_i2c hx hb hd rfl (hK _ _ _ _ h H locs ls hR hS hl)
  case dup => obtain ⟨rfl, h⟩ := h; replace h := z_sv_spec h; obtain ⟨v, r, rfl, hc, h⟩ := h; exact lv_dup hx hb hd hc (hK _ _ _ _ h H locs ls hR hS hl)
  case dup2 => obtain ⟨rfl, h⟩ := h; replace h := z_sv_spec h; obtain ⟨v, r, rfl, hc, h⟩ := h; replace h := z_sv_spec h; obtain ⟨w, r, rfl, hc2, h⟩ := h; exact lv_dup2_11 hx hb hd hc hc2 (hK _ _ _ _ h H locs ls hR hS hl)
  case pop => obtain ⟨rfl, h⟩ := h; replace h := z_sv_spec h; obtain ⟨v, r, rfl, hc, h⟩ := h; exact lv_pop hx hb hd hc (hK _ _ _ _ h H locs ls hR hS hl)
  case goto off => obtain ⟨rfl, h0, h⟩ := h; exact lv_goto hx hb hd (Int.toNat_of_nonneg h0).symm (hK _ _ _ _ h H locs ls hR hS hl)
  case ifCond q off =>
    cases q
    case eq => obtain ⟨rfl, h⟩ := h; replace h := z_s1_spec h; obtain ⟨a, r, rfl, h⟩ := h; obtain ⟨h1, h2, h3⟩ := br h; exact lv_if_eq hx hb hd h1 h2 h3
    case ne => obtain ⟨rfl, h⟩ := h; replace h := z_s1_spec h; obtain ⟨a, r, rfl, h⟩ := h; obtain ⟨h1, h2, h3⟩ := bn h; exact lv_if_ne hx hb hd h1 h3 h2
    case lt => obtain ⟨rfl, h⟩ := h; replace h := z_s1_spec h; obtain ⟨a, r, rfl, h⟩ := h; obtain ⟨h1, h2, h3⟩ := br h; exact lv_if_lt hx hb hd h1 h2 h3
    case ge => obtain ⟨rfl, h⟩ := h; replace h := z_s1_spec h; obtain ⟨a, r, rfl, h⟩ := h; obtain ⟨h1, h2, h3⟩ := br h; exact lv_if_ge hx hb hd h1 h2 h3
    case gt => obtain ⟨rfl, h⟩ := h; replace h := z_s1_spec h; obtain ⟨a, r, rfl, h⟩ := h; obtain ⟨h1, h2, h3⟩ := br h; exact lv_if_gt hx hb hd h1 h2 h3
    case le => obtain ⟨rfl, h⟩ := h; replace h := z_s1_spec h; obtain ⟨a, r, rfl, h⟩ := h; obtain ⟨h1, h2, h3⟩ := br h; exact lv_if_le hx hb hd h1 h2 h3
  case if_icmp q off =>
    cases q
    case eq => obtain ⟨rfl, h⟩ := h; replace h := z_s2_spec h; obtain ⟨a, b, r, rfl, h⟩ := h; obtain ⟨h1, h2, h3⟩ := br h; exact lv_icmp_eq hx hb hd h1 h2 h3
    case ne => obtain ⟨rfl, h⟩ := h; replace h := z_s2_spec h; obtain ⟨a, b, r, rfl, h⟩ := h; obtain ⟨h1, h2, h3⟩ := bn h; exact lv_icmp_ne hx hb hd h1 h3 h2
    case lt => obtain ⟨rfl, h⟩ := h; replace h := z_s2_spec h; obtain ⟨a, b, r, rfl, h⟩ := h; obtain ⟨h1, h2, h3⟩ := br h; exact lv_icmp_lt hx hb hd h1 h2 h3
    case ge => obtain ⟨rfl, h⟩ := h; replace h := z_s2_spec h; obtain ⟨a, b, r, rfl, h⟩ := h; obtain ⟨h1, h2, h3⟩ := br h; exact lv_icmp_ge hx hb hd h1 h2 h3
    case gt => obtain ⟨rfl, h⟩ := h; replace h := z_s2_spec h; obtain ⟨a, b, r, rfl, h⟩ := h; obtain ⟨h1, h2, h3⟩ := br h; exact lv_icmp_gt hx hb hd h1 h2 h3
    case le => obtain ⟨rfl, h⟩ := h; replace h := z_s2_spec h; obtain ⟨a, b, r, rfl, h⟩ := h; obtain ⟨h1, h2, h3⟩ := br h; exact lv_icmp_le hx hb hd h1 h2 h3
  case ifnull off =>
    obtain ⟨rfl, h0, h⟩ := h
    replace h := z_sa_spec h; rcases h with ⟨a, r, rfl, h⟩ | ⟨r, rfl, h⟩
    · exact lv_ifnull hx hb hd (hK _ _ _ _ h H locs ls hR hS hl)
    · exact lv_ifnullN hx hb hd (Int.toNat_of_nonneg h0).symm (hK _ _ _ _ h H locs ls hR hS hl)
  case ifnonnull off =>
    obtain ⟨rfl, h0, h⟩ := h
    replace h := z_sa_spec h; rcases h with ⟨a, r, rfl, h⟩ | ⟨r, rfl, h⟩
    · exact lv_ifnonnull hx hb hd (Int.toNat_of_nonneg h0).symm (hK _ _ _ _ h H locs ls hR hS hl)
    · exact lv_ifnonnullN hx hb hd (hK _ _ _ _ h H locs ls hR hS hl)
  case getfield ix =>
    obtain ⟨rfl, h⟩ := h
    split at h
    · rename_i a r
      split at h
      · rename_i ci k hf
        replace h := z_ob_spec h; obtain ⟨fs, h1, h⟩ := h
        split at h
        · rename_i v hv
          obtain ⟨q, g1, g2, g3, -⟩ := z_fld_ok hf
          obtain ⟨u1, -⟩ := z_cl_ok g1
          rw [z_at_eq] at g1 hv
          exact va_get (q0 := 0) (k := k) hx hb hts u1 hown hKK (hR.cell h1) rfl g1 g2 (hts _ g3) (fun _ h9 => h9) hv hd (hK _ _ _ _ h H locs ls hR hS hl)
        · exact h.elim
      · exact h.elim
    · exact h.elim
  case putfield ix =>
    obtain ⟨rfl, h⟩ := h
    split at h
    · rename_i v a r
      split at h
      · rename_i ci k hf
        replace h := z_ob_spec h; obtain ⟨fs, h1, hfit, h⟩ := h
        split at h
        · rename_i w hw
          obtain ⟨q, g1, g2, g3, g4⟩ := z_fld_ok hf
          obtain ⟨u1, u2, u3, u4⟩ := z_cl_ok g1
          have hfs := z_at_lt hw
          obtain ⟨f1, f2, f3⟩ := hfit
          have hfin : z_fin ci k = (q.2.1 k).2.2.2 := by unfold z_fin; rw [g1]
          rw [z_at_eq] at g1
          have hap := va_apart (own := z_own cn) hts u1 (z_ty ci) u2 u3 hKK g1
          obtain ⟨r', e1, cell, q1, q2, q3, q4⟩ := (hR.2 a _ h1).2
          have hr' : r' = q := Option.some.inj (e1.symm.trans g1)
          subst hr'
          obtain ⟨hSl, hfc, kC, hkC, hkind⟩ := hKK.1 ci _ g1
          obtain ⟨cf, kf, fi, f, hi, hsl⟩ := hSl k g2
          have hst := (u_facts hfc hkC (u_lays hts u1 g2) hi).1
          have fin : ∀ H' : Heap, H'[a]? = some (cell.setSlot f.slot v) → H'.size = H.size → (∀ q : Nat, q ≠ a → H'[q]? = H[q]?) → ∀ locs', locs' = locs ++ [⟨a, f.slot⟩] → W p l e R s m args below meth c H' locs' S.2.2.1 S.2.2.2 Q (F0 m (pc + 3) ls r) := by
            intro H' w1 w2 w3 locs' hlocs
            subst hlocs
            rw [hsl] at w1 ⊢
            have hfs2 : k < fs.length := hfs
            refine hK _ _ _ _ h H' _ ls (hR.put h1 w2 ?_ w3) (hS.put w2 w3 (hR.2 a _ h1).1) hl
            rw [z_st_eq]
            exact ⟨_, g1, t_OB.to (V := updV (vp_V fs) k v) ⟨_, w1, q2, q3, t_set q4 hap g2 v⟩ (fun j _ => vp_updV_set hfs2 v j)⟩
          have hlay := hts _ (u1 _ (u_in_lay g2))
          unfold u_lay at hlay
          cases hF : (r'.2.1 k).2.2.2 with
          | false =>
            rw [if_neg (by rw [hF]; decide)] at hlay
            have h6 := u_store hfc hkC hkind hlay hi (u2 k g2) f1 f2
            exact W.putK hx hb (f := f) ⟨hown, hts _ g3, ⟨_, _, _, hi⟩, hst⟩ (by rw [q2]; exact h6) q1 q3 (by rw [hsl]; exact k2_hasslot (q4 k g2)) rfl rfl hd fun H' w1 w2 w3 => fin H' w1 w2 w3 _ rfl
          | true =>
            rw [if_pos hF] at hlay
            obtain ⟨i1, i2⟩ := f3 (hfin.trans hF)
            have hcf : m.cls = cf := by
              obtain ⟨_, _, c', _, _, _, -, -, hf', -, -, -, hown2, -⟩ := Cond.laysFinal_spec hlay
              have e1 : c' = cf := by have := hi.symm.trans hf'; simp at this; exact this.1.symm
              rw [g4, ← i2] at hown2
              rw [← e1]; exact Option.some.inj (hown.symm.trans hown2)
            have h6 := u_fits hfc hkC hkind (Or.inr hlay) hi (u2 k g2) f1 f2
            exact W.putFinK hx hb hown (hts _ g3) hi hst hcf (hini i1) (by rw [q2]; exact h6) q1 q3 (by rw [hsl]; exact k2_hasslot (q4 k g2)) rfl rfl hd fun H' w1 w2 w3 => fin H' w1 w2 w3 _ rfl
        · exact h.elim
      · exact h.elim
    · exact h.elim
  case iaload =>
    obtain ⟨rfl, h⟩ := h
    split at h
    · rename_i j a r
      replace h := z_ar_spec h; obtain ⟨n, f, h1, h2, h⟩ := h
      exact va_iald (q0 := 0) (t0 := 0) hx hb hKK (hR.cell h1) rfl rfl h2 hd (hK _ _ _ _ h H locs ls hR hS hl)
    · exact h.elim
  case baload =>
    obtain ⟨rfl, h⟩ := h
    split at h
    · rename_i j a r
      replace h := z_ar_spec h; obtain ⟨n, f, h1, h2, h⟩ := h
      exact va_zald (q0 := 0) (t0 := 1) hx hb hKK (hR.cell h1) rfl rfl h2 hd (hK _ _ _ _ h H locs ls hR hS hl)
    · exact h.elim
  case aaload =>
    obtain ⟨rfl, h⟩ := h
    split at h
    · rename_i j a r
      replace h := z_aq_spec h; obtain ⟨t, n, f, ht, h1, h2, h⟩ := h
      rcases ht with rfl | rfl
      · exact va_aldq (q0 := 0) (t0 := 2) hx hb hKK (hR.cell h1) rfl rfl h2 hd (hK _ _ _ _ h H locs ls hR hS hl)
      · exact va_aldq (q0 := 0) (t0 := 3) hx hb hKK (hR.cell h1) rfl rfl h2 hd (hK _ _ _ _ h H locs ls hR hS hl)
    · exact h.elim
  case iastore =>
    obtain ⟨rfl, h⟩ := h
    split at h
    · rename_i b j a r
      replace h := z_ar_spec h; obtain ⟨n, f, h1, h2, h⟩ := h
      have hP := hR.cell h1
      refine W.iast hx hb (hP 0 _ rfl) ((hKK.2 0 _ rfl).1 n (fun j => .int (f j))) (fun q => by cases q) (by show ¬ (j < 0 ∨ (arrV _ _ _).slots.size ≤ _); rw [arrV_size]; exact h2) rfl rfl hd fun H1 e1 z oq => ?_
      refine hK _ _ _ _ h H1 _ ls (hR.put h1 z ?_ oq) (hS.put z oq (hR.2 a _ h1).1) hl
      show H1[a]? = some (vp_cell _ _)
      rw [e1]
      simp only [z_cv]
      rw [vp_cell_i, vp_cell_i, arrV_store]
      congr 2
      funext q
      by_cases hq : q = j.toNatClampNeg
      · subst hq
        simp [updV, upd]
      · simp [updV, upd, hq]
    · exact h.elim
  case bastore =>
    obtain ⟨rfl, h⟩ := h
    split at h
    · rename_i b j a r
      replace h := z_ar_spec h; obtain ⟨n, f, h1, h2, h⟩ := h
      have hP := hR.cell h1
      refine W.zast hx hb (hP 0 _ rfl) ((hKK.2 1 _ rfl).1 n (fun j => .int (f j))) (fun q => by cases q) (by show ¬ (j < 0 ∨ (arrV _ _ _).slots.size ≤ _); rw [arrV_size]; exact h2) rfl rfl hd fun H1 e1 z oq => ?_
      refine hK _ _ _ _ h H1 _ ls (hR.put h1 z ?_ oq) (hS.put z oq (hR.2 a _ h1).1) hl
      show H1[a]? = some (vp_cell _ _)
      rw [e1]
      simp only [z_cv]
      rw [vp_cell_i, vp_cell_i, arrV_store]
      congr 2
      funext q
      by_cases hq : q = j.toNatClampNeg
      · subst hq
        simp [updV, upd, vp_nar]
        try rfl
      · simp [updV, upd, hq]
    · exact h.elim
  case arraylength =>
    obtain ⟨rfl, h⟩ := h
    split at h
    · rename_i a r
      replace h := z_al_spec h; obtain ⟨t, y, ht, h1, h⟩ := h
      rcases (show t = 0 ∨ t = 1 ∨ t = 2 ∨ t = 3 by omega) with rfl | rfl | rfl | rfl
      · exact va_alen (q0 := 0) (t0 := 0) hx hb hKK (hR.cell h1) rfl rfl rfl hd (hK _ _ _ _ h H locs ls hR hS hl)
      · exact va_alen (q0 := 0) (t0 := 1) hx hb hKK (hR.cell h1) rfl rfl rfl hd (hK _ _ _ _ h H locs ls hR hS hl)
      · exact va_alen (q0 := 0) (t0 := 2) hx hb hKK (hR.cell h1) rfl rfl rfl hd (hK _ _ _ _ h H locs ls hR hS hl)
      · exact va_alen (q0 := 0) (t0 := 3) hx hb hKK (hR.cell h1) rfl rfl rfl hd (hK _ _ _ _ h H locs ls hR hS hl)
    · exact h.elim
  case ireturn =>
    obtain ⟨rfl, h⟩ := h
    split at h
    · rename_i v
      obtain ⟨h1, h2⟩ := h
      obtain ⟨post, mc, ms, rfl, c1, c2, hp⟩ := hQ _ _ h2
      refine W.widen c1 c2 ?_
      unfold z_rt at h1
      split at h1
      · exact W.iret (v := v) hx hb hrt (fun t ht hW => ⟨⟨_, S.1, S.2.1, rfl, hp, by rw [ht]; exact hR⟩, hS.F ht⟩) hS.2.2 hd
      · exact W.zret (v := v) hx hb hrt h1 (fun t ht hW => ⟨⟨_, S.1, S.2.1, rfl, hp, by rw [ht]; exact hR⟩, hS.F ht⟩) hS.2.2 hd
      · exact W.zret (v := v) hx hb hrt h1 (fun t ht hW => ⟨⟨_, S.1, S.2.1, rfl, hp, by rw [ht]; exact hR⟩, hS.F ht⟩) hS.2.2 hd
      · exact W.zret (v := v) hx hb hrt h1 (fun t ht hW => ⟨⟨_, S.1, S.2.1, rfl, hp, by rw [ht]; exact hR⟩, hS.F ht⟩) hS.2.2 hd
      · exact h1.elim
    · exact h.elim
  case areturn =>
    obtain ⟨rfl, h1, h⟩ := h
    unfold z_ra at h1
    split at h1
    · split at h
      · obtain ⟨post, mc, ms, rfl, c1, c2, hp⟩ := hQ _ _ h
        refine W.widen c1 c2 ?_
        exact W.aret hx hb hrt (Or.inl ⟨_, rfl⟩) (Or.inr ⟨_, rfl⟩) (fun t ht hW => ⟨⟨_, S.1, S.2.1, rfl, hp, by rw [ht]; exact hR⟩, hS.F ht⟩) hS.2.2 hd
      · obtain ⟨post, mc, ms, rfl, c1, c2, hp⟩ := hQ _ _ h
        refine W.widen c1 c2 ?_
        exact W.aret hx hb hrt (Or.inl ⟨_, rfl⟩) (Or.inl rfl) (fun t ht hW => ⟨⟨_, S.1, S.2.1, rfl, hp, by rw [ht]; exact hR⟩, hS.F ht⟩) hS.2.2 hd
      · exact h.elim
    · exact h1.elim
  case return_ =>
    obtain ⟨rfl, h1, h⟩ := h
    split at h
    · obtain ⟨post, mc, ms, rfl, c1, c2, hp⟩ := hQ _ _ h
      refine W.widen c1 c2 ?_
      exact W.vret hx hb (hrt.trans h1) (fun t ht hW => ⟨⟨_, S.1, S.2.1, rfl, hp, by rw [ht]; exact hR⟩, hS.F ht⟩) hS.2.2 hd
    · exact h.elim
  all_goals exact False.elim h
def z_mem : Nat → List Nat → Bool
  | _, [] => false
  | a, b :: l => (a == b) || z_mem a l
/-- the walk of up to n steps; it stops at calls, and where the places of ss are reached -/
def z_x (P : zP) (Kr : Option Value → zS → Prop) (cn : Nat) (cc : ByteArray) (rt : Option FieldType) (ini : Bool) (ss : List Nat) : Nat → zS → Nat → zL → List Value → Prop
  | 0, S, pc, lv, st => P S pc lv st
  | n + 1, S, pc, lv, st => match decode cc pc with
    | .ok (i, len) => if z_stop i = true then P S pc lv st else z_n (fun S pc lv st => if z_mem pc ss = true then P S pc lv st else z_x P Kr cn cc rt ini ss n S pc lv st) Kr cn rt ini S pc lv st len i
    | _ => False
theorem z_run {P : zP} {l : Launch} {E : zE} {R : Room} {cn : Nat} {cc : ByteArray} {nL : Nat} {rt : Option FieldType} {ini : Bool} {Kr : Option Value → zS → Prop} (C : z_OK P l E R cn cc nL rt ini Kr) (ss : List Nat) : ∀ (n : Nat) {S : zS} {pc : Nat} {lv : zL} {st : List Value}, z_x P Kr cn cc rt ini ss n S pc lv st → P S pc lv st
  | 0, S, pc, lv, st, h => h
  | n + 1, S, pc, lv, st, h => by
    unfold z_x at h
    split at h
    · rename_i i len hd
      split at h
      · exact h
      · refine z_n_ok C (fun S pc lv st h => ?_) hd h
        split at h
        · exact h
        · exact z_run C ss n h
    · exact h.elim

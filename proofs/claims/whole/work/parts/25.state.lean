/-! THE OBJECT AT b -/
def z_row1 (M : zH) (r cap : Nat) : Prop := ∃ w : List Nat, z_row M r cap (w.map nI)
def z_obj (M : zH) (b : Nat) (kept : Nat) (told : Int32) : Prop := M b = some (.inr (5, [.ref (b + 1), .ref (b + 3), .ref (b + 5), .ref (b + 7), .ref (b + 9), .ref (b + 11), .ref (b + 13), .ref (b + 15), .ref (b + 25), .ref (b + 46), .ref (b + 47), .ref (b + 52), .int (nI kept), .int told]))
def z_scr (M : zH) (b : Nat) : Prop := z_row1 M (b + 3) 60 ∧ z_row1 M (b + 5) 120 ∧ z_row1 M (b + 7) 120 ∧ z_row1 M (b + 9) 120 ∧ z_row1 M (b + 11) 120 ∧ z_row1 M (b + 13) 120 ∧ (∃ sp tm : Nat, M (b + 46) = some (.inr (1, [.int (nI sp), .int (nI tm)]))) ∧ (∃ bef st lst nxt, z_sho M b bef st lst nxt) ∧ ∃ p q, z_brd M (b + 52) p q
def z_core (M : zH) (b : Nat) (pad : List Nat) (wk : Nat → List Nat) (im : Nat → Nat → List Nat) (kept : Nat) (told : Int32) : Prop := z_obj M b kept told ∧ z_row M (b + 1) 40 (pad.map nI) ∧ z_wks M (b + 15) wk ∧ (∃ f, M (b + 25) = some (.inl (3, 2, .inr (.inr (.inr (.inr f))))) ∧ f 0 = some (b + 26) ∧ f 1 = some (b + 36)) ∧ z_wks M (b + 26) (im 0) ∧ z_wks M (b + 36) (im 1)
def z_sA (b : Nat) : Nat → Prop := fun q => (b + 3 ≤ q ∧ q < b + 15) ∨ (b + 46 ≤ q ∧ q < b + 55)
theorem z_core.fp {M M' : zH} {b : Nat} {pad : List Nat} {wk : Nat → List Nat} {im : Nat → Nat → List Nat} {kept : Nat} {told : Int32} (h : z_core M b pad wk im kept told) (hf : z_fp M M' (z_sA b)) : z_core M' b pad wk im kept told := by
  obtain ⟨h1, h2, h3, ⟨f, h4, h5⟩, h6, h7⟩ := h
  unfold z_sA at hf
  exact ⟨(hf _ (by omega)).trans h1, h2.fp hf (by omega) (by omega), h3.fp hf (fun q _ _ => by omega), ⟨f, (hf _ (by omega)).trans h4, h5⟩, h6.fp hf (fun q _ _ => by omega), h7.fp hf (fun q _ _ => by omega)⟩
theorem z_row1.fp {M M' : zH} {A : Nat → Prop} {r cap : Nat} (h : z_row1 M r cap) (hf : z_fp M M' A) (h1 : ¬ A r) (h2 : ¬ A (r + 1)) : z_row1 M' r cap := by
  obtain ⟨w, hw⟩ := h
  exact ⟨w, hw.fp hf h1 h2⟩
theorem z_sho.fp {M M' : zH} {A : Nat → Prop} {b : Nat} {bef st lst nxt : Nat → Int32} (h : z_sho M b bef st lst nxt) (hf : z_fp M M' A) (hA : ∀ q, b + 47 ≤ q → q ≤ b + 51 → ¬ A q) : z_sho M' b bef st lst nxt := by
  obtain ⟨h1, h2, h3, h4, h5⟩ := h
  exact ⟨(hf _ (hA _ (by omega) (by omega))).trans h1, (hf _ (hA _ (by omega) (by omega))).trans h2, (hf _ (hA _ (by omega) (by omega))).trans h3, (hf _ (hA _ (by omega) (by omega))).trans h4, (hf _ (hA _ (by omega) (by omega))).trans h5⟩
/-- the scratch cells, when some of them have changed: those that did are given anew -/
theorem z_scr.fp {M M' : zH} {A : Nat → Prop} {b : Nat} (h : z_scr M b) (hf : z_fp M M' A) (r3 : (¬ A (b + 3) ∧ ¬ A (b + 4)) ∨ z_row1 M' (b + 3) 60) (r5 : (¬ A (b + 5) ∧ ¬ A (b + 6)) ∨ z_row1 M' (b + 5) 120) (r7 : (¬ A (b + 7) ∧ ¬ A (b + 8)) ∨ z_row1 M' (b + 7) 120) (r9 : (¬ A (b + 9) ∧ ¬ A (b + 10)) ∨ z_row1 M' (b + 9) 120) (r11 : (¬ A (b + 11) ∧ ¬ A (b + 12)) ∨ z_row1 M' (b + 11) 120) (r13 : (¬ A (b + 13) ∧ ¬ A (b + 14)) ∨ z_row1 M' (b + 13) 120) (r46 : ¬ A (b + 46) ∨ ∃ sp tm : Nat, M' (b + 46) = some (.inr (1, [.int (nI sp), .int (nI tm)]))) (r47 : (∀ q, b + 47 ≤ q → q ≤ b + 51 → ¬ A q) ∨ ∃ bef st lst nxt, z_sho M' b bef st lst nxt) (r52 : (∀ q, b + 52 ≤ q → q ≤ b + 54 → ¬ A q) ∨ ∃ p q, z_brd M' (b + 52) p q) : z_scr M' b := by
  obtain ⟨h3, h5, h7, h9, h11, h13, ⟨sp, tm, h46⟩, ⟨bef, st, lst, nxt, h47⟩, ⟨p, q, h52⟩⟩ := h
  refine ⟨?_, ?_, ?_, ?_, ?_, ?_, ?_, ?_, ?_⟩
  · exact r3.elim (fun z => h3.fp hf z.1 z.2) id
  · exact r5.elim (fun z => h5.fp hf z.1 z.2) id
  · exact r7.elim (fun z => h7.fp hf z.1 z.2) id
  · exact r9.elim (fun z => h9.fp hf z.1 z.2) id
  · exact r11.elim (fun z => h11.fp hf z.1 z.2) id
  · exact r13.elim (fun z => h13.fp hf z.1 z.2) id
  · exact r46.elim (fun z => ⟨sp, tm, (hf _ z).trans h46⟩) id
  · exact r47.elim (fun z => ⟨bef, st, lst, nxt, h47.fp hf z⟩) id
  · exact r52.elim (fun z => ⟨p, q, h52.fp hf (z _ (by omega) (by omega)) (z _ (by omega) (by omega)) (z _ (by omega) (by omega))⟩) id
def m_lets (w : List Nat) : List Nat := w.flatMap m_let
def m_lstF : List Nat → Nat → List Nat
  | [], _ => []
  | s :: w, i => List.replicate (m_chg s) i ++ m_lstF w (i + 1)
def m_lst (w : List Nat) : List Nat := m_lstF w 0
theorem m_lets_app (a c : List Nat) : m_lets (a ++ c) = m_lets a ++ m_lets c := by simp [m_lets]
theorem m_lstF_app : ∀ (a c : List Nat) (i : Nat), m_lstF (a ++ c) i = m_lstF a i ++ m_lstF c (i + a.length)
  | [], c, i => by simp [m_lstF]
  | s :: a, c, i => by
    simp only [List.cons_append, m_lstF, m_lstF_app a c (i + 1), List.append_assoc, List.length_cons]
    rw [show i + 1 + a.length = i + (a.length + 1) by omega]
theorem m_chg_le (s : Nat) : m_chg s ≤ 2 := by unfold m_chg; split; omega; split; omega; omega
theorem m_let_len (s : Nat) : (m_let s).length = m_chg s := by simp [m_let]
theorem m_lets_len (w : List Nat) : (m_lets w).length ≤ 2 * w.length := by
  induction w with
  | nil => simp [m_lets]
  | cons s w ih =>
    have h1 : m_lets (s :: w) = m_let s ++ m_lets w := by simp [m_lets]
    have h2 := m_chg_le s
    rw [h1, List.length_append, m_let_len, List.length_cons]; omega
theorem m_letc_lt {s c : Nat} (hs : s < 15) (hc : c < 2) : m_letc s c / 10 < 7 := by
  have : ∀ s, s < 15 → ∀ c, c < 2 → m_letc s c / 10 < 7 := by decide
  exact this s hs c hc
theorem m_lets_ok {w : List Nat} (hw : ∀ s ∈ w, s < 15) (hl : w.length ≤ 60) : z_lok (m_lets w) := by
  refine ⟨by have := m_lets_len w; omega, fun a ha => ?_⟩
  obtain ⟨s, hs, has⟩ := List.mem_flatMap.mp ha
  obtain ⟨c, hc, rfl⟩ := List.mem_map.mp has
  rw [List.mem_range] at hc
  have := m_chg_le s
  exact m_letc_lt (hw s hs) (by omega)
set_option maxRecDepth 100000 in
set_option maxHeartbeats 4000000 in
theorem c_spell {l : Launch} {E : zE} {d : Nat} {M : zH} {b r h kept : Nat} {told : Int32} {w : List Nat} (ho : z_obj M b kept told) (hr : z_row M r 60 (w.map nI)) (hrb : b + 14 < r) (hw : ∀ s ∈ w, s < 15) (hh : h ≤ w.length) (h7 : z_row1 M (b + 7) 120) (h9 : z_row1 M (b + 9) 120) : nX5_spell l E (d + 2) [.ref b, .ref r, .int (nI h)] M (z_v fun M' => z_fp M M' (fun q => b + 7 ≤ q ∧ q < b + 11) ∧ z_row M' (b + 7) 120 ((m_lets (w.take h)).map nI) ∧ z_row M' (b + 9) 120 ((m_lst (w.take h)).map nI)) := by
  refine z_cn 5 fun P z C => ?_
  unfold z_obj at ho
  have hcap := hr.le
  simp only [List.length_map] at hcap
  have loop : ∀ (n i : Nat) (M1 : zH), i + n = h → z_fp M M1 (fun q => b + 7 ≤ q ∧ q < b + 11) → z_row M1 (b + 7) 120 ((m_lets (w.take i)).map nI) → z_row M1 (b + 9) 120 ((m_lst (w.take i)).map nI) → ∀ u4 u5, P (M1, z, 0, 0) 16 [some (.ref b), some (.ref r), some (.int (nI h)), some (.int (nI i)), u4, u5] [] := by
    intro n
    induction n with
    | zero =>
      intro i M1 hi hf g7 g9 u4 u5
      have ei : i = h := by omega
      subst ei
      refine z_run C [] 5 ?_
      simp only [z_x, z_n, z_stop, z_mem, z_ldi, z_lda, z_sto, z_s1, z_s2, z_sa, z_sv, z_br, z_bn, z_ob, z_ar, z_aq, z_al, z_rt, z_ra, z_at, z_st, z_K0i, z_K0v, zk_0, zk_1, zk_2, zk_3, z_lv, List.map_cons, List.map_nil, List.length_cons, List.length_nil, List.replicate, List.cons_append, List.nil_append, Nat.reduceAdd, Nat.reduceSub, Nat.reduceBEq, Nat.reduceEqDiff, Nat.reduceLT, Nat.reduceLeDiff, Nat.zero_add, Int.cast_ofNat_Int, Int.reduceAdd, Int.reduceNeg, Int.reduceToNat, Int.reduceLE, Int.zero_add, Int.toNat_zero, Int.add_zero, Int.add_neg_cancel_right, Fin.isValue, Int32.reduceOfInt, ↓reduceIte, Bool.false_eq_true, Bool.or_false, Bool.false_or, Bool.or_true, Bool.true_or, if_true, if_false, true_and, and_true, true_or, or_true, false_or, or_false, eq_self, and_self, z_up_i, Nat.add_left_cancel_iff, Nat.left_eq_add, Nat.add_eq_left, reduceCtorEq, Nat.add_one_ne_zero, z_tt, implies_true, zn_0, zn_1, zo_0, zo_1, dX5_spell_0, dX5_spell_1, dX5_spell_4, dX5_spell_7, dX5_spell_8, dX5_spell_11, dX5_spell_14, dX5_spell_15, dX5_spell_16, dX5_spell_17, dX5_spell_18, dX5_spell_21, dX5_spell_22, dX5_spell_23, dX5_spell_26, dX5_spell_29, dX5_spell_31, dX5_spell_32, dX5_spell_34, dX5_spell_36, dX5_spell_38, dX5_spell_41, dX5_spell_42, dX5_spell_45, dX5_spell_46, dX5_spell_47, dX5_spell_50, dX5_spell_52, dX5_spell_55, dX5_spell_58, dX5_spell_59, dX5_spell_60, dX5_spell_63, dX5_spell_64, dX5_spell_67, dX5_spell_68, dX5_spell_71, dX5_spell_74, dX5_spell_77, dX5_spell_80, zf_5_24, zf_5_27, zi_0, zi_1]
      exact ⟨fun _ => ⟨hf, g7, g9⟩, fun c1 => absurd (nI_le (by omega) (by omega)) c1⟩
    | succ n ih =>
      intro i M1 hi hf g7 g9 u4 u5
      have hr1 := hr.fp hf (by omega) (by omega)
      have hg : w[i]? = some (w.getD i 0) := by simp [show i < w.length by omega]
      have hs := hw _ (List.mem_of_getElem? hg)
      have hgI : z_get (w.map nI) (nI i) = nI (w.getD i 0) := z_getN (by omega) (by omega)
      have ht := z_take1 hg
      generalize w.getD i 0 = s at hg hs hgI ht
      have hch := m_chg_le s
      have el : m_lets (w.take (i + 1)) = m_lets (w.take i) ++ m_let s := by rw [ht, m_lets_app]; simp [m_lets]
      have es : m_lst (w.take (i + 1)) = m_lst (w.take i) ++ List.replicate (m_chg s) i := by
        rw [ht, m_lst, m_lstF_app]
        simp [m_lstF, show min i w.length = i by omega, m_lst]
      have inner : ∀ (k c : Nat) (M1 : zH), c + k = m_chg s → z_fp M M1 (fun q => b + 7 ≤ q ∧ q < b + 11) → z_row M1 (b + 7) 120 ((m_lets (w.take i) ++ (List.range c).map (m_letc s)).map nI) → z_row M1 (b + 9) 120 ((m_lst (w.take i) ++ List.replicate c i).map nI) → P (M1, z, 0, 0) 34 [some (.ref b), some (.ref r), some (.int (nI h)), some (.int (nI i)), some (.int (nI (m_chg s))), some (.int (nI c))] [] := by
        intro k
        induction k with
        | zero =>
          intro c M1 hc hf g7 g9
          have ec : c = m_chg s := by omega
          subst ec
          refine z_run C [16] 8 ?_
          simp only [z_x, z_n, z_stop, z_mem, z_ldi, z_lda, z_sto, z_s1, z_s2, z_sa, z_sv, z_br, z_bn, z_ob, z_ar, z_aq, z_al, z_rt, z_ra, z_at, z_st, z_K0i, z_K0v, zk_0, zk_1, zk_2, zk_3, z_lv, List.map_cons, List.map_nil, List.length_cons, List.length_nil, List.replicate, List.cons_append, List.nil_append, Nat.reduceAdd, Nat.reduceSub, Nat.reduceBEq, Nat.reduceEqDiff, Nat.reduceLT, Nat.reduceLeDiff, Nat.zero_add, Int.cast_ofNat_Int, Int.reduceAdd, Int.reduceNeg, Int.reduceToNat, Int.reduceLE, Int.zero_add, Int.toNat_zero, Int.add_zero, Int.add_neg_cancel_right, Fin.isValue, Int32.reduceOfInt, ↓reduceIte, Bool.false_eq_true, Bool.or_false, Bool.false_or, Bool.or_true, Bool.true_or, if_true, if_false, true_and, and_true, true_or, or_true, false_or, or_false, eq_self, and_self, z_up_i, Nat.add_left_cancel_iff, Nat.left_eq_add, Nat.add_eq_left, reduceCtorEq, Nat.add_one_ne_zero, z_tt, implies_true, zn_0, zn_1, zo_0, zo_1, dX5_spell_0, dX5_spell_1, dX5_spell_4, dX5_spell_7, dX5_spell_8, dX5_spell_11, dX5_spell_14, dX5_spell_15, dX5_spell_16, dX5_spell_17, dX5_spell_18, dX5_spell_21, dX5_spell_22, dX5_spell_23, dX5_spell_26, dX5_spell_29, dX5_spell_31, dX5_spell_32, dX5_spell_34, dX5_spell_36, dX5_spell_38, dX5_spell_41, dX5_spell_42, dX5_spell_45, dX5_spell_46, dX5_spell_47, dX5_spell_50, dX5_spell_52, dX5_spell_55, dX5_spell_58, dX5_spell_59, dX5_spell_60, dX5_spell_63, dX5_spell_64, dX5_spell_67, dX5_spell_68, dX5_spell_71, dX5_spell_74, dX5_spell_77, dX5_spell_80, zf_5_24, zf_5_27, zi_0, zi_1]
          refine ⟨fun _ => ?_, fun c1 => absurd (nI_le (by omega) (by omega)) c1⟩
          rw [nI_1]
          exact ih (i + 1) M1 (by omega) hf (by rw [el]; exact g7) (by rw [es]; exact g9) _ _
        | succ k ihk =>
          intro c M1 hc hf g7 g9
          have hr1 := hr.fp hf (by omega) (by omega)
          have ho1 : M1 b = _ := (hf _ (by omega)).trans ho
          have l7 := g7.le
          have l9 := g9.le
          have hl1 : (m_lets (w.take (i + 1))).length ≤ 120 := by
            have := m_lets_len (w.take (i + 1))
            simp only [List.length_take] at this
            omega
          have hl2 : (m_lst (w.take i)).length = (m_lets (w.take i)).length := by
            have gen : ∀ (v : List Nat) (j : Nat), (m_lstF v j).length = (m_lets v).length := by
              intro v
              induction v with
              | nil => intro j; simp [m_lstF, m_lets]
              | cons a v ihv =>
                intro j
                have h1 : m_lets (a :: v) = m_let a ++ m_lets v := by simp [m_lets]
                rw [h1, List.length_append, m_let_len, m_lstF, List.length_append, ihv]; simp
            exact gen _ _
          rw [el, List.length_append, m_let_len] at hl1
          refine z_run C [] 10 ?_
          simp only [z_x, z_n, z_stop, z_mem, z_ldi, z_lda, z_sto, z_s1, z_s2, z_sa, z_sv, z_br, z_bn, z_ob, z_ar, z_aq, z_al, z_rt, z_ra, z_at, z_st, z_K0i, z_K0v, zk_0, zk_1, zk_2, zk_3, z_lv, List.map_cons, List.map_nil, List.length_cons, List.length_nil, List.replicate, List.cons_append, List.nil_append, Nat.reduceAdd, Nat.reduceSub, Nat.reduceBEq, Nat.reduceEqDiff, Nat.reduceLT, Nat.reduceLeDiff, Nat.zero_add, Int.cast_ofNat_Int, Int.reduceAdd, Int.reduceNeg, Int.reduceToNat, Int.reduceLE, Int.zero_add, Int.toNat_zero, Int.add_zero, Int.add_neg_cancel_right, Fin.isValue, Int32.reduceOfInt, ↓reduceIte, Bool.false_eq_true, Bool.or_false, Bool.false_or, Bool.or_true, Bool.true_or, if_true, if_false, true_and, and_true, true_or, or_true, false_or, or_false, eq_self, and_self, z_up_i, Nat.add_left_cancel_iff, Nat.left_eq_add, Nat.add_eq_left, reduceCtorEq, Nat.add_one_ne_zero, z_tt, implies_true, zn_0, zn_1, zo_0, zo_1, dX5_spell_0, dX5_spell_1, dX5_spell_4, dX5_spell_7, dX5_spell_8, dX5_spell_11, dX5_spell_14, dX5_spell_15, dX5_spell_16, dX5_spell_17, dX5_spell_18, dX5_spell_21, dX5_spell_22, dX5_spell_23, dX5_spell_26, dX5_spell_29, dX5_spell_31, dX5_spell_32, dX5_spell_34, dX5_spell_36, dX5_spell_38, dX5_spell_41, dX5_spell_42, dX5_spell_45, dX5_spell_46, dX5_spell_47, dX5_spell_50, dX5_spell_52, dX5_spell_55, dX5_spell_58, dX5_spell_59, dX5_spell_60, dX5_spell_63, dX5_spell_64, dX5_spell_67, dX5_spell_68, dX5_spell_71, dX5_spell_74, dX5_spell_77, dX5_spell_80, zf_5_24, zf_5_27, zi_0, zi_1, ho1]
          refine ⟨fun c1 => absurd ((nI_leI (by omega) (by omega)).mp c1) (by omega), fun _ => ?_⟩
          refine z_vi C dX5_spell_47 lk_5_105 (c_get (nI i) hr1) rfl hr1.ob (fun v M2 hv => ?_)
          obtain ⟨rfl, rfl⟩ := hv
          rw [hgI]
          refine z_run C [] 1 ?_
          simp only [z_x, z_n, z_stop, z_mem, z_ldi, z_lda, z_sto, z_s1, z_s2, z_sa, z_sv, z_br, z_bn, z_ob, z_ar, z_aq, z_al, z_rt, z_ra, z_at, z_st, z_K0i, z_K0v, zk_0, zk_1, zk_2, zk_3, z_lv, List.map_cons, List.map_nil, List.length_cons, List.length_nil, List.replicate, List.cons_append, List.nil_append, Nat.reduceAdd, Nat.reduceSub, Nat.reduceBEq, Nat.reduceEqDiff, Nat.reduceLT, Nat.reduceLeDiff, Nat.zero_add, Int.cast_ofNat_Int, Int.reduceAdd, Int.reduceNeg, Int.reduceToNat, Int.reduceLE, Int.zero_add, Int.toNat_zero, Int.add_zero, Int.add_neg_cancel_right, Fin.isValue, Int32.reduceOfInt, ↓reduceIte, Bool.false_eq_true, Bool.or_false, Bool.false_or, Bool.or_true, Bool.true_or, if_true, if_false, true_and, and_true, true_or, or_true, false_or, or_false, eq_self, and_self, z_up_i, Nat.add_left_cancel_iff, Nat.left_eq_add, Nat.add_eq_left, reduceCtorEq, Nat.add_one_ne_zero, z_tt, implies_true, zn_0, zn_1, zo_0, zo_1, dX5_spell_0, dX5_spell_1, dX5_spell_4, dX5_spell_7, dX5_spell_8, dX5_spell_11, dX5_spell_14, dX5_spell_15, dX5_spell_16, dX5_spell_17, dX5_spell_18, dX5_spell_21, dX5_spell_22, dX5_spell_23, dX5_spell_26, dX5_spell_29, dX5_spell_31, dX5_spell_32, dX5_spell_34, dX5_spell_36, dX5_spell_38, dX5_spell_41, dX5_spell_42, dX5_spell_45, dX5_spell_46, dX5_spell_47, dX5_spell_50, dX5_spell_52, dX5_spell_55, dX5_spell_58, dX5_spell_59, dX5_spell_60, dX5_spell_63, dX5_spell_64, dX5_spell_67, dX5_spell_68, dX5_spell_71, dX5_spell_74, dX5_spell_77, dX5_spell_80, zf_5_24, zf_5_27, zi_0, zi_1]
          refine z_si C dX5_spell_52 lk_5_195 (c_letterOf s c (by omega)) rfl (fun v M2 hv => ?_)
          obtain ⟨rfl, rfl⟩ := hv
          refine z_vi C dX5_spell_55 lk_5_75 (c_add _ g7) rfl g7.ob (fun v M3 hv => ?_)
          obtain ⟨hf3, hv, -⟩ := hv
          obtain ⟨-, g73⟩ := hv (by simp; omega)
          have g93 := g9.fr hf3 (by simp) (by simp)
          have ho3 : M3 b = _ := (hf3 _ (by simp; omega)).trans ho1
          refine z_run C [] 4 ?_
          simp only [z_x, z_n, z_stop, z_mem, z_ldi, z_lda, z_sto, z_s1, z_s2, z_sa, z_sv, z_br, z_bn, z_ob, z_ar, z_aq, z_al, z_rt, z_ra, z_at, z_st, z_K0i, z_K0v, zk_0, zk_1, zk_2, zk_3, z_lv, List.map_cons, List.map_nil, List.length_cons, List.length_nil, List.replicate, List.cons_append, List.nil_append, Nat.reduceAdd, Nat.reduceSub, Nat.reduceBEq, Nat.reduceEqDiff, Nat.reduceLT, Nat.reduceLeDiff, Nat.zero_add, Int.cast_ofNat_Int, Int.reduceAdd, Int.reduceNeg, Int.reduceToNat, Int.reduceLE, Int.zero_add, Int.toNat_zero, Int.add_zero, Int.add_neg_cancel_right, Fin.isValue, Int32.reduceOfInt, ↓reduceIte, Bool.false_eq_true, Bool.or_false, Bool.false_or, Bool.or_true, Bool.true_or, if_true, if_false, true_and, and_true, true_or, or_true, false_or, or_false, eq_self, and_self, z_up_i, Nat.add_left_cancel_iff, Nat.left_eq_add, Nat.add_eq_left, reduceCtorEq, Nat.add_one_ne_zero, z_tt, implies_true, zn_0, zn_1, zo_0, zo_1, dX5_spell_0, dX5_spell_1, dX5_spell_4, dX5_spell_7, dX5_spell_8, dX5_spell_11, dX5_spell_14, dX5_spell_15, dX5_spell_16, dX5_spell_17, dX5_spell_18, dX5_spell_21, dX5_spell_22, dX5_spell_23, dX5_spell_26, dX5_spell_29, dX5_spell_31, dX5_spell_32, dX5_spell_34, dX5_spell_36, dX5_spell_38, dX5_spell_41, dX5_spell_42, dX5_spell_45, dX5_spell_46, dX5_spell_47, dX5_spell_50, dX5_spell_52, dX5_spell_55, dX5_spell_58, dX5_spell_59, dX5_spell_60, dX5_spell_63, dX5_spell_64, dX5_spell_67, dX5_spell_68, dX5_spell_71, dX5_spell_74, dX5_spell_77, dX5_spell_80, zf_5_24, zf_5_27, zi_0, zi_1, ho3]
          refine z_vi C dX5_spell_64 lk_5_75 (c_add _ g93) rfl g93.ob (fun v M4 hv => ?_)
          obtain ⟨hf4, hv, -⟩ := hv
          obtain ⟨-, g94⟩ := hv (by simp; omega)
          have g74 := g73.fr hf4 (by simp) (by simp)
          refine z_run C [34] 4 ?_
          simp only [z_x, z_n, z_stop, z_mem, z_ldi, z_lda, z_sto, z_s1, z_s2, z_sa, z_sv, z_br, z_bn, z_ob, z_ar, z_aq, z_al, z_rt, z_ra, z_at, z_st, z_K0i, z_K0v, zk_0, zk_1, zk_2, zk_3, z_lv, List.map_cons, List.map_nil, List.length_cons, List.length_nil, List.replicate, List.cons_append, List.nil_append, Nat.reduceAdd, Nat.reduceSub, Nat.reduceBEq, Nat.reduceEqDiff, Nat.reduceLT, Nat.reduceLeDiff, Nat.zero_add, Int.cast_ofNat_Int, Int.reduceAdd, Int.reduceNeg, Int.reduceToNat, Int.reduceLE, Int.zero_add, Int.toNat_zero, Int.add_zero, Int.add_neg_cancel_right, Fin.isValue, Int32.reduceOfInt, ↓reduceIte, Bool.false_eq_true, Bool.or_false, Bool.false_or, Bool.or_true, Bool.true_or, if_true, if_false, true_and, and_true, true_or, or_true, false_or, or_false, eq_self, and_self, z_up_i, Nat.add_left_cancel_iff, Nat.left_eq_add, Nat.add_eq_left, reduceCtorEq, Nat.add_one_ne_zero, z_tt, implies_true, zn_0, zn_1, zo_0, zo_1, dX5_spell_0, dX5_spell_1, dX5_spell_4, dX5_spell_7, dX5_spell_8, dX5_spell_11, dX5_spell_14, dX5_spell_15, dX5_spell_16, dX5_spell_17, dX5_spell_18, dX5_spell_21, dX5_spell_22, dX5_spell_23, dX5_spell_26, dX5_spell_29, dX5_spell_31, dX5_spell_32, dX5_spell_34, dX5_spell_36, dX5_spell_38, dX5_spell_41, dX5_spell_42, dX5_spell_45, dX5_spell_46, dX5_spell_47, dX5_spell_50, dX5_spell_52, dX5_spell_55, dX5_spell_58, dX5_spell_59, dX5_spell_60, dX5_spell_63, dX5_spell_64, dX5_spell_67, dX5_spell_68, dX5_spell_71, dX5_spell_74, dX5_spell_77, dX5_spell_80, zf_5_24, zf_5_27, zi_0, zi_1]
          rw [nI_1]
          refine ihk (c + 1) M4 (by omega) ((hf.tr (hf3.p (by omega) (by omega))).tr (hf4.p (by omega) (by omega))) ?_ ?_
          · simpa [List.range_succ] using g74
          · simpa [List.replicate_succ'] using g94
      refine z_run C [] 6 ?_
      simp only [z_x, z_n, z_stop, z_mem, z_ldi, z_lda, z_sto, z_s1, z_s2, z_sa, z_sv, z_br, z_bn, z_ob, z_ar, z_aq, z_al, z_rt, z_ra, z_at, z_st, z_K0i, z_K0v, zk_0, zk_1, zk_2, zk_3, z_lv, List.map_cons, List.map_nil, List.length_cons, List.length_nil, List.replicate, List.cons_append, List.nil_append, Nat.reduceAdd, Nat.reduceSub, Nat.reduceBEq, Nat.reduceEqDiff, Nat.reduceLT, Nat.reduceLeDiff, Nat.zero_add, Int.cast_ofNat_Int, Int.reduceAdd, Int.reduceNeg, Int.reduceToNat, Int.reduceLE, Int.zero_add, Int.toNat_zero, Int.add_zero, Int.add_neg_cancel_right, Fin.isValue, Int32.reduceOfInt, ↓reduceIte, Bool.false_eq_true, Bool.or_false, Bool.false_or, Bool.or_true, Bool.true_or, if_true, if_false, true_and, and_true, true_or, or_true, false_or, or_false, eq_self, and_self, z_up_i, Nat.add_left_cancel_iff, Nat.left_eq_add, Nat.add_eq_left, reduceCtorEq, Nat.add_one_ne_zero, z_tt, implies_true, zn_0, zn_1, zo_0, zo_1, dX5_spell_0, dX5_spell_1, dX5_spell_4, dX5_spell_7, dX5_spell_8, dX5_spell_11, dX5_spell_14, dX5_spell_15, dX5_spell_16, dX5_spell_17, dX5_spell_18, dX5_spell_21, dX5_spell_22, dX5_spell_23, dX5_spell_26, dX5_spell_29, dX5_spell_31, dX5_spell_32, dX5_spell_34, dX5_spell_36, dX5_spell_38, dX5_spell_41, dX5_spell_42, dX5_spell_45, dX5_spell_46, dX5_spell_47, dX5_spell_50, dX5_spell_52, dX5_spell_55, dX5_spell_58, dX5_spell_59, dX5_spell_60, dX5_spell_63, dX5_spell_64, dX5_spell_67, dX5_spell_68, dX5_spell_71, dX5_spell_74, dX5_spell_77, dX5_spell_80, zf_5_24, zf_5_27, zi_0, zi_1]
      refine ⟨fun c1 => absurd ((nI_leI (by omega) (by omega)).mp c1) (by omega), fun _ => ?_⟩
      refine z_vi C dX5_spell_23 lk_5_105 (c_get (nI i) hr1) rfl hr1.ob (fun v M2 hv => ?_)
      obtain ⟨rfl, rfl⟩ := hv
      rw [hgI]
      refine z_si C dX5_spell_26 lk_5_192 (c_changesIn s (by omega)) rfl (fun v M2 hv => ?_)
      obtain ⟨rfl, rfl⟩ := hv
      refine z_run C [34] 4 ?_
      simp only [z_x, z_n, z_stop, z_mem, z_ldi, z_lda, z_sto, z_s1, z_s2, z_sa, z_sv, z_br, z_bn, z_ob, z_ar, z_aq, z_al, z_rt, z_ra, z_at, z_st, z_K0i, z_K0v, zk_0, zk_1, zk_2, zk_3, z_lv, List.map_cons, List.map_nil, List.length_cons, List.length_nil, List.replicate, List.cons_append, List.nil_append, Nat.reduceAdd, Nat.reduceSub, Nat.reduceBEq, Nat.reduceEqDiff, Nat.reduceLT, Nat.reduceLeDiff, Nat.zero_add, Int.cast_ofNat_Int, Int.reduceAdd, Int.reduceNeg, Int.reduceToNat, Int.reduceLE, Int.zero_add, Int.toNat_zero, Int.add_zero, Int.add_neg_cancel_right, Fin.isValue, Int32.reduceOfInt, ↓reduceIte, Bool.false_eq_true, Bool.or_false, Bool.false_or, Bool.or_true, Bool.true_or, if_true, if_false, true_and, and_true, true_or, or_true, false_or, or_false, eq_self, and_self, z_up_i, Nat.add_left_cancel_iff, Nat.left_eq_add, Nat.add_eq_left, reduceCtorEq, Nat.add_one_ne_zero, z_tt, implies_true, zn_0, zn_1, zo_0, zo_1, dX5_spell_0, dX5_spell_1, dX5_spell_4, dX5_spell_7, dX5_spell_8, dX5_spell_11, dX5_spell_14, dX5_spell_15, dX5_spell_16, dX5_spell_17, dX5_spell_18, dX5_spell_21, dX5_spell_22, dX5_spell_23, dX5_spell_26, dX5_spell_29, dX5_spell_31, dX5_spell_32, dX5_spell_34, dX5_spell_36, dX5_spell_38, dX5_spell_41, dX5_spell_42, dX5_spell_45, dX5_spell_46, dX5_spell_47, dX5_spell_50, dX5_spell_52, dX5_spell_55, dX5_spell_58, dX5_spell_59, dX5_spell_60, dX5_spell_63, dX5_spell_64, dX5_spell_67, dX5_spell_68, dX5_spell_71, dX5_spell_74, dX5_spell_77, dX5_spell_80, zf_5_24, zf_5_27, zi_0, zi_1]
      exact inner (m_chg s) 0 M2 (by omega) hf (by simpa using g7) (by simpa using g9)
  obtain ⟨w7, h7⟩ := h7
  obtain ⟨w9, h9⟩ := h9
  refine z_run C [] 3 ?_
  simp only [z_x, z_n, z_stop, z_mem, z_ldi, z_lda, z_sto, z_s1, z_s2, z_sa, z_sv, z_br, z_bn, z_ob, z_ar, z_aq, z_al, z_rt, z_ra, z_at, z_st, z_K0i, z_K0v, zk_0, zk_1, zk_2, zk_3, z_lv, List.map_cons, List.map_nil, List.length_cons, List.length_nil, List.replicate, List.cons_append, List.nil_append, Nat.reduceAdd, Nat.reduceSub, Nat.reduceBEq, Nat.reduceEqDiff, Nat.reduceLT, Nat.reduceLeDiff, Nat.zero_add, Int.cast_ofNat_Int, Int.reduceAdd, Int.reduceNeg, Int.reduceToNat, Int.reduceLE, Int.zero_add, Int.toNat_zero, Int.add_zero, Int.add_neg_cancel_right, Fin.isValue, Int32.reduceOfInt, ↓reduceIte, Bool.false_eq_true, Bool.or_false, Bool.false_or, Bool.or_true, Bool.true_or, if_true, if_false, true_and, and_true, true_or, or_true, false_or, or_false, eq_self, and_self, z_up_i, Nat.add_left_cancel_iff, Nat.left_eq_add, Nat.add_eq_left, reduceCtorEq, Nat.add_one_ne_zero, z_tt, implies_true, zn_0, zn_1, zo_0, zo_1, dX5_spell_0, dX5_spell_1, dX5_spell_4, dX5_spell_7, dX5_spell_8, dX5_spell_11, dX5_spell_14, dX5_spell_15, dX5_spell_16, dX5_spell_17, dX5_spell_18, dX5_spell_21, dX5_spell_22, dX5_spell_23, dX5_spell_26, dX5_spell_29, dX5_spell_31, dX5_spell_32, dX5_spell_34, dX5_spell_36, dX5_spell_38, dX5_spell_41, dX5_spell_42, dX5_spell_45, dX5_spell_46, dX5_spell_47, dX5_spell_50, dX5_spell_52, dX5_spell_55, dX5_spell_58, dX5_spell_59, dX5_spell_60, dX5_spell_63, dX5_spell_64, dX5_spell_67, dX5_spell_68, dX5_spell_71, dX5_spell_74, dX5_spell_77, dX5_spell_80, zf_5_24, zf_5_27, zi_0, zi_1, ho]
  refine z_vv C dX5_spell_4 lk_5_83 (c_clear h7) rfl h7.ob (fun M2 hv => ?_)
  obtain ⟨hf2, g7⟩ := hv
  have ho2 : M2 b = _ := (hf2 _ (by simp; omega)).trans ho
  have g9 := h9.fr hf2 (by simp) (by simp)
  refine z_run C [] 3 ?_
  simp only [z_x, z_n, z_stop, z_mem, z_ldi, z_lda, z_sto, z_s1, z_s2, z_sa, z_sv, z_br, z_bn, z_ob, z_ar, z_aq, z_al, z_rt, z_ra, z_at, z_st, z_K0i, z_K0v, zk_0, zk_1, zk_2, zk_3, z_lv, List.map_cons, List.map_nil, List.length_cons, List.length_nil, List.replicate, List.cons_append, List.nil_append, Nat.reduceAdd, Nat.reduceSub, Nat.reduceBEq, Nat.reduceEqDiff, Nat.reduceLT, Nat.reduceLeDiff, Nat.zero_add, Int.cast_ofNat_Int, Int.reduceAdd, Int.reduceNeg, Int.reduceToNat, Int.reduceLE, Int.zero_add, Int.toNat_zero, Int.add_zero, Int.add_neg_cancel_right, Fin.isValue, Int32.reduceOfInt, ↓reduceIte, Bool.false_eq_true, Bool.or_false, Bool.false_or, Bool.or_true, Bool.true_or, if_true, if_false, true_and, and_true, true_or, or_true, false_or, or_false, eq_self, and_self, z_up_i, Nat.add_left_cancel_iff, Nat.left_eq_add, Nat.add_eq_left, reduceCtorEq, Nat.add_one_ne_zero, z_tt, implies_true, zn_0, zn_1, zo_0, zo_1, dX5_spell_0, dX5_spell_1, dX5_spell_4, dX5_spell_7, dX5_spell_8, dX5_spell_11, dX5_spell_14, dX5_spell_15, dX5_spell_16, dX5_spell_17, dX5_spell_18, dX5_spell_21, dX5_spell_22, dX5_spell_23, dX5_spell_26, dX5_spell_29, dX5_spell_31, dX5_spell_32, dX5_spell_34, dX5_spell_36, dX5_spell_38, dX5_spell_41, dX5_spell_42, dX5_spell_45, dX5_spell_46, dX5_spell_47, dX5_spell_50, dX5_spell_52, dX5_spell_55, dX5_spell_58, dX5_spell_59, dX5_spell_60, dX5_spell_63, dX5_spell_64, dX5_spell_67, dX5_spell_68, dX5_spell_71, dX5_spell_74, dX5_spell_77, dX5_spell_80, zf_5_24, zf_5_27, zi_0, zi_1, ho2]
  refine z_vv C dX5_spell_11 lk_5_83 (c_clear g9) rfl g9.ob (fun M3 hv => ?_)
  obtain ⟨hf3, g93⟩ := hv
  refine z_run C [16] 3 ?_
  simp only [z_x, z_n, z_stop, z_mem, z_ldi, z_lda, z_sto, z_s1, z_s2, z_sa, z_sv, z_br, z_bn, z_ob, z_ar, z_aq, z_al, z_rt, z_ra, z_at, z_st, z_K0i, z_K0v, zk_0, zk_1, zk_2, zk_3, z_lv, List.map_cons, List.map_nil, List.length_cons, List.length_nil, List.replicate, List.cons_append, List.nil_append, Nat.reduceAdd, Nat.reduceSub, Nat.reduceBEq, Nat.reduceEqDiff, Nat.reduceLT, Nat.reduceLeDiff, Nat.zero_add, Int.cast_ofNat_Int, Int.reduceAdd, Int.reduceNeg, Int.reduceToNat, Int.reduceLE, Int.zero_add, Int.toNat_zero, Int.add_zero, Int.add_neg_cancel_right, Fin.isValue, Int32.reduceOfInt, ↓reduceIte, Bool.false_eq_true, Bool.or_false, Bool.false_or, Bool.or_true, Bool.true_or, if_true, if_false, true_and, and_true, true_or, or_true, false_or, or_false, eq_self, and_self, z_up_i, Nat.add_left_cancel_iff, Nat.left_eq_add, Nat.add_eq_left, reduceCtorEq, Nat.add_one_ne_zero, z_tt, implies_true, zn_0, zn_1, zo_0, zo_1, dX5_spell_0, dX5_spell_1, dX5_spell_4, dX5_spell_7, dX5_spell_8, dX5_spell_11, dX5_spell_14, dX5_spell_15, dX5_spell_16, dX5_spell_17, dX5_spell_18, dX5_spell_21, dX5_spell_22, dX5_spell_23, dX5_spell_26, dX5_spell_29, dX5_spell_31, dX5_spell_32, dX5_spell_34, dX5_spell_36, dX5_spell_38, dX5_spell_41, dX5_spell_42, dX5_spell_45, dX5_spell_46, dX5_spell_47, dX5_spell_50, dX5_spell_52, dX5_spell_55, dX5_spell_58, dX5_spell_59, dX5_spell_60, dX5_spell_63, dX5_spell_64, dX5_spell_67, dX5_spell_68, dX5_spell_71, dX5_spell_74, dX5_spell_77, dX5_spell_80, zf_5_24, zf_5_27, zi_0, zi_1]
  exact loop h 0 M3 (by omega) ((hf2.p (by omega) (by omega)).tr (hf3.p (by omega) (by omega))) (by simpa [m_lets] using g7.fr hf3 (by simp) (by simp)) (by simpa [m_lst, m_lstF] using g93) _ _

/-- the reference's bobbins -/
def z_bb (M : zH) (y : Nat) (p : Nat → Nat) : Prop := ∃ f, z_ia M (y + 11) 8 f ∧ ∀ j, j < 8 → f j = nI (p j) ∧ p j < 8
theorem z_bb.fp {M M' : zH} {A : Nat → Prop} {y : Nat} {p : Nat → Nat} (h : z_bb M y p) (hf : z_fp M M' A) (hA : ¬ A (y + 11)) : z_bb M' y p := by
  obtain ⟨f, h1, h2⟩ := h
  exact ⟨f, (hf _ hA).trans h1, h2⟩
theorem z_kp.one {M M' : zH} {y a n : Nat} {f g : Nat → Int32} (hf : z_fp M M' (fun q => q = a)) (h : z_ia M a n f) (h' : z_ia M' a n g) : z_kp M M' y := fun c _ _ m u hu => by
  by_cases e : c = a
  · subst e
    unfold z_ia at h hu
    rw [h] at hu
    cases hu
    exact ⟨g, h'⟩
  · exact ⟨u, (hf c e).trans hu⟩
theorem m_lay_s (a c : List Nat) (p : Nat → Nat) : m_lay (a ++ c) p = m_lay c (m_lay a p) := by simp [m_lay, List.foldl_append]
theorem m_lay_1 (a : List Nat) (c : Nat) (p : Nat → Nat) : m_lay (a ++ [c]) p = m_swp (m_lay a p) (c / 10) := by simp [m_lay, List.foldl_append]
set_option maxRecDepth 100000 in
set_option maxHeartbeats 4000000 in
theorem d_begin {l : Launch} {E : zE} {d y : Nat} {M : zH} {said told lm fm sm : Int32} (ho : z_mo M y said told lm fm sm) (hb : ∃ f, z_ia M (y + 11) 8 f) : nX6_begin l E d [.ref y] M (z_v fun M' => z_fp M M' (fun q => q = y + 11) ∧ z_bb M' y id) := by
  refine z_cn 6 fun P z C => ?_
  have loop : ∀ (n i : Nat) (f1 : Nat → Int32), i + n = 8 → (∀ j, j < i → f1 j = nI j) → ∀ M1, z_fp M M1 (fun q => q = y + 11) → z_ia M1 (y + 11) 8 f1 → P (M1, z, 0, 0) 2 [some (.ref y), some (.int (nI i))] [] := by
    intro n
    induction n with
    | zero =>
      intro i f1 hi hv M1 hf hM
      refine z_run C [] 4 ?_
      simp only [z_x, z_n, z_stop, z_mem, z_ldi, z_lda, z_sto, z_s1, z_s2, z_sa, z_sv, z_br, z_bn, z_ob, z_ar, z_aq, z_al, z_rt, z_ra, z_at, z_st, z_K0i, z_K0v, zk_0, zk_1, zk_2, zk_3, z_lv, List.map_cons, List.map_nil, List.length_cons, List.length_nil, List.replicate, List.cons_append, List.nil_append, Nat.reduceAdd, Nat.reduceSub, Nat.reduceBEq, Nat.reduceEqDiff, Nat.reduceLT, Nat.reduceLeDiff, Nat.zero_add, Int.cast_ofNat_Int, Int.reduceAdd, Int.reduceNeg, Int.reduceToNat, Int.reduceLE, Int.zero_add, Int.toNat_zero, Int.add_zero, Int.add_neg_cancel_right, Fin.isValue, Int32.reduceOfInt, ↓reduceIte, Bool.false_eq_true, Bool.or_false, Bool.false_or, Bool.or_true, Bool.true_or, if_true, if_false, true_and, and_true, true_or, or_true, false_or, or_false, eq_self, and_self, z_up_i, Nat.add_left_cancel_iff, Nat.left_eq_add, Nat.add_eq_left, reduceCtorEq, Nat.add_one_ne_zero, z_tt, implies_true, zn_0, zn_1, zo_0, zo_1, dX6_begin_0, dX6_begin_1, dX6_begin_2, dX6_begin_3, dX6_begin_5, dX6_begin_8, dX6_begin_9, dX6_begin_12, dX6_begin_13, dX6_begin_14, dX6_begin_15, dX6_begin_18, dX6_begin_21, zb_8, zf_6_45, zi_0, zi_1]
      exact ⟨fun _ => ⟨hf, f1, hM, fun j hj => ⟨hv j (by omega), hj⟩⟩, fun c1 => absurd (nI_le (a := 8) (b := i) (by omega) (by omega)) c1⟩
    | succ n ih =>
      intro i f1 hi hv M1 hf hM
      have ho1 := ho.fp hf (by omega)
      unfold z_mo at ho1
      unfold z_ia at hM
      refine z_run C [2] 20 ?_
      simp only [z_x, z_n, z_stop, z_mem, z_ldi, z_lda, z_sto, z_s1, z_s2, z_sa, z_sv, z_br, z_bn, z_ob, z_ar, z_aq, z_al, z_rt, z_ra, z_at, z_st, z_K0i, z_K0v, zk_0, zk_1, zk_2, zk_3, z_lv, List.map_cons, List.map_nil, List.length_cons, List.length_nil, List.replicate, List.cons_append, List.nil_append, Nat.reduceAdd, Nat.reduceSub, Nat.reduceBEq, Nat.reduceEqDiff, Nat.reduceLT, Nat.reduceLeDiff, Nat.zero_add, Int.cast_ofNat_Int, Int.reduceAdd, Int.reduceNeg, Int.reduceToNat, Int.reduceLE, Int.zero_add, Int.toNat_zero, Int.add_zero, Int.add_neg_cancel_right, Fin.isValue, Int32.reduceOfInt, ↓reduceIte, Bool.false_eq_true, Bool.or_false, Bool.false_or, Bool.or_true, Bool.true_or, if_true, if_false, true_and, and_true, true_or, or_true, false_or, or_false, eq_self, and_self, z_up_i, Nat.add_left_cancel_iff, Nat.left_eq_add, Nat.add_eq_left, reduceCtorEq, Nat.add_one_ne_zero, z_tt, implies_true, zn_0, zn_1, zo_0, zo_1, dX6_begin_0, dX6_begin_1, dX6_begin_2, dX6_begin_3, dX6_begin_5, dX6_begin_8, dX6_begin_9, dX6_begin_12, dX6_begin_13, dX6_begin_14, dX6_begin_15, dX6_begin_18, dX6_begin_21, zb_8, zf_6_45, zi_0, zi_1, ho1, hM]
      refine ⟨fun c1 => absurd ((nI_leI (a := 8) (b := i) (by omega) (by omega)).mp c1) (by omega), fun _ => ⟨vp_in_nI (by omega) (by omega), ?_⟩⟩
      rw [nI_1, nI_clamp (by omega)]
      refine ih (i + 1) _ (by omega) (fun j hj => ?_) _ (fun a ha => ?_) (z_up_s _ _ _)
      · by_cases hji : j = i
        · subst hji; exact pk_us
        · rw [pk_un hji]; exact hv j (by omega)
      · rw [z_up_n ha]; exact hf a ha
  obtain ⟨f, hb⟩ := hb
  refine z_run C [2] 3 ?_
  simp only [z_x, z_n, z_stop, z_mem, z_ldi, z_lda, z_sto, z_s1, z_s2, z_sa, z_sv, z_br, z_bn, z_ob, z_ar, z_aq, z_al, z_rt, z_ra, z_at, z_st, z_K0i, z_K0v, zk_0, zk_1, zk_2, zk_3, z_lv, List.map_cons, List.map_nil, List.length_cons, List.length_nil, List.replicate, List.cons_append, List.nil_append, Nat.reduceAdd, Nat.reduceSub, Nat.reduceBEq, Nat.reduceEqDiff, Nat.reduceLT, Nat.reduceLeDiff, Nat.zero_add, Int.cast_ofNat_Int, Int.reduceAdd, Int.reduceNeg, Int.reduceToNat, Int.reduceLE, Int.zero_add, Int.toNat_zero, Int.add_zero, Int.add_neg_cancel_right, Fin.isValue, Int32.reduceOfInt, ↓reduceIte, Bool.false_eq_true, Bool.or_false, Bool.false_or, Bool.or_true, Bool.true_or, if_true, if_false, true_and, and_true, true_or, or_true, false_or, or_false, eq_self, and_self, z_up_i, Nat.add_left_cancel_iff, Nat.left_eq_add, Nat.add_eq_left, reduceCtorEq, Nat.add_one_ne_zero, z_tt, implies_true, zn_0, zn_1, zo_0, zo_1, dX6_begin_0, dX6_begin_1, dX6_begin_2, dX6_begin_3, dX6_begin_5, dX6_begin_8, dX6_begin_9, dX6_begin_12, dX6_begin_13, dX6_begin_14, dX6_begin_15, dX6_begin_18, dX6_begin_21, zb_8, zf_6_45, zi_0, zi_1]
  exact loop 8 0 f (by omega) (fun j hj => by omega) M z_fp.rf hb
set_option maxRecDepth 100000 in
set_option maxHeartbeats 4000000 in
theorem d_change {l : Launch} {E : zE} {d y a : Nat} {M : zH} {said told lm fm sm : Int32} {p : Nat → Nat} (ho : z_mo M y said told lm fm sm) (hb : z_bb M y p) (ha : a / 10 < 7) : nX6_change l E d [.ref y, .int (nI a)] M (z_v fun M' => z_fp M M' (fun q => q = y + 11) ∧ z_bb M' y (m_swp p (a / 10))) := by
  refine z_cn 6 fun P z C => ?_
  obtain ⟨f, hf, h4⟩ := hb
  unfold z_mo at ho
  unfold z_ia at hf
  refine z_run C [] 40 ?_
  simp only [z_x, z_n, z_stop, z_mem, z_ldi, z_lda, z_sto, z_s1, z_s2, z_sa, z_sv, z_br, z_bn, z_ob, z_ar, z_aq, z_al, z_rt, z_ra, z_at, z_st, z_K0i, z_K0v, zk_0, zk_1, zk_2, zk_3, z_lv, List.map_cons, List.map_nil, List.length_cons, List.length_nil, List.replicate, List.cons_append, List.nil_append, Nat.reduceAdd, Nat.reduceSub, Nat.reduceBEq, Nat.reduceEqDiff, Nat.reduceLT, Nat.reduceLeDiff, Nat.zero_add, Int.cast_ofNat_Int, Int.reduceAdd, Int.reduceNeg, Int.reduceToNat, Int.reduceLE, Int.zero_add, Int.toNat_zero, Int.add_zero, Int.add_neg_cancel_right, Fin.isValue, Int32.reduceOfInt, ↓reduceIte, Bool.false_eq_true, Bool.or_false, Bool.false_or, Bool.or_true, Bool.true_or, if_true, if_false, true_and, and_true, true_or, or_true, false_or, or_false, eq_self, and_self, z_up_i, Nat.add_left_cancel_iff, Nat.left_eq_add, Nat.add_eq_left, reduceCtorEq, Nat.add_one_ne_zero, z_tt, implies_true, zn_0, zn_1, zo_0, zo_1, dX6_change_0, dX6_change_1, dX6_change_3, dX6_change_4, dX6_change_5, dX6_change_6, dX6_change_9, dX6_change_10, dX6_change_11, dX6_change_12, dX6_change_13, dX6_change_16, dX6_change_17, dX6_change_18, dX6_change_21, dX6_change_22, dX6_change_23, dX6_change_24, dX6_change_25, dX6_change_26, dX6_change_27, dX6_change_30, dX6_change_31, dX6_change_32, dX6_change_33, dX6_change_34, dX6_change_35, zb_10, zf_6_45, zi_1, ho, hf]
  rw [show nI a / 10 = nI (a / 10) from z_d10 (by omega)]
  obtain ⟨k, hk⟩ : ∃ k, k = a / 10 := ⟨_, rfl⟩
  rw [← hk] at ha ⊢
  rw [nI_1, nI_clamp (by omega), nI_clamp (by omega)]
  refine ⟨by decide, vp_in_nI (by omega) (by omega), vp_in_nI (by omega) (by omega), vp_in_nI (by omega) (by omega), vp_in_nI (by omega) (by omega), fun c hc => ?_, ?_⟩
  · rw [z_up_n hc, z_up_n hc]
  · refine ⟨_, z_up_s _ _ _, fun j hj => ?_⟩
    unfold m_swp
    by_cases e1 : j = k
    · subst e1
      simp [upd]
      exact h4 _ (by omega)
    · by_cases e2 : j = k + 1
      · subst e2
        simp [upd]
        exact h4 _ (by omega)
      · simp [upd, e1, e2]
        exact h4 _ hj
set_option maxRecDepth 100000 in
set_option maxHeartbeats 4000000 in
theorem d_asAtFirst {l : Launch} {E : zE} {d y : Nat} {M : zH} {said told lm fm sm : Int32} {p : Nat → Nat} (ho : z_mo M y said told lm fm sm) (hb : z_bb M y p) : nX6_asAtFirst l E d [.ref y] M (z_i fun v M' => v = nI (m_fix p 8) ∧ M' = M) := by
  refine z_cn 6 fun P z C => ?_
  obtain ⟨f, hf, h4⟩ := hb
  unfold z_mo at ho
  unfold z_ia at hf
  have loop : ∀ (n i : Nat), i + n = 8 → P (M, z, 0, 0) 4 [some (.ref y), some (.int (nI (m_fix p i))), some (.int (nI i))] [] := by
    intro n
    induction n with
    | zero =>
      intro i hi
      refine z_run C [] 20 ?_
      simp only [z_x, z_n, z_stop, z_mem, z_ldi, z_lda, z_sto, z_s1, z_s2, z_sa, z_sv, z_br, z_bn, z_ob, z_ar, z_aq, z_al, z_rt, z_ra, z_at, z_st, z_K0i, z_K0v, zk_0, zk_1, zk_2, zk_3, z_lv, List.map_cons, List.map_nil, List.length_cons, List.length_nil, List.replicate, List.cons_append, List.nil_append, Nat.reduceAdd, Nat.reduceSub, Nat.reduceBEq, Nat.reduceEqDiff, Nat.reduceLT, Nat.reduceLeDiff, Nat.zero_add, Int.cast_ofNat_Int, Int.reduceAdd, Int.reduceNeg, Int.reduceToNat, Int.reduceLE, Int.zero_add, Int.toNat_zero, Int.add_zero, Int.add_neg_cancel_right, Fin.isValue, Int32.reduceOfInt, ↓reduceIte, Bool.false_eq_true, Bool.or_false, Bool.false_or, Bool.or_true, Bool.true_or, if_true, if_false, true_and, and_true, true_or, or_true, false_or, or_false, eq_self, and_self, z_up_i, Nat.add_left_cancel_iff, Nat.left_eq_add, Nat.add_eq_left, reduceCtorEq, Nat.add_one_ne_zero, z_tt, implies_true, zn_0, zn_1, zo_0, zo_1, dX6_asAtFirst_0, dX6_asAtFirst_1, dX6_asAtFirst_2, dX6_asAtFirst_3, dX6_asAtFirst_4, dX6_asAtFirst_5, dX6_asAtFirst_7, dX6_asAtFirst_10, dX6_asAtFirst_11, dX6_asAtFirst_12, dX6_asAtFirst_15, dX6_asAtFirst_16, dX6_asAtFirst_17, dX6_asAtFirst_18, dX6_asAtFirst_21, dX6_asAtFirst_22, dX6_asAtFirst_25, dX6_asAtFirst_26, dX6_asAtFirst_27, dX6_asAtFirst_28, dX6_asAtFirst_31, dX6_asAtFirst_34, dX6_asAtFirst_35, zb_8, zf_6_45, zi_0, zi_1, ho, hf]
      refine ⟨fun _ => ⟨by rw [show i = 8 by omega], rfl⟩, fun c1 => absurd (nI_le (a := 8) (b := i) (by omega) (by omega)) c1⟩
    | succ n ih =>
      intro i hi
      refine z_run C [4] 30 ?_
      simp only [z_x, z_n, z_stop, z_mem, z_ldi, z_lda, z_sto, z_s1, z_s2, z_sa, z_sv, z_br, z_bn, z_ob, z_ar, z_aq, z_al, z_rt, z_ra, z_at, z_st, z_K0i, z_K0v, zk_0, zk_1, zk_2, zk_3, z_lv, List.map_cons, List.map_nil, List.length_cons, List.length_nil, List.replicate, List.cons_append, List.nil_append, Nat.reduceAdd, Nat.reduceSub, Nat.reduceBEq, Nat.reduceEqDiff, Nat.reduceLT, Nat.reduceLeDiff, Nat.zero_add, Int.cast_ofNat_Int, Int.reduceAdd, Int.reduceNeg, Int.reduceToNat, Int.reduceLE, Int.zero_add, Int.toNat_zero, Int.add_zero, Int.add_neg_cancel_right, Fin.isValue, Int32.reduceOfInt, ↓reduceIte, Bool.false_eq_true, Bool.or_false, Bool.false_or, Bool.or_true, Bool.true_or, if_true, if_false, true_and, and_true, true_or, or_true, false_or, or_false, eq_self, and_self, z_up_i, Nat.add_left_cancel_iff, Nat.left_eq_add, Nat.add_eq_left, reduceCtorEq, Nat.add_one_ne_zero, z_tt, implies_true, zn_0, zn_1, zo_0, zo_1, dX6_asAtFirst_0, dX6_asAtFirst_1, dX6_asAtFirst_2, dX6_asAtFirst_3, dX6_asAtFirst_4, dX6_asAtFirst_5, dX6_asAtFirst_7, dX6_asAtFirst_10, dX6_asAtFirst_11, dX6_asAtFirst_12, dX6_asAtFirst_15, dX6_asAtFirst_16, dX6_asAtFirst_17, dX6_asAtFirst_18, dX6_asAtFirst_21, dX6_asAtFirst_22, dX6_asAtFirst_25, dX6_asAtFirst_26, dX6_asAtFirst_27, dX6_asAtFirst_28, dX6_asAtFirst_31, dX6_asAtFirst_34, dX6_asAtFirst_35, zb_8, zf_6_45, zi_0, zi_1, ho, hf]
      refine ⟨fun c1 => absurd ((nI_leI (a := 8) (b := i) (by omega) (by omega)).mp c1) (by omega), fun _ => ⟨vp_in_nI (by omega) (by omega), ?_⟩⟩
      have h6 := h4 i (by omega)
      have h7 := ih (i + 1) (by omega)
      rw [m_fix_s] at h7
      rw [nI_1, nI_clamp (by omega), h6.1, nI_eq (by omega) (by omega), nI_1, show (0 : Int32) = nI 0 from rfl, nI_add]
      refine ⟨fun c => ?_, fun c => ?_⟩
      · rw [if_pos c] at h7; exact h7
      · rw [if_neg c] at h7; exact h7
  refine z_run C [4] 5 ?_
  simp only [z_x, z_n, z_stop, z_mem, z_ldi, z_lda, z_sto, z_s1, z_s2, z_sa, z_sv, z_br, z_bn, z_ob, z_ar, z_aq, z_al, z_rt, z_ra, z_at, z_st, z_K0i, z_K0v, zk_0, zk_1, zk_2, zk_3, z_lv, List.map_cons, List.map_nil, List.length_cons, List.length_nil, List.replicate, List.cons_append, List.nil_append, Nat.reduceAdd, Nat.reduceSub, Nat.reduceBEq, Nat.reduceEqDiff, Nat.reduceLT, Nat.reduceLeDiff, Nat.zero_add, Int.cast_ofNat_Int, Int.reduceAdd, Int.reduceNeg, Int.reduceToNat, Int.reduceLE, Int.zero_add, Int.toNat_zero, Int.add_zero, Int.add_neg_cancel_right, Fin.isValue, Int32.reduceOfInt, ↓reduceIte, Bool.false_eq_true, Bool.or_false, Bool.false_or, Bool.or_true, Bool.true_or, if_true, if_false, true_and, and_true, true_or, or_true, false_or, or_false, eq_self, and_self, z_up_i, Nat.add_left_cancel_iff, Nat.left_eq_add, Nat.add_eq_left, reduceCtorEq, Nat.add_one_ne_zero, z_tt, implies_true, zn_0, zn_1, zo_0, zo_1, dX6_asAtFirst_0, dX6_asAtFirst_1, dX6_asAtFirst_2, dX6_asAtFirst_3, dX6_asAtFirst_4, dX6_asAtFirst_5, dX6_asAtFirst_7, dX6_asAtFirst_10, dX6_asAtFirst_11, dX6_asAtFirst_12, dX6_asAtFirst_15, dX6_asAtFirst_16, dX6_asAtFirst_17, dX6_asAtFirst_18, dX6_asAtFirst_21, dX6_asAtFirst_22, dX6_asAtFirst_25, dX6_asAtFirst_26, dX6_asAtFirst_27, dX6_asAtFirst_28, dX6_asAtFirst_31, dX6_asAtFirst_34, dX6_asAtFirst_35, zb_8, zf_6_45, zi_0, zi_1]
  exact loop 8 0 (by omega)
set_option maxRecDepth 100000 in
set_option maxHeartbeats 4000000 in
theorem d_pins {l : Launch} {E : zE} {d y k : Nat} {M : zH} {said told lm fm sm : Int32} {f : Nat → Int32} {wk : Nat → List Nat} (ho : z_mo M y said told lm fm sm) (hf : z_ia M (y + 1) 244 f) (hst : m_st f wk) (hk : k < 4) (h15 : ∀ s ∈ wk k, s < 15) : nX6_pins l E (d + 1) [.ref y, .int (nI k)] M (z_i fun v M' => v = nI (m_pins (wk k)) ∧ M' = M) := by
  refine z_cn 6 fun P z C => ?_
  have l2 := (hst k hk).2.1
  have loop : ∀ (n i : Nat), i + n = (wk k).length → P (M, z, 0, 0) 4 [some (.ref y), some (.int (nI k)), some (.int (nI (m_pins ((wk k).take i)))), some (.int (nI i))] [] := by
    intro n
    induction n with
    | zero =>
      intro i hi
      refine z_run C [] 3 ?_
      simp only [z_x, z_n, z_stop, z_mem, z_ldi, z_lda, z_sto, z_s1, z_s2, z_sa, z_sv, z_br, z_bn, z_ob, z_ar, z_aq, z_al, z_rt, z_ra, z_at, z_st, z_K0i, z_K0v, zk_0, zk_1, zk_2, zk_3, z_lv, List.map_cons, List.map_nil, List.length_cons, List.length_nil, List.replicate, List.cons_append, List.nil_append, Nat.reduceAdd, Nat.reduceSub, Nat.reduceBEq, Nat.reduceEqDiff, Nat.reduceLT, Nat.reduceLeDiff, Nat.zero_add, Int.cast_ofNat_Int, Int.reduceAdd, Int.reduceNeg, Int.reduceToNat, Int.reduceLE, Int.zero_add, Int.toNat_zero, Int.add_zero, Int.add_neg_cancel_right, Fin.isValue, Int32.reduceOfInt, ↓reduceIte, Bool.false_eq_true, Bool.or_false, Bool.false_or, Bool.or_true, Bool.true_or, if_true, if_false, true_and, and_true, true_or, or_true, false_or, or_false, eq_self, and_self, z_up_i, Nat.add_left_cancel_iff, Nat.left_eq_add, Nat.add_eq_left, reduceCtorEq, Nat.add_one_ne_zero, z_tt, implies_true, zn_0, zn_1, zo_0, zo_1, dX6_pins_0, dX6_pins_1, dX6_pins_2, dX6_pins_3, dX6_pins_4, dX6_pins_5, dX6_pins_6, dX6_pins_7, dX6_pins_10, dX6_pins_13, dX6_pins_14, dX6_pins_15, dX6_pins_16, dX6_pins_17, dX6_pins_20, dX6_pins_21, dX6_pins_24, dX6_pins_25, dX6_pins_28, dX6_pins_29, dX6_pins_30, dX6_pins_31, dX6_pins_34, dX6_pins_37, dX6_pins_38, zi_0, zi_1, zi_4]
      refine z_vi C dX6_pins_7 lk_6_86 (d_many ho hf hst hk) rfl ho (fun v M2 hv => ?_)
      obtain ⟨rfl, rfl⟩ := hv
      refine z_run C [] 5 ?_
      simp only [z_x, z_n, z_stop, z_mem, z_ldi, z_lda, z_sto, z_s1, z_s2, z_sa, z_sv, z_br, z_bn, z_ob, z_ar, z_aq, z_al, z_rt, z_ra, z_at, z_st, z_K0i, z_K0v, zk_0, zk_1, zk_2, zk_3, z_lv, List.map_cons, List.map_nil, List.length_cons, List.length_nil, List.replicate, List.cons_append, List.nil_append, Nat.reduceAdd, Nat.reduceSub, Nat.reduceBEq, Nat.reduceEqDiff, Nat.reduceLT, Nat.reduceLeDiff, Nat.zero_add, Int.cast_ofNat_Int, Int.reduceAdd, Int.reduceNeg, Int.reduceToNat, Int.reduceLE, Int.zero_add, Int.toNat_zero, Int.add_zero, Int.add_neg_cancel_right, Fin.isValue, Int32.reduceOfInt, ↓reduceIte, Bool.false_eq_true, Bool.or_false, Bool.false_or, Bool.or_true, Bool.true_or, if_true, if_false, true_and, and_true, true_or, or_true, false_or, or_false, eq_self, and_self, z_up_i, Nat.add_left_cancel_iff, Nat.left_eq_add, Nat.add_eq_left, reduceCtorEq, Nat.add_one_ne_zero, z_tt, implies_true, zn_0, zn_1, zo_0, zo_1, dX6_pins_0, dX6_pins_1, dX6_pins_2, dX6_pins_3, dX6_pins_4, dX6_pins_5, dX6_pins_6, dX6_pins_7, dX6_pins_10, dX6_pins_13, dX6_pins_14, dX6_pins_15, dX6_pins_16, dX6_pins_17, dX6_pins_20, dX6_pins_21, dX6_pins_24, dX6_pins_25, dX6_pins_28, dX6_pins_29, dX6_pins_30, dX6_pins_31, dX6_pins_34, dX6_pins_37, dX6_pins_38, zi_0, zi_1, zi_4]
      exact ⟨fun _ => ⟨by rw [List.take_of_length_le (by omega)], rfl⟩, fun c1 => absurd (nI_le (by omega) (by omega)) c1⟩
    | succ n ih =>
      intro i hi
      have hil : i < (wk k).length := by omega
      have hgs : (wk k)[i]? = some ((wk k).getD i 0) := by simp [hil]
      have hs15 := h15 _ (List.mem_of_getElem? hgs)
      have ht := z_take1 hgs
      obtain ⟨s, hsd⟩ : ∃ s, s = (wk k).getD i 0 := ⟨_, rfl⟩
      rw [← hsd] at hs15 ht
      have hih := ih (i + 1) (by omega)
      rw [ht] at hih
      refine z_run C [] 3 ?_
      simp only [z_x, z_n, z_stop, z_mem, z_ldi, z_lda, z_sto, z_s1, z_s2, z_sa, z_sv, z_br, z_bn, z_ob, z_ar, z_aq, z_al, z_rt, z_ra, z_at, z_st, z_K0i, z_K0v, zk_0, zk_1, zk_2, zk_3, z_lv, List.map_cons, List.map_nil, List.length_cons, List.length_nil, List.replicate, List.cons_append, List.nil_append, Nat.reduceAdd, Nat.reduceSub, Nat.reduceBEq, Nat.reduceEqDiff, Nat.reduceLT, Nat.reduceLeDiff, Nat.zero_add, Int.cast_ofNat_Int, Int.reduceAdd, Int.reduceNeg, Int.reduceToNat, Int.reduceLE, Int.zero_add, Int.toNat_zero, Int.add_zero, Int.add_neg_cancel_right, Fin.isValue, Int32.reduceOfInt, ↓reduceIte, Bool.false_eq_true, Bool.or_false, Bool.false_or, Bool.or_true, Bool.true_or, if_true, if_false, true_and, and_true, true_or, or_true, false_or, or_false, eq_self, and_self, z_up_i, Nat.add_left_cancel_iff, Nat.left_eq_add, Nat.add_eq_left, reduceCtorEq, Nat.add_one_ne_zero, z_tt, implies_true, zn_0, zn_1, zo_0, zo_1, dX6_pins_0, dX6_pins_1, dX6_pins_2, dX6_pins_3, dX6_pins_4, dX6_pins_5, dX6_pins_6, dX6_pins_7, dX6_pins_10, dX6_pins_13, dX6_pins_14, dX6_pins_15, dX6_pins_16, dX6_pins_17, dX6_pins_20, dX6_pins_21, dX6_pins_24, dX6_pins_25, dX6_pins_28, dX6_pins_29, dX6_pins_30, dX6_pins_31, dX6_pins_34, dX6_pins_37, dX6_pins_38, zi_0, zi_1, zi_4]
      refine z_vi C dX6_pins_7 lk_6_86 (d_many ho hf hst hk) rfl ho (fun v M2 hv => ?_)
      obtain ⟨rfl, rfl⟩ := hv
      refine z_run C [] 5 ?_
      simp only [z_x, z_n, z_stop, z_mem, z_ldi, z_lda, z_sto, z_s1, z_s2, z_sa, z_sv, z_br, z_bn, z_ob, z_ar, z_aq, z_al, z_rt, z_ra, z_at, z_st, z_K0i, z_K0v, zk_0, zk_1, zk_2, zk_3, z_lv, List.map_cons, List.map_nil, List.length_cons, List.length_nil, List.replicate, List.cons_append, List.nil_append, Nat.reduceAdd, Nat.reduceSub, Nat.reduceBEq, Nat.reduceEqDiff, Nat.reduceLT, Nat.reduceLeDiff, Nat.zero_add, Int.cast_ofNat_Int, Int.reduceAdd, Int.reduceNeg, Int.reduceToNat, Int.reduceLE, Int.zero_add, Int.toNat_zero, Int.add_zero, Int.add_neg_cancel_right, Fin.isValue, Int32.reduceOfInt, ↓reduceIte, Bool.false_eq_true, Bool.or_false, Bool.false_or, Bool.or_true, Bool.true_or, if_true, if_false, true_and, and_true, true_or, or_true, false_or, or_false, eq_self, and_self, z_up_i, Nat.add_left_cancel_iff, Nat.left_eq_add, Nat.add_eq_left, reduceCtorEq, Nat.add_one_ne_zero, z_tt, implies_true, zn_0, zn_1, zo_0, zo_1, dX6_pins_0, dX6_pins_1, dX6_pins_2, dX6_pins_3, dX6_pins_4, dX6_pins_5, dX6_pins_6, dX6_pins_7, dX6_pins_10, dX6_pins_13, dX6_pins_14, dX6_pins_15, dX6_pins_16, dX6_pins_17, dX6_pins_20, dX6_pins_21, dX6_pins_24, dX6_pins_25, dX6_pins_28, dX6_pins_29, dX6_pins_30, dX6_pins_31, dX6_pins_34, dX6_pins_37, dX6_pins_38, zi_0, zi_1, zi_4]
      refine ⟨fun c1 => absurd ((nI_leI (by omega) (by omega)).mp c1) (by omega), fun _ => ?_⟩
      refine z_vi C dX6_pins_17 lk_6_89 (d_kindOf ho hf hst hk hil h15) rfl ho (fun v M2 hv => ?_)
      obtain ⟨rfl, rfl⟩ := hv
      rw [← hsd]
      refine z_run C [4] 10 ?_
      simp only [z_x, z_n, z_stop, z_mem, z_ldi, z_lda, z_sto, z_s1, z_s2, z_sa, z_sv, z_br, z_bn, z_ob, z_ar, z_aq, z_al, z_rt, z_ra, z_at, z_st, z_K0i, z_K0v, zk_0, zk_1, zk_2, zk_3, z_lv, List.map_cons, List.map_nil, List.length_cons, List.length_nil, List.replicate, List.cons_append, List.nil_append, Nat.reduceAdd, Nat.reduceSub, Nat.reduceBEq, Nat.reduceEqDiff, Nat.reduceLT, Nat.reduceLeDiff, Nat.zero_add, Int.cast_ofNat_Int, Int.reduceAdd, Int.reduceNeg, Int.reduceToNat, Int.reduceLE, Int.zero_add, Int.toNat_zero, Int.add_zero, Int.add_neg_cancel_right, Fin.isValue, Int32.reduceOfInt, ↓reduceIte, Bool.false_eq_true, Bool.or_false, Bool.false_or, Bool.or_true, Bool.true_or, if_true, if_false, true_and, and_true, true_or, or_true, false_or, or_false, eq_self, and_self, z_up_i, Nat.add_left_cancel_iff, Nat.left_eq_add, Nat.add_eq_left, reduceCtorEq, Nat.add_one_ne_zero, z_tt, implies_true, zn_0, zn_1, zo_0, zo_1, dX6_pins_0, dX6_pins_1, dX6_pins_2, dX6_pins_3, dX6_pins_4, dX6_pins_5, dX6_pins_6, dX6_pins_7, dX6_pins_10, dX6_pins_13, dX6_pins_14, dX6_pins_15, dX6_pins_16, dX6_pins_17, dX6_pins_20, dX6_pins_21, dX6_pins_24, dX6_pins_25, dX6_pins_28, dX6_pins_29, dX6_pins_30, dX6_pins_31, dX6_pins_34, dX6_pins_37, dX6_pins_38, zi_0, zi_1, zi_4]
      rw [show (nI (s / 3) = 4) = (s / 3 = 4) from propext (z_eqn 4 (by omega) (by omega)), nI_1, nI_1, show nI (m_pins ((wk k).take i)) + 0 = nI (m_pins ((wk k).take i)) from nI_add _ 0]
      refine ⟨fun c => ?_, fun c => ?_⟩
      · rw [show m_pins ((wk k).take i ++ [s]) = m_pins ((wk k).take i) + 1 from by simp [m_pins, List.filter_append, c]] at hih
        exact hih
      · rw [show m_pins ((wk k).take i ++ [s]) = m_pins ((wk k).take i) from by simp [m_pins, List.filter_append, c]] at hih
        exact hih
  refine z_run C [4] 5 ?_
  simp only [z_x, z_n, z_stop, z_mem, z_ldi, z_lda, z_sto, z_s1, z_s2, z_sa, z_sv, z_br, z_bn, z_ob, z_ar, z_aq, z_al, z_rt, z_ra, z_at, z_st, z_K0i, z_K0v, zk_0, zk_1, zk_2, zk_3, z_lv, List.map_cons, List.map_nil, List.length_cons, List.length_nil, List.replicate, List.cons_append, List.nil_append, Nat.reduceAdd, Nat.reduceSub, Nat.reduceBEq, Nat.reduceEqDiff, Nat.reduceLT, Nat.reduceLeDiff, Nat.zero_add, Int.cast_ofNat_Int, Int.reduceAdd, Int.reduceNeg, Int.reduceToNat, Int.reduceLE, Int.zero_add, Int.toNat_zero, Int.add_zero, Int.add_neg_cancel_right, Fin.isValue, Int32.reduceOfInt, ↓reduceIte, Bool.false_eq_true, Bool.or_false, Bool.false_or, Bool.or_true, Bool.true_or, if_true, if_false, true_and, and_true, true_or, or_true, false_or, or_false, eq_self, and_self, z_up_i, Nat.add_left_cancel_iff, Nat.left_eq_add, Nat.add_eq_left, reduceCtorEq, Nat.add_one_ne_zero, z_tt, implies_true, zn_0, zn_1, zo_0, zo_1, dX6_pins_0, dX6_pins_1, dX6_pins_2, dX6_pins_3, dX6_pins_4, dX6_pins_5, dX6_pins_6, dX6_pins_7, dX6_pins_10, dX6_pins_13, dX6_pins_14, dX6_pins_15, dX6_pins_16, dX6_pins_17, dX6_pins_20, dX6_pins_21, dX6_pins_24, dX6_pins_25, dX6_pins_28, dX6_pins_29, dX6_pins_30, dX6_pins_31, dX6_pins_34, dX6_pins_37, dX6_pins_38, zi_0, zi_1, zi_4]
  exact loop (wk k).length 0 (by omega)
/-- letters laid, bobbins laid -/
def z_lq (M M' : zH) (y : Nat) (said told fm sm : Int32) (ls ts : List Nat) (p : Nat → Nat) : Prop := z_fp M M' (fun q => q = y ∨ q = y + 9 ∨ q = y + 10 ∨ q = y + 11) ∧ z_kp M M' y ∧ z_le M' y said told fm sm ls ts ∧ z_bb M' y p
theorem z_lq.mk {M M1 M2 : zH} {y : Nat} {said told fm sm : Int32} {ls ts : List Nat} (hb : ∃ f, z_ia M1 (y + 11) 8 f) (h1 : z_fp M M1 (z_lA y)) (h2 : z_kp M M1 y) (h3 : z_le M1 y said told fm sm ls ts) (h4 : z_fp M1 M2 (fun q => q = y + 11)) (h5 : z_bb M2 y id) : z_lq M M2 y said told fm sm ls ts id := by
  obtain ⟨f, hb⟩ := hb
  obtain ⟨g, h6, -⟩ := id h5
  exact ⟨(h1.sub (fun q hq => by unfold z_lA at hq; omega)).tr (h4.sub (fun q hq => by omega)), h2.tr (z_kp.one h4 hb h6), h3.fp h4 (by omega) (by omega) (by omega), h5⟩
theorem z_lq.chg {M M1 M2 : zH} {y : Nat} {said told fm sm : Int32} {ls ts : List Nat} {p p' : Nat → Nat} (h : z_lq M M1 y said told fm sm ls ts p) (h4 : z_fp M1 M2 (fun q => q = y + 11)) (h5 : z_bb M2 y p') : z_lq M M2 y said told fm sm ls ts p' := by
  obtain ⟨a1, a2, a3, ⟨f, a4, -⟩⟩ := h
  obtain ⟨g, h6, -⟩ := id h5
  exact ⟨a1.tr (h4.sub (fun q hq => by omega)), a2.tr (z_kp.one h4 a4 h6), a3.fp h4 (by omega) (by omega) (by omega), h5⟩
theorem z_lq.mq {M M1 : zH} {y : Nat} {said told fm sm : Int32} {ls ts : List Nat} {p : Nat → Nat} (h : z_lq M M1 y said told fm sm ls ts p) : z_mq M M1 y said told := ⟨h.1.sub (fun q hq => by omega), h.2.1, _, _, _, h.2.2.1.1⟩
theorem m_lstF_len : ∀ (v : List Nat) (j : Nat), (m_lstF v j).length = (m_lets v).length
  | [], j => by simp [m_lstF, m_lets]
  | a :: v, j => by
    have h1 : m_lets (a :: v) = m_let a ++ m_lets v := by simp [m_lets]
    rw [h1, List.length_append, m_let_len, m_lstF, List.length_append, m_lstF_len v (j + 1)]; simp
theorem m_lstF_in : ∀ (v : List Nat) (j x : Nat), x ∈ m_lstF v j → j ≤ x ∧ x < j + v.length
  | [], j, x, h => by simp [m_lstF] at h
  | a :: v, j, x, h => by
    rw [m_lstF] at h
    rcases List.mem_append.mp h with h | h
    · rw [List.eq_of_mem_replicate h]; simp
    · have := m_lstF_in v (j + 1) x h
      simp only [List.length_cons]; omega
theorem m_goto (w : List Nat) (n : Nat) : m_lets w = m_lets (w.take n) ++ m_lets (w.drop n) ∧ (∀ i, i < (m_lets (w.take n)).length → (m_lst w).getD i 0 < n) ∧ ∀ i, (m_lets (w.take n)).length ≤ i → i < (m_lets w).length → n ≤ (m_lst w).getD i 0 := by
  have e1 : m_lets w = m_lets (w.take n) ++ m_lets (w.drop n) := by rw [← m_lets_app, List.take_append_drop]
  have e2 : m_lst w = m_lst (w.take n) ++ m_lstF (w.drop n) (w.take n).length := by
    have := m_lstF_app (w.take n) (w.drop n) 0
    rw [List.take_append_drop, Nat.zero_add] at this
    exact this
  have hl := m_lstF_len (w.take n) 0
  refine ⟨e1, fun i hi => ?_, fun i h1 h2 => ?_⟩
  · have h3 : i < (m_lst (w.take n)).length := by unfold m_lst; omega
    have h4 : (m_lst w).getD i 0 ∈ m_lst (w.take n) := by
      rw [e2]
      simp [List.getElem?_append_left h3, h3]
    have := (m_lstF_in _ _ _ h4).2
    rw [List.length_take] at this
    omega
  · have h3 : (m_lst (w.take n)).length ≤ i := by unfold m_lst; omega
    have h5 := m_lstF_len (w.drop n) (w.take n).length
    have h6 : (m_lets w).length = (m_lets (w.take n)).length + (m_lets (w.drop n)).length := by rw [e1, List.length_append]
    have h7 : i - (m_lst (w.take n)).length < (m_lstF (w.drop n) (w.take n).length).length := by unfold m_lst; omega
    have h4 : (m_lst w).getD i 0 ∈ m_lstF (w.drop n) (w.take n).length := by
      have gen : ∀ (a r : List Nat), a.length ≤ i → i - a.length < r.length → (a ++ r).getD i 0 ∈ r := fun a r q1 q2 => by simp [List.getElem?_append_right q1, List.getElem?_eq_getElem q2]
      rw [e2]
      exact gen _ _ h3 h7
    have h8 := m_lstF_in _ _ _ h4
    rw [List.length_take, List.length_drop] at h8
    omega
theorem m_lst_lt {w : List Nat} (h : w.length ≤ 60) (i : Nat) : (m_lst w).getD i 0 < 60 := by
  by_cases q : i < (m_lst w).length
  · have h4 : (m_lst w).getD i 0 ∈ m_lstF w 0 := by
      have : (m_lst w)[i]? = some ((m_lst w).getD i 0) := by simp [q]
      exact List.mem_of_getElem? this
    have := (m_lstF_in _ _ _ h4).2
    omega
  · have : (m_lst w).getD i 0 = 0 := by simp [Nat.le_of_not_lt q]
    omega
set_option maxRecDepth 100000 in
set_option maxHeartbeats 8000000 in
theorem d_goTo {l : Launch} {E : zE} {d y k : Nat} {M : zH} {said told lm fm sm : Int32} {f : Nat → Int32} {wk : Nat → List Nat} (nn : Nat) (ho : z_mo M y said told lm fm sm) (hf : z_ia M (y + 1) 244 f) (hst : m_st f wk) (hk : k < 4) (h15 : ∀ s ∈ wk k, s < 15) (hs : z_ms M y) (hnn : nn ≤ 60) : nX6_goTo l E (d + 2) [.ref y, .int (nI k), .int (nI nn)] M (z_v fun M' => z_lq M M' y said told fm sm (m_lets (wk k)) (m_lst (wk k)) (m_lay (m_lets ((wk k).take nn)) id)) := by
  refine z_cn 6 fun P z C => ?_
  have l2 := (hst k hk).2.1
  have hlk := m_lets_ok h15 l2
  obtain ⟨g1, g2, g3⟩ := m_goto (wk k) nn
  have hlen := hlk.1
  have hlt := m_lst_len (wk k)
  obtain ⟨c, hc⟩ : ∃ c, c = (m_lets ((wk k).take nn)).length := ⟨_, rfl⟩
  rw [← hc] at g2 g3
  have hcl : c ≤ (m_lets (wk k)).length := by rw [g1, List.length_append, hc]; omega
  have htk : (m_lets (wk k)).take c = m_lets ((wk k).take nn) := by rw [g1, hc, List.take_left']; rfl
  have ts60 : ∀ i, (m_lst (wk k)).getD i 0 < 2 ^ 31 := fun i => by have := m_lst_lt l2 i; omega
  obtain ⟨ls, els⟩ : ∃ ls, ls = m_lets (wk k) := ⟨_, rfl⟩
  obtain ⟨ts, ets⟩ : ∃ ts, ts = m_lst (wk k) := ⟨_, rfl⟩
  rw [← els] at hlk g1 hlen hlt hcl htk g3
  rw [← ets] at g2 g3 hlt ts60
  rw [← htk, ← els, ← ets] at C
  have loop : ∀ (n i : Nat) (M1 : zH), i + n = c → z_lq M M1 y said told fm sm ls ts (m_lay (ls.take i) id) → P (M1, z, 0, 0) 11 [some (.ref y), some (.int (nI k)), some (.int (nI nn)), some (.int (nI i))] [] := by
    intro n
    induction n with
    | zero =>
      intro i M1 hi hq
      obtain ⟨ho1, hts, ⟨a, ha, hai⟩, ⟨t, htt, hti⟩⟩ := id hq.2.2.1
      unfold z_mo at ho1
      unfold z_ia at htt
      have ei : i = c := by omega
      subst ei
      refine z_run C [] 15 ?_
      simp only [z_x, z_n, z_stop, z_mem, z_ldi, z_lda, z_sto, z_s1, z_s2, z_sa, z_sv, z_br, z_bn, z_ob, z_ar, z_aq, z_al, z_rt, z_ra, z_at, z_st, z_K0i, z_K0v, zk_0, zk_1, zk_2, zk_3, z_lv, List.map_cons, List.map_nil, List.length_cons, List.length_nil, List.replicate, List.cons_append, List.nil_append, Nat.reduceAdd, Nat.reduceSub, Nat.reduceBEq, Nat.reduceEqDiff, Nat.reduceLT, Nat.reduceLeDiff, Nat.zero_add, Int.cast_ofNat_Int, Int.reduceAdd, Int.reduceNeg, Int.reduceToNat, Int.reduceLE, Int.zero_add, Int.toNat_zero, Int.add_zero, Int.add_neg_cancel_right, Fin.isValue, Int32.reduceOfInt, ↓reduceIte, Bool.false_eq_true, Bool.or_false, Bool.false_or, Bool.or_true, Bool.true_or, if_true, if_false, true_and, and_true, true_or, or_true, false_or, or_false, eq_self, and_self, z_up_i, Nat.add_left_cancel_iff, Nat.left_eq_add, Nat.add_eq_left, reduceCtorEq, Nat.add_one_ne_zero, z_tt, implies_true, zn_0, zn_1, zo_0, zo_1, dX6_goTo_0, dX6_goTo_1, dX6_goTo_2, dX6_goTo_5, dX6_goTo_6, dX6_goTo_9, dX6_goTo_10, dX6_goTo_11, dX6_goTo_12, dX6_goTo_13, dX6_goTo_16, dX6_goTo_19, dX6_goTo_20, dX6_goTo_23, dX6_goTo_24, dX6_goTo_25, dX6_goTo_26, dX6_goTo_29, dX6_goTo_30, dX6_goTo_31, dX6_goTo_34, dX6_goTo_35, dX6_goTo_36, dX6_goTo_39, dX6_goTo_42, dX6_goTo_45, zf_6_39, zf_6_42, zf_6_98, zi_0, zi_1, ho1, htt]
      refine ⟨fun _ => hq, fun c1 => ?_⟩
      have hil : i < ls.length := by
        rcases Nat.lt_or_ge i ls.length with q | q
        · exact q
        · exact absurd (nI_le q (by omega)) c1
      refine ⟨vp_in_nI (by omega) (by omega), fun _ => hq, fun c2 => ?_⟩
      rw [nI_clamp (by omega), hti i (by omega)] at c2
      exact absurd (nI_le (g3 i (by omega) hil) (ts60 i)) c2
    | succ n ih =>
      intro i M1 hi hq
      obtain ⟨ho1, hts, ⟨a, ha, hai⟩, ⟨t, htt, hti⟩⟩ := id hq.2.2.1
      have ho2 := ho1
      unfold z_mo at ho1
      unfold z_ia at htt ha
      have hil : i < ls.length := by omega
      have hgs : ls[i]? = some (ls.getD i 0) := by simp [hil]
      have h7 := hlk.2 _ (List.mem_of_getElem? hgs)
      refine z_run C [] 25 ?_
      simp only [z_x, z_n, z_stop, z_mem, z_ldi, z_lda, z_sto, z_s1, z_s2, z_sa, z_sv, z_br, z_bn, z_ob, z_ar, z_aq, z_al, z_rt, z_ra, z_at, z_st, z_K0i, z_K0v, zk_0, zk_1, zk_2, zk_3, z_lv, List.map_cons, List.map_nil, List.length_cons, List.length_nil, List.replicate, List.cons_append, List.nil_append, Nat.reduceAdd, Nat.reduceSub, Nat.reduceBEq, Nat.reduceEqDiff, Nat.reduceLT, Nat.reduceLeDiff, Nat.zero_add, Int.cast_ofNat_Int, Int.reduceAdd, Int.reduceNeg, Int.reduceToNat, Int.reduceLE, Int.zero_add, Int.toNat_zero, Int.add_zero, Int.add_neg_cancel_right, Fin.isValue, Int32.reduceOfInt, ↓reduceIte, Bool.false_eq_true, Bool.or_false, Bool.false_or, Bool.or_true, Bool.true_or, if_true, if_false, true_and, and_true, true_or, or_true, false_or, or_false, eq_self, and_self, z_up_i, Nat.add_left_cancel_iff, Nat.left_eq_add, Nat.add_eq_left, reduceCtorEq, Nat.add_one_ne_zero, z_tt, implies_true, zn_0, zn_1, zo_0, zo_1, dX6_goTo_0, dX6_goTo_1, dX6_goTo_2, dX6_goTo_5, dX6_goTo_6, dX6_goTo_9, dX6_goTo_10, dX6_goTo_11, dX6_goTo_12, dX6_goTo_13, dX6_goTo_16, dX6_goTo_19, dX6_goTo_20, dX6_goTo_23, dX6_goTo_24, dX6_goTo_25, dX6_goTo_26, dX6_goTo_29, dX6_goTo_30, dX6_goTo_31, dX6_goTo_34, dX6_goTo_35, dX6_goTo_36, dX6_goTo_39, dX6_goTo_42, dX6_goTo_45, zf_6_39, zf_6_42, zf_6_98, zi_0, zi_1, ho1, htt, ha]
      refine ⟨fun c1 => absurd ((nI_leI (by omega) (by omega)).mp c1) (by omega), fun _ => ⟨vp_in_nI (by omega) (by omega), fun c2 => ?_, fun _ => ⟨vp_in_nI (by omega) (by omega), ?_⟩⟩⟩
      · rw [nI_clamp (by omega), hti i (by omega), nI_leI (by omega) (ts60 i)] at c2
        have := g2 i (by omega)
        omega
      · rw [nI_clamp (by omega), hai i (by omega)]
        refine z_vv C dX6_goTo_36 lk_6_112 (d_change ho2 hq.2.2.2 h7) rfl ho2 (fun M2 hv => ?_)
        obtain ⟨x1, x2⟩ := hv
        refine z_run C [11] 3 ?_
        simp only [z_x, z_n, z_stop, z_mem, z_ldi, z_lda, z_sto, z_s1, z_s2, z_sa, z_sv, z_br, z_bn, z_ob, z_ar, z_aq, z_al, z_rt, z_ra, z_at, z_st, z_K0i, z_K0v, zk_0, zk_1, zk_2, zk_3, z_lv, List.map_cons, List.map_nil, List.length_cons, List.length_nil, List.replicate, List.cons_append, List.nil_append, Nat.reduceAdd, Nat.reduceSub, Nat.reduceBEq, Nat.reduceEqDiff, Nat.reduceLT, Nat.reduceLeDiff, Nat.zero_add, Int.cast_ofNat_Int, Int.reduceAdd, Int.reduceNeg, Int.reduceToNat, Int.reduceLE, Int.zero_add, Int.toNat_zero, Int.add_zero, Int.add_neg_cancel_right, Fin.isValue, Int32.reduceOfInt, ↓reduceIte, Bool.false_eq_true, Bool.or_false, Bool.false_or, Bool.or_true, Bool.true_or, if_true, if_false, true_and, and_true, true_or, or_true, false_or, or_false, eq_self, and_self, z_up_i, Nat.add_left_cancel_iff, Nat.left_eq_add, Nat.add_eq_left, reduceCtorEq, Nat.add_one_ne_zero, z_tt, implies_true, zn_0, zn_1, zo_0, zo_1, dX6_goTo_0, dX6_goTo_1, dX6_goTo_2, dX6_goTo_5, dX6_goTo_6, dX6_goTo_9, dX6_goTo_10, dX6_goTo_11, dX6_goTo_12, dX6_goTo_13, dX6_goTo_16, dX6_goTo_19, dX6_goTo_20, dX6_goTo_23, dX6_goTo_24, dX6_goTo_25, dX6_goTo_26, dX6_goTo_29, dX6_goTo_30, dX6_goTo_31, dX6_goTo_34, dX6_goTo_35, dX6_goTo_36, dX6_goTo_39, dX6_goTo_42, dX6_goTo_45, zf_6_39, zf_6_42, zf_6_98, zi_0, zi_1]
        rw [nI_1]
        refine ih (i + 1) M2 (by omega) ?_
        rw [z_take1 hgs, m_lay_1]
        exact hq.chg x1 x2
  refine z_run C [] 3 ?_
  simp only [z_x, z_n, z_stop, z_mem, z_ldi, z_lda, z_sto, z_s1, z_s2, z_sa, z_sv, z_br, z_bn, z_ob, z_ar, z_aq, z_al, z_rt, z_ra, z_at, z_st, z_K0i, z_K0v, zk_0, zk_1, zk_2, zk_3, z_lv, List.map_cons, List.map_nil, List.length_cons, List.length_nil, List.replicate, List.cons_append, List.nil_append, Nat.reduceAdd, Nat.reduceSub, Nat.reduceBEq, Nat.reduceEqDiff, Nat.reduceLT, Nat.reduceLeDiff, Nat.zero_add, Int.cast_ofNat_Int, Int.reduceAdd, Int.reduceNeg, Int.reduceToNat, Int.reduceLE, Int.zero_add, Int.toNat_zero, Int.add_zero, Int.add_neg_cancel_right, Fin.isValue, Int32.reduceOfInt, ↓reduceIte, Bool.false_eq_true, Bool.or_false, Bool.false_or, Bool.or_true, Bool.true_or, if_true, if_false, true_and, and_true, true_or, or_true, false_or, or_false, eq_self, and_self, z_up_i, Nat.add_left_cancel_iff, Nat.left_eq_add, Nat.add_eq_left, reduceCtorEq, Nat.add_one_ne_zero, z_tt, implies_true, zn_0, zn_1, zo_0, zo_1, dX6_goTo_0, dX6_goTo_1, dX6_goTo_2, dX6_goTo_5, dX6_goTo_6, dX6_goTo_9, dX6_goTo_10, dX6_goTo_11, dX6_goTo_12, dX6_goTo_13, dX6_goTo_16, dX6_goTo_19, dX6_goTo_20, dX6_goTo_23, dX6_goTo_24, dX6_goTo_25, dX6_goTo_26, dX6_goTo_29, dX6_goTo_30, dX6_goTo_31, dX6_goTo_34, dX6_goTo_35, dX6_goTo_36, dX6_goTo_39, dX6_goTo_42, dX6_goTo_45, zf_6_39, zf_6_42, zf_6_98, zi_0, zi_1]
  refine z_vv C dX6_goTo_2 lk_6_105 (d_layLetters ho hf hst hk h15 hs.2.2.2.2.1 hs.2.2.2.2.2.1) rfl ho (fun M2 hv => ?_)
  obtain ⟨x1, x2, x3⟩ := hv
  rw [← els, ← ets] at x3
  obtain ⟨f11, hb11⟩ := hs.2.2.2.2.2.2.1
  have hb2 : ∃ f, z_ia M2 (y + 11) 8 f := ⟨f11, (x1 _ (by unfold z_lA; omega)).trans hb11⟩
  refine z_run C [] 2 ?_
  simp only [z_x, z_n, z_stop, z_mem, z_ldi, z_lda, z_sto, z_s1, z_s2, z_sa, z_sv, z_br, z_bn, z_ob, z_ar, z_aq, z_al, z_rt, z_ra, z_at, z_st, z_K0i, z_K0v, zk_0, zk_1, zk_2, zk_3, z_lv, List.map_cons, List.map_nil, List.length_cons, List.length_nil, List.replicate, List.cons_append, List.nil_append, Nat.reduceAdd, Nat.reduceSub, Nat.reduceBEq, Nat.reduceEqDiff, Nat.reduceLT, Nat.reduceLeDiff, Nat.zero_add, Int.cast_ofNat_Int, Int.reduceAdd, Int.reduceNeg, Int.reduceToNat, Int.reduceLE, Int.zero_add, Int.toNat_zero, Int.add_zero, Int.add_neg_cancel_right, Fin.isValue, Int32.reduceOfInt, ↓reduceIte, Bool.false_eq_true, Bool.or_false, Bool.false_or, Bool.or_true, Bool.true_or, if_true, if_false, true_and, and_true, true_or, or_true, false_or, or_false, eq_self, and_self, z_up_i, Nat.add_left_cancel_iff, Nat.left_eq_add, Nat.add_eq_left, reduceCtorEq, Nat.add_one_ne_zero, z_tt, implies_true, zn_0, zn_1, zo_0, zo_1, dX6_goTo_0, dX6_goTo_1, dX6_goTo_2, dX6_goTo_5, dX6_goTo_6, dX6_goTo_9, dX6_goTo_10, dX6_goTo_11, dX6_goTo_12, dX6_goTo_13, dX6_goTo_16, dX6_goTo_19, dX6_goTo_20, dX6_goTo_23, dX6_goTo_24, dX6_goTo_25, dX6_goTo_26, dX6_goTo_29, dX6_goTo_30, dX6_goTo_31, dX6_goTo_34, dX6_goTo_35, dX6_goTo_36, dX6_goTo_39, dX6_goTo_42, dX6_goTo_45, zf_6_39, zf_6_42, zf_6_98, zi_0, zi_1]
  refine z_vv C dX6_goTo_6 lk_6_109 (d_begin x3.1 hb2) rfl x3.1 (fun M3 hv => ?_)
  obtain ⟨w1, w2⟩ := hv
  refine z_run C [11] 3 ?_
  simp only [z_x, z_n, z_stop, z_mem, z_ldi, z_lda, z_sto, z_s1, z_s2, z_sa, z_sv, z_br, z_bn, z_ob, z_ar, z_aq, z_al, z_rt, z_ra, z_at, z_st, z_K0i, z_K0v, zk_0, zk_1, zk_2, zk_3, z_lv, List.map_cons, List.map_nil, List.length_cons, List.length_nil, List.replicate, List.cons_append, List.nil_append, Nat.reduceAdd, Nat.reduceSub, Nat.reduceBEq, Nat.reduceEqDiff, Nat.reduceLT, Nat.reduceLeDiff, Nat.zero_add, Int.cast_ofNat_Int, Int.reduceAdd, Int.reduceNeg, Int.reduceToNat, Int.reduceLE, Int.zero_add, Int.toNat_zero, Int.add_zero, Int.add_neg_cancel_right, Fin.isValue, Int32.reduceOfInt, ↓reduceIte, Bool.false_eq_true, Bool.or_false, Bool.false_or, Bool.or_true, Bool.true_or, if_true, if_false, true_and, and_true, true_or, or_true, false_or, or_false, eq_self, and_self, z_up_i, Nat.add_left_cancel_iff, Nat.left_eq_add, Nat.add_eq_left, reduceCtorEq, Nat.add_one_ne_zero, z_tt, implies_true, zn_0, zn_1, zo_0, zo_1, dX6_goTo_0, dX6_goTo_1, dX6_goTo_2, dX6_goTo_5, dX6_goTo_6, dX6_goTo_9, dX6_goTo_10, dX6_goTo_11, dX6_goTo_12, dX6_goTo_13, dX6_goTo_16, dX6_goTo_19, dX6_goTo_20, dX6_goTo_23, dX6_goTo_24, dX6_goTo_25, dX6_goTo_26, dX6_goTo_29, dX6_goTo_30, dX6_goTo_31, dX6_goTo_34, dX6_goTo_35, dX6_goTo_36, dX6_goTo_39, dX6_goTo_42, dX6_goTo_45, zf_6_39, zf_6_42, zf_6_98, zi_0, zi_1]
  exact loop c 0 M3 (by omega) (z_lq.mk hb2 x1 x2 x3 w1 w2)

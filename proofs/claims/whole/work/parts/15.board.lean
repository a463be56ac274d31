/-! THE BOARD: p tells which bobbin lies where, q the other row -/
def z_brd (M : zH) (b : Nat) (p q : Nat → Nat) : Prop := ∃ f g : Nat → Int32, M b = some (.inr (0, [.ref (b + 1), .ref (b + 2)])) ∧ M (b + 1) = some (.inl (0, 8, .inl f)) ∧ M (b + 2) = some (.inl (0, 8, .inl g)) ∧ (∀ j, j < 8 → f j = nI (p j) ∧ p j < 8) ∧ ∀ j, j < 8 → g j = nI (q j) ∧ q j < 8
theorem z_brd.ob {M : zH} {b : Nat} {p q : Nat → Nat} (h : z_brd M b p q) : M b = some (.inr (0, [.ref (b + 1), .ref (b + 2)])) := by
  obtain ⟨f, g, h1, -⟩ := h
  exact h1
theorem z_brd.fp {M M' : zH} {A : Nat → Prop} {b : Nat} {p q : Nat → Nat} (h : z_brd M b p q) (hf : z_fp M M' A) (h1 : ¬ A b) (h2 : ¬ A (b + 1)) (h3 : ¬ A (b + 2)) : z_brd M' b p q := by
  obtain ⟨f, g, g1, g2, g3, g4⟩ := h
  exact ⟨f, g, (hf _ h1).trans g1, (hf _ h2).trans g2, (hf _ h3).trans g3, g4⟩
def m_swp (p : Nat → Nat) (k : Nat) : Nat → Nat := fun j => if j = k then p (k + 1) else if j = k + 1 then p k else p j
def m_lay (ls : List Nat) (p : Nat → Nat) : Nat → Nat := ls.foldl (fun p a => m_swp p (a / 10)) p
set_option maxRecDepth 100000 in
set_option maxHeartbeats 4000000 in
theorem c_layAsAtFirst {l : Launch} {E : zE} {d : Nat} {M : zH} {b : Nat} {p q : Nat → Nat} (h : z_brd M b p q) : nX0_layAsAtFirst l E d [.ref b] M (z_v fun M' => z_fp M M' (fun a => a = b + 1) ∧ z_brd M' b id q) := by
  refine z_cn 0 fun P z C => ?_
  obtain ⟨f, g, h1, h2, h3, h4, h5⟩ := h
  have loop : ∀ (n i : Nat) (f1 : Nat → Int32), i + n = 8 → (∀ j, j < i → f1 j = nI j) → ∀ M1, z_fp M M1 (fun a => a = b + 1) → M1 (b + 1) = some (.inl (0, 8, .inl f1)) → P (M1, z, 0, 0) 2 [some (.ref b), some (.int (nI i))] [] := by
    intro n
    induction n with
    | zero =>
      intro i f1 hi hv M1 hf hM
      have h1' : M1 b = some (.inr (0, [.ref (b + 1), .ref (b + 2)])) := (hf b (by omega)).trans h1
      refine z_run C [] 20 ?_
      simp only [z_x, z_n, z_stop, z_mem, z_ldi, z_lda, z_sto, z_s1, z_s2, z_sa, z_sv, z_br, z_bn, z_ob, z_ar, z_aq, z_al, z_rt, z_ra, z_at, z_st, z_K0i, z_K0v, zk_0, zk_1, zk_2, zk_3, z_lv, List.map_cons, List.map_nil, List.length_cons, List.length_nil, List.replicate, List.cons_append, List.nil_append, Nat.reduceAdd, Nat.reduceSub, Nat.reduceBEq, Nat.reduceEqDiff, Nat.reduceLT, Nat.reduceLeDiff, Nat.zero_add, Int.cast_ofNat_Int, Int.reduceAdd, Int.reduceNeg, Int.reduceToNat, Int.reduceLE, Int.zero_add, Int.toNat_zero, Int.add_zero, Int.add_neg_cancel_right, Fin.isValue, Int32.reduceOfInt, ↓reduceIte, Bool.false_eq_true, Bool.or_false, Bool.false_or, Bool.or_true, Bool.true_or, if_true, if_false, true_and, and_true, true_or, or_true, false_or, or_false, eq_self, and_self, z_up_i, Nat.add_left_cancel_iff, Nat.left_eq_add, Nat.add_eq_left, reduceCtorEq, Nat.add_one_ne_zero, z_tt, implies_true, zn_0, zn_1, zo_0, zo_1, dX0_layAsAtFirst_0, dX0_layAsAtFirst_1, dX0_layAsAtFirst_2, dX0_layAsAtFirst_3, dX0_layAsAtFirst_4, dX0_layAsAtFirst_7, dX0_layAsAtFirst_8, dX0_layAsAtFirst_11, dX0_layAsAtFirst_12, dX0_layAsAtFirst_15, dX0_layAsAtFirst_16, dX0_layAsAtFirst_17, dX0_layAsAtFirst_18, dX0_layAsAtFirst_21, dX0_layAsAtFirst_24, zf_0_9, zi_0, zi_1, h1', hM]
      exact ⟨fun _ => ⟨hf, f1, g, h1', hM, (hf _ (by omega)).trans h3, fun j hj => ⟨hv j (by omega), hj⟩, h5⟩, fun c1 => absurd (nI_le (by omega) (by omega)) c1⟩
    | succ n ih =>
      intro i f1 hi hv M1 hf hM
      have h1' : M1 b = some (.inr (0, [.ref (b + 1), .ref (b + 2)])) := (hf b (by omega)).trans h1
      refine z_run C [2] 20 ?_
      simp only [z_x, z_n, z_stop, z_mem, z_ldi, z_lda, z_sto, z_s1, z_s2, z_sa, z_sv, z_br, z_bn, z_ob, z_ar, z_aq, z_al, z_rt, z_ra, z_at, z_st, z_K0i, z_K0v, zk_0, zk_1, zk_2, zk_3, z_lv, List.map_cons, List.map_nil, List.length_cons, List.length_nil, List.replicate, List.cons_append, List.nil_append, Nat.reduceAdd, Nat.reduceSub, Nat.reduceBEq, Nat.reduceEqDiff, Nat.reduceLT, Nat.reduceLeDiff, Nat.zero_add, Int.cast_ofNat_Int, Int.reduceAdd, Int.reduceNeg, Int.reduceToNat, Int.reduceLE, Int.zero_add, Int.toNat_zero, Int.add_zero, Int.add_neg_cancel_right, Fin.isValue, Int32.reduceOfInt, ↓reduceIte, Bool.false_eq_true, Bool.or_false, Bool.false_or, Bool.or_true, Bool.true_or, if_true, if_false, true_and, and_true, true_or, or_true, false_or, or_false, eq_self, and_self, z_up_i, Nat.add_left_cancel_iff, Nat.left_eq_add, Nat.add_eq_left, reduceCtorEq, Nat.add_one_ne_zero, z_tt, implies_true, zn_0, zn_1, zo_0, zo_1, dX0_layAsAtFirst_0, dX0_layAsAtFirst_1, dX0_layAsAtFirst_2, dX0_layAsAtFirst_3, dX0_layAsAtFirst_4, dX0_layAsAtFirst_7, dX0_layAsAtFirst_8, dX0_layAsAtFirst_11, dX0_layAsAtFirst_12, dX0_layAsAtFirst_15, dX0_layAsAtFirst_16, dX0_layAsAtFirst_17, dX0_layAsAtFirst_18, dX0_layAsAtFirst_21, dX0_layAsAtFirst_24, zf_0_9, zi_0, zi_1, h1', hM]
      refine ⟨fun c1 => absurd ((nI_leI (by omega) (by omega)).mp c1) (by omega), fun _ => ⟨vp_in_nI (by omega) (by omega), ?_⟩⟩
      rw [nI_1, nI_clamp (by omega)]
      refine ih (i + 1) _ (by omega) (fun j hj => ?_) _ (fun a ha => ?_) (z_up_s _ _ _)
      · by_cases hji : j = i
        · subst hji; simp [upd]
        · simp [upd, hji]; exact hv j (by omega)
      · rw [z_up_n ha]; exact hf a ha
  refine z_run C [2] 3 ?_
  simp only [z_x, z_n, z_stop, z_mem, z_ldi, z_lda, z_sto, z_s1, z_s2, z_sa, z_sv, z_br, z_bn, z_ob, z_ar, z_aq, z_al, z_rt, z_ra, z_at, z_st, z_K0i, z_K0v, zk_0, zk_1, zk_2, zk_3, z_lv, List.map_cons, List.map_nil, List.length_cons, List.length_nil, List.replicate, List.cons_append, List.nil_append, Nat.reduceAdd, Nat.reduceSub, Nat.reduceBEq, Nat.reduceEqDiff, Nat.reduceLT, Nat.reduceLeDiff, Nat.zero_add, Int.cast_ofNat_Int, Int.reduceAdd, Int.reduceNeg, Int.reduceToNat, Int.reduceLE, Int.zero_add, Int.toNat_zero, Int.add_zero, Int.add_neg_cancel_right, Fin.isValue, Int32.reduceOfInt, ↓reduceIte, Bool.false_eq_true, Bool.or_false, Bool.false_or, Bool.or_true, Bool.true_or, if_true, if_false, true_and, and_true, true_or, or_true, false_or, or_false, eq_self, and_self, z_up_i, Nat.add_left_cancel_iff, Nat.left_eq_add, Nat.add_eq_left, reduceCtorEq, Nat.add_one_ne_zero, z_tt, implies_true, zn_0, zn_1, zo_0, zo_1, dX0_layAsAtFirst_0, dX0_layAsAtFirst_1, dX0_layAsAtFirst_2, dX0_layAsAtFirst_3, dX0_layAsAtFirst_4, dX0_layAsAtFirst_7, dX0_layAsAtFirst_8, dX0_layAsAtFirst_11, dX0_layAsAtFirst_12, dX0_layAsAtFirst_15, dX0_layAsAtFirst_16, dX0_layAsAtFirst_17, dX0_layAsAtFirst_18, dX0_layAsAtFirst_21, dX0_layAsAtFirst_24, zf_0_9, zi_0, zi_1]
  exact loop 8 0 f (by omega) (fun j hj => by omega) M z_fp.rf h2
set_option maxRecDepth 100000 in
set_option maxHeartbeats 4000000 in
theorem c_bobbinAt {l : Launch} {E : zE} {d : Nat} {M : zH} {b : Nat} {p q : Nat → Nat} (j : Nat) (hj : j < 8) (h : z_brd M b p q) : nX0_bobbinAt l E d [.ref b, .int (nI j)] M (z_i fun v M' => v = nI (p j) ∧ M' = M) := by
  refine z_cn 0 fun P z C => ?_
  obtain ⟨f, g, h1, h2, h3, h4, h5⟩ := h
  refine z_run C [] 20 ?_
  simp only [z_x, z_n, z_stop, z_mem, z_ldi, z_lda, z_sto, z_s1, z_s2, z_sa, z_sv, z_br, z_bn, z_ob, z_ar, z_aq, z_al, z_rt, z_ra, z_at, z_st, z_K0i, z_K0v, zk_0, zk_1, zk_2, zk_3, z_lv, List.map_cons, List.map_nil, List.length_cons, List.length_nil, List.replicate, List.cons_append, List.nil_append, Nat.reduceAdd, Nat.reduceSub, Nat.reduceBEq, Nat.reduceEqDiff, Nat.reduceLT, Nat.reduceLeDiff, Nat.zero_add, Int.cast_ofNat_Int, Int.reduceAdd, Int.reduceNeg, Int.reduceToNat, Int.reduceLE, Int.zero_add, Int.toNat_zero, Int.add_zero, Int.add_neg_cancel_right, Fin.isValue, Int32.reduceOfInt, ↓reduceIte, Bool.false_eq_true, Bool.or_false, Bool.false_or, Bool.or_true, Bool.true_or, if_true, if_false, true_and, and_true, true_or, or_true, false_or, or_false, eq_self, and_self, z_up_i, Nat.add_left_cancel_iff, Nat.left_eq_add, Nat.add_eq_left, reduceCtorEq, Nat.add_one_ne_zero, z_tt, implies_true, zn_0, zn_1, zo_0, zo_1, dX0_bobbinAt_0, dX0_bobbinAt_1, dX0_bobbinAt_4, dX0_bobbinAt_5, dX0_bobbinAt_6, dX0_bobbinAt_9, dX0_bobbinAt_10, dX0_bobbinAt_13, dX0_bobbinAt_14, dX0_bobbinAt_17, dX0_bobbinAt_18, dX0_bobbinAt_19, dX0_bobbinAt_22, dX0_bobbinAt_24, zb_m6, zf_0_9, h1, h2]
  refine ⟨fun c1 => absurd c1 (nI_pos (by omega)), fun c1 => ⟨fun c2 => absurd ((nI_leI (by omega) (by omega)).mp c2) (by omega), fun c2 => ⟨vp_in_nI (by omega) (by omega), ?_, rfl⟩⟩⟩
  rw [nI_clamp (by omega)]
  exact (h4 j hj).1
set_option maxRecDepth 100000 in
set_option maxHeartbeats 4000000 in
theorem c_swap {l : Launch} {E : zE} {d : Nat} {M : zH} {b : Nat} {p q : Nat → Nat} (a : Nat) (ha : a / 10 < 7) (h : z_brd M b p q) : nX0_swap l E (d + 1) [.ref b, .int (nI a)] M (z_v fun M' => z_fp M M' (fun a => a = b + 1) ∧ z_brd M' b (m_swp p (a / 10)) q) := by
  refine z_cn 0 fun P z C => ?_
  obtain ⟨f, g, h1, h2, h3, h4, h5⟩ := h
  refine z_run C [] 2 ?_
  simp only [z_x, z_n, z_stop, z_mem, z_ldi, z_lda, z_sto, z_s1, z_s2, z_sa, z_sv, z_br, z_bn, z_ob, z_ar, z_aq, z_al, z_rt, z_ra, z_at, z_st, z_K0i, z_K0v, zk_0, zk_1, zk_2, zk_3, z_lv, List.map_cons, List.map_nil, List.length_cons, List.length_nil, List.replicate, List.cons_append, List.nil_append, Nat.reduceAdd, Nat.reduceSub, Nat.reduceBEq, Nat.reduceEqDiff, Nat.reduceLT, Nat.reduceLeDiff, Nat.zero_add, Int.cast_ofNat_Int, Int.reduceAdd, Int.reduceNeg, Int.reduceToNat, Int.reduceLE, Int.zero_add, Int.toNat_zero, Int.add_zero, Int.add_neg_cancel_right, Fin.isValue, Int32.reduceOfInt, ↓reduceIte, Bool.false_eq_true, Bool.or_false, Bool.false_or, Bool.or_true, Bool.true_or, if_true, if_false, true_and, and_true, true_or, or_true, false_or, or_false, eq_self, and_self, z_up_i, Nat.add_left_cancel_iff, Nat.left_eq_add, Nat.add_eq_left, reduceCtorEq, Nat.add_one_ne_zero, z_tt, implies_true, zn_0, zn_1, zo_0, zo_1, dX0_swap_0, dX0_swap_1, dX0_swap_4, dX0_swap_5, dX0_swap_6, dX0_swap_9, dX0_swap_10, dX0_swap_11, dX0_swap_14, dX0_swap_15, dX0_swap_16, dX0_swap_17, dX0_swap_20, dX0_swap_21, dX0_swap_24, dX0_swap_25, dX0_swap_26, dX0_swap_27, dX0_swap_28, dX0_swap_31, dX0_swap_32, dX0_swap_33, dX0_swap_36, dX0_swap_37, dX0_swap_38, dX0_swap_39, dX0_swap_40, dX0_swap_41, dX0_swap_42, dX0_swap_45, dX0_swap_46, dX0_swap_47, dX0_swap_48, dX0_swap_49, dX0_swap_50, zf_0_9, zi_1]
  refine z_ni C dX0_swap_1 lk_0_35 (c_placeOf a (by omega)) rfl (fun v M2 hv => ?_)
  obtain ⟨rfl, rfl⟩ := hv
  obtain ⟨k, hk⟩ : ∃ k, k = a / 10 := ⟨_, rfl⟩
  rw [← hk] at ha ⊢
  refine z_run C [] 40 ?_
  simp only [z_x, z_n, z_stop, z_mem, z_ldi, z_lda, z_sto, z_s1, z_s2, z_sa, z_sv, z_br, z_bn, z_ob, z_ar, z_aq, z_al, z_rt, z_ra, z_at, z_st, z_K0i, z_K0v, zk_0, zk_1, zk_2, zk_3, z_lv, List.map_cons, List.map_nil, List.length_cons, List.length_nil, List.replicate, List.cons_append, List.nil_append, Nat.reduceAdd, Nat.reduceSub, Nat.reduceBEq, Nat.reduceEqDiff, Nat.reduceLT, Nat.reduceLeDiff, Nat.zero_add, Int.cast_ofNat_Int, Int.reduceAdd, Int.reduceNeg, Int.reduceToNat, Int.reduceLE, Int.zero_add, Int.toNat_zero, Int.add_zero, Int.add_neg_cancel_right, Fin.isValue, Int32.reduceOfInt, ↓reduceIte, Bool.false_eq_true, Bool.or_false, Bool.false_or, Bool.or_true, Bool.true_or, if_true, if_false, true_and, and_true, true_or, or_true, false_or, or_false, eq_self, and_self, z_up_i, Nat.add_left_cancel_iff, Nat.left_eq_add, Nat.add_eq_left, reduceCtorEq, Nat.add_one_ne_zero, z_tt, implies_true, zn_0, zn_1, zo_0, zo_1, dX0_swap_0, dX0_swap_1, dX0_swap_4, dX0_swap_5, dX0_swap_6, dX0_swap_9, dX0_swap_10, dX0_swap_11, dX0_swap_14, dX0_swap_15, dX0_swap_16, dX0_swap_17, dX0_swap_20, dX0_swap_21, dX0_swap_24, dX0_swap_25, dX0_swap_26, dX0_swap_27, dX0_swap_28, dX0_swap_31, dX0_swap_32, dX0_swap_33, dX0_swap_36, dX0_swap_37, dX0_swap_38, dX0_swap_39, dX0_swap_40, dX0_swap_41, dX0_swap_42, dX0_swap_45, dX0_swap_46, dX0_swap_47, dX0_swap_48, dX0_swap_49, dX0_swap_50, zf_0_9, zi_1, h1, h2]
  rw [← hk]
  refine ⟨fun c1 => absurd c1 (nI_pos (by omega)), fun c1 => ⟨fun c2 => absurd ((nI_leI (a := 7) (by omega) (by omega)).mp c2) (by omega), fun c2 => ?_⟩⟩
  rw [nI_1, nI_clamp (by omega), nI_clamp (by omega)]
  refine ⟨vp_in_nI (by omega) (by omega), vp_in_nI (by omega) (by omega), vp_in_nI (by omega) (by omega), vp_in_nI (by omega) (by omega), fun c hc => ?_, ?_⟩
  · rw [z_up_n hc, z_up_n hc]
  · refine ⟨_, g, ?_, z_up_s _ _ _, ?_, fun j hj => ?_, h5⟩
    · rw [z_up_n (by omega), z_up_n (by omega)]; exact h1
    · rw [z_up_n (by omega), z_up_n (by omega)]; exact h3
    · unfold m_swp
      by_cases e1 : j = k
      · subst e1
        simp [upd]
        exact h4 _ (by omega)
      · by_cases e2 : j = k + 1
        · subst e2
          simp [upd]
          exact h4 _ (by omega)
        · simp [upd, e1, e2]
          exact h4 _ hj
set_option maxRecDepth 100000 in
set_option maxHeartbeats 4000000 in
theorem c_layBehind {l : Launch} {E : zE} {d : Nat} {M : zH} {b r cap : Nat} {p q : Nat → Nat} {ls : List Nat} (h : z_brd M b p q) (hr : z_row M r cap (ls.map nI)) (hls : ∀ a ∈ ls, a / 10 < 7) (hn : r ≠ b + 1 ∧ r + 1 ≠ b + 1) : nX0_layBehind l E (d + 2) [.ref b, .ref r] M (z_v fun M' => z_fp M M' (fun a => a = b + 1) ∧ z_brd M' b (m_lay ls id) q) := by
  refine z_cn 0 fun P z C => ?_
  have hcap := hr.le
  simp only [List.length_map] at hcap
  have loop : ∀ (n i : Nat) (M1 : zH), i + n = ls.length → z_fp M M1 (fun a => a = b + 1) → z_brd M1 b (m_lay (ls.take i) id) q → P (M1, z, 0, 0) 6 [some (.ref b), some (.ref r), some (.int (nI i))] [] := by
    intro n
    induction n with
    | zero =>
      intro i M1 hi hf hb
      have hr1 := hr.fp hf (by omega) (by omega)
      refine z_run C [] 3 ?_
      simp only [z_x, z_n, z_stop, z_mem, z_ldi, z_lda, z_sto, z_s1, z_s2, z_sa, z_sv, z_br, z_bn, z_ob, z_ar, z_aq, z_al, z_rt, z_ra, z_at, z_st, z_K0i, z_K0v, zk_0, zk_1, zk_2, zk_3, z_lv, List.map_cons, List.map_nil, List.length_cons, List.length_nil, List.replicate, List.cons_append, List.nil_append, Nat.reduceAdd, Nat.reduceSub, Nat.reduceBEq, Nat.reduceEqDiff, Nat.reduceLT, Nat.reduceLeDiff, Nat.zero_add, Int.cast_ofNat_Int, Int.reduceAdd, Int.reduceNeg, Int.reduceToNat, Int.reduceLE, Int.zero_add, Int.toNat_zero, Int.add_zero, Int.add_neg_cancel_right, Fin.isValue, Int32.reduceOfInt, ↓reduceIte, Bool.false_eq_true, Bool.or_false, Bool.false_or, Bool.or_true, Bool.true_or, if_true, if_false, true_and, and_true, true_or, or_true, false_or, or_false, eq_self, and_self, z_up_i, Nat.add_left_cancel_iff, Nat.left_eq_add, Nat.add_eq_left, reduceCtorEq, Nat.add_one_ne_zero, z_tt, implies_true, zn_0, zn_1, zo_0, zo_1, dX0_layBehind_0, dX0_layBehind_1, dX0_layBehind_4, dX0_layBehind_5, dX0_layBehind_6, dX0_layBehind_7, dX0_layBehind_8, dX0_layBehind_11, dX0_layBehind_14, dX0_layBehind_15, dX0_layBehind_16, dX0_layBehind_17, dX0_layBehind_20, dX0_layBehind_23, dX0_layBehind_26, dX0_layBehind_29, zi_0, zi_1]
      refine z_vi C dX0_layBehind_8 lk_0_21 (c_size hr1) rfl hr1.ob (fun v M2 hv => ?_)
      obtain ⟨rfl, rfl⟩ := hv
      refine z_run C [] 3 ?_
      simp only [z_x, z_n, z_stop, z_mem, z_ldi, z_lda, z_sto, z_s1, z_s2, z_sa, z_sv, z_br, z_bn, z_ob, z_ar, z_aq, z_al, z_rt, z_ra, z_at, z_st, z_K0i, z_K0v, zk_0, zk_1, zk_2, zk_3, z_lv, List.map_cons, List.map_nil, List.length_cons, List.length_nil, List.replicate, List.cons_append, List.nil_append, Nat.reduceAdd, Nat.reduceSub, Nat.reduceBEq, Nat.reduceEqDiff, Nat.reduceLT, Nat.reduceLeDiff, Nat.zero_add, Int.cast_ofNat_Int, Int.reduceAdd, Int.reduceNeg, Int.reduceToNat, Int.reduceLE, Int.zero_add, Int.toNat_zero, Int.add_zero, Int.add_neg_cancel_right, Fin.isValue, Int32.reduceOfInt, ↓reduceIte, Bool.false_eq_true, Bool.or_false, Bool.false_or, Bool.or_true, Bool.true_or, if_true, if_false, true_and, and_true, true_or, or_true, false_or, or_false, eq_self, and_self, z_up_i, Nat.add_left_cancel_iff, Nat.left_eq_add, Nat.add_eq_left, reduceCtorEq, Nat.add_one_ne_zero, z_tt, implies_true, zn_0, zn_1, zo_0, zo_1, dX0_layBehind_0, dX0_layBehind_1, dX0_layBehind_4, dX0_layBehind_5, dX0_layBehind_6, dX0_layBehind_7, dX0_layBehind_8, dX0_layBehind_11, dX0_layBehind_14, dX0_layBehind_15, dX0_layBehind_16, dX0_layBehind_17, dX0_layBehind_20, dX0_layBehind_23, dX0_layBehind_26, dX0_layBehind_29, zi_0, zi_1]
      simp only [List.length_map]
      refine ⟨fun _ => ⟨hf, ?_⟩, fun c1 => absurd (nI_le (by omega) (by omega)) c1⟩
      rw [List.take_of_length_le (by omega)] at hb
      exact hb
    | succ n ih =>
      intro i M1 hi hf hb
      have hr1 := hr.fp hf (by omega) (by omega)
      refine z_run C [] 3 ?_
      simp only [z_x, z_n, z_stop, z_mem, z_ldi, z_lda, z_sto, z_s1, z_s2, z_sa, z_sv, z_br, z_bn, z_ob, z_ar, z_aq, z_al, z_rt, z_ra, z_at, z_st, z_K0i, z_K0v, zk_0, zk_1, zk_2, zk_3, z_lv, List.map_cons, List.map_nil, List.length_cons, List.length_nil, List.replicate, List.cons_append, List.nil_append, Nat.reduceAdd, Nat.reduceSub, Nat.reduceBEq, Nat.reduceEqDiff, Nat.reduceLT, Nat.reduceLeDiff, Nat.zero_add, Int.cast_ofNat_Int, Int.reduceAdd, Int.reduceNeg, Int.reduceToNat, Int.reduceLE, Int.zero_add, Int.toNat_zero, Int.add_zero, Int.add_neg_cancel_right, Fin.isValue, Int32.reduceOfInt, ↓reduceIte, Bool.false_eq_true, Bool.or_false, Bool.false_or, Bool.or_true, Bool.true_or, if_true, if_false, true_and, and_true, true_or, or_true, false_or, or_false, eq_self, and_self, z_up_i, Nat.add_left_cancel_iff, Nat.left_eq_add, Nat.add_eq_left, reduceCtorEq, Nat.add_one_ne_zero, z_tt, implies_true, zn_0, zn_1, zo_0, zo_1, dX0_layBehind_0, dX0_layBehind_1, dX0_layBehind_4, dX0_layBehind_5, dX0_layBehind_6, dX0_layBehind_7, dX0_layBehind_8, dX0_layBehind_11, dX0_layBehind_14, dX0_layBehind_15, dX0_layBehind_16, dX0_layBehind_17, dX0_layBehind_20, dX0_layBehind_23, dX0_layBehind_26, dX0_layBehind_29, zi_0, zi_1]
      refine z_vi C dX0_layBehind_8 lk_0_21 (c_size hr1) rfl hr1.ob (fun v M2 hv => ?_)
      obtain ⟨rfl, rfl⟩ := hv
      refine z_run C [] 5 ?_
      simp only [z_x, z_n, z_stop, z_mem, z_ldi, z_lda, z_sto, z_s1, z_s2, z_sa, z_sv, z_br, z_bn, z_ob, z_ar, z_aq, z_al, z_rt, z_ra, z_at, z_st, z_K0i, z_K0v, zk_0, zk_1, zk_2, zk_3, z_lv, List.map_cons, List.map_nil, List.length_cons, List.length_nil, List.replicate, List.cons_append, List.nil_append, Nat.reduceAdd, Nat.reduceSub, Nat.reduceBEq, Nat.reduceEqDiff, Nat.reduceLT, Nat.reduceLeDiff, Nat.zero_add, Int.cast_ofNat_Int, Int.reduceAdd, Int.reduceNeg, Int.reduceToNat, Int.reduceLE, Int.zero_add, Int.toNat_zero, Int.add_zero, Int.add_neg_cancel_right, Fin.isValue, Int32.reduceOfInt, ↓reduceIte, Bool.false_eq_true, Bool.or_false, Bool.false_or, Bool.or_true, Bool.true_or, if_true, if_false, true_and, and_true, true_or, or_true, false_or, or_false, eq_self, and_self, z_up_i, Nat.add_left_cancel_iff, Nat.left_eq_add, Nat.add_eq_left, reduceCtorEq, Nat.add_one_ne_zero, z_tt, implies_true, zn_0, zn_1, zo_0, zo_1, dX0_layBehind_0, dX0_layBehind_1, dX0_layBehind_4, dX0_layBehind_5, dX0_layBehind_6, dX0_layBehind_7, dX0_layBehind_8, dX0_layBehind_11, dX0_layBehind_14, dX0_layBehind_15, dX0_layBehind_16, dX0_layBehind_17, dX0_layBehind_20, dX0_layBehind_23, dX0_layBehind_26, dX0_layBehind_29, zi_0, zi_1]
      simp only [List.length_map]
      refine ⟨fun c1 => absurd ((nI_leI (by omega) (by omega)).mp c1) (by omega), fun _ => ?_⟩
      refine z_vi C dX0_layBehind_17 lk_0_27 (c_get (nI i) hr1) rfl hr1.ob (fun v M2 hv => ?_)
      obtain ⟨rfl, rfl⟩ := hv
      rw [z_getN (by omega) (by omega)]
      have hg : ls[i]? = some (ls.getD i 0) := by simp [show i < ls.length by omega]
      refine z_vv C dX0_layBehind_20 lk_0_31 (c_swap (ls.getD i 0) (hls _ (List.mem_of_getElem? hg)) hb) rfl hb.ob (fun M3 hv => ?_)
      obtain ⟨hf3, hb3⟩ := hv
      refine z_run C [6] 5 ?_
      simp only [z_x, z_n, z_stop, z_mem, z_ldi, z_lda, z_sto, z_s1, z_s2, z_sa, z_sv, z_br, z_bn, z_ob, z_ar, z_aq, z_al, z_rt, z_ra, z_at, z_st, z_K0i, z_K0v, zk_0, zk_1, zk_2, zk_3, z_lv, List.map_cons, List.map_nil, List.length_cons, List.length_nil, List.replicate, List.cons_append, List.nil_append, Nat.reduceAdd, Nat.reduceSub, Nat.reduceBEq, Nat.reduceEqDiff, Nat.reduceLT, Nat.reduceLeDiff, Nat.zero_add, Int.cast_ofNat_Int, Int.reduceAdd, Int.reduceNeg, Int.reduceToNat, Int.reduceLE, Int.zero_add, Int.toNat_zero, Int.add_zero, Int.add_neg_cancel_right, Fin.isValue, Int32.reduceOfInt, ↓reduceIte, Bool.false_eq_true, Bool.or_false, Bool.false_or, Bool.or_true, Bool.true_or, if_true, if_false, true_and, and_true, true_or, or_true, false_or, or_false, eq_self, and_self, z_up_i, Nat.add_left_cancel_iff, Nat.left_eq_add, Nat.add_eq_left, reduceCtorEq, Nat.add_one_ne_zero, z_tt, implies_true, zn_0, zn_1, zo_0, zo_1, dX0_layBehind_0, dX0_layBehind_1, dX0_layBehind_4, dX0_layBehind_5, dX0_layBehind_6, dX0_layBehind_7, dX0_layBehind_8, dX0_layBehind_11, dX0_layBehind_14, dX0_layBehind_15, dX0_layBehind_16, dX0_layBehind_17, dX0_layBehind_20, dX0_layBehind_23, dX0_layBehind_26, dX0_layBehind_29, zi_0, zi_1]
      rw [nI_1]
      refine ih (i + 1) M3 (by omega) (hf.tr hf3) ?_
      rw [z_take1 hg, m_lay, List.foldl_append]
      exact hb3
  refine z_run C [] 3 ?_
  simp only [z_x, z_n, z_stop, z_mem, z_ldi, z_lda, z_sto, z_s1, z_s2, z_sa, z_sv, z_br, z_bn, z_ob, z_ar, z_aq, z_al, z_rt, z_ra, z_at, z_st, z_K0i, z_K0v, zk_0, zk_1, zk_2, zk_3, z_lv, List.map_cons, List.map_nil, List.length_cons, List.length_nil, List.replicate, List.cons_append, List.nil_append, Nat.reduceAdd, Nat.reduceSub, Nat.reduceBEq, Nat.reduceEqDiff, Nat.reduceLT, Nat.reduceLeDiff, Nat.zero_add, Int.cast_ofNat_Int, Int.reduceAdd, Int.reduceNeg, Int.reduceToNat, Int.reduceLE, Int.zero_add, Int.toNat_zero, Int.add_zero, Int.add_neg_cancel_right, Fin.isValue, Int32.reduceOfInt, ↓reduceIte, Bool.false_eq_true, Bool.or_false, Bool.false_or, Bool.or_true, Bool.true_or, if_true, if_false, true_and, and_true, true_or, or_true, false_or, or_false, eq_self, and_self, z_up_i, Nat.add_left_cancel_iff, Nat.left_eq_add, Nat.add_eq_left, reduceCtorEq, Nat.add_one_ne_zero, z_tt, implies_true, zn_0, zn_1, zo_0, zo_1, dX0_layBehind_0, dX0_layBehind_1, dX0_layBehind_4, dX0_layBehind_5, dX0_layBehind_6, dX0_layBehind_7, dX0_layBehind_8, dX0_layBehind_11, dX0_layBehind_14, dX0_layBehind_15, dX0_layBehind_16, dX0_layBehind_17, dX0_layBehind_20, dX0_layBehind_23, dX0_layBehind_26, dX0_layBehind_29, zi_0, zi_1]
  refine z_vv C dX0_layBehind_1 lk_0_18 (c_layAsAtFirst h) rfl h.ob (fun M3 hv => ?_)
  obtain ⟨hf3, hb3⟩ := hv
  refine z_run C [6] 5 ?_
  simp only [z_x, z_n, z_stop, z_mem, z_ldi, z_lda, z_sto, z_s1, z_s2, z_sa, z_sv, z_br, z_bn, z_ob, z_ar, z_aq, z_al, z_rt, z_ra, z_at, z_st, z_K0i, z_K0v, zk_0, zk_1, zk_2, zk_3, z_lv, List.map_cons, List.map_nil, List.length_cons, List.length_nil, List.replicate, List.cons_append, List.nil_append, Nat.reduceAdd, Nat.reduceSub, Nat.reduceBEq, Nat.reduceEqDiff, Nat.reduceLT, Nat.reduceLeDiff, Nat.zero_add, Int.cast_ofNat_Int, Int.reduceAdd, Int.reduceNeg, Int.reduceToNat, Int.reduceLE, Int.zero_add, Int.toNat_zero, Int.add_zero, Int.add_neg_cancel_right, Fin.isValue, Int32.reduceOfInt, ↓reduceIte, Bool.false_eq_true, Bool.or_false, Bool.false_or, Bool.or_true, Bool.true_or, if_true, if_false, true_and, and_true, true_or, or_true, false_or, or_false, eq_self, and_self, z_up_i, Nat.add_left_cancel_iff, Nat.left_eq_add, Nat.add_eq_left, reduceCtorEq, Nat.add_one_ne_zero, z_tt, implies_true, zn_0, zn_1, zo_0, zo_1, dX0_layBehind_0, dX0_layBehind_1, dX0_layBehind_4, dX0_layBehind_5, dX0_layBehind_6, dX0_layBehind_7, dX0_layBehind_8, dX0_layBehind_11, dX0_layBehind_14, dX0_layBehind_15, dX0_layBehind_16, dX0_layBehind_17, dX0_layBehind_20, dX0_layBehind_23, dX0_layBehind_26, dX0_layBehind_29, zi_0, zi_1]
  exact loop ls.length 0 M3 (by omega) hf3 hb3
set_option maxRecDepth 100000 in
set_option maxHeartbeats 4000000 in
theorem c_upper {l : Launch} {E : zE} {d : Nat} {M : zH} {b : Nat} {p q : Nat → Nat} (a : Nat) (ha : a / 10 < 7) (h : z_brd M b p q) : nX0_upper l E (d + 1) [.ref b, .int (nI a)] M (z_i fun v M' => v = nI (p (a / 10 + (if a % 10 = 1 then 1 else 0))) ∧ M' = M) := by
  refine z_cn 0 fun P z C => ?_
  refine z_run C [] 3 ?_
  simp only [z_x, z_n, z_stop, z_mem, z_ldi, z_lda, z_sto, z_s1, z_s2, z_sa, z_sv, z_br, z_bn, z_ob, z_ar, z_aq, z_al, z_rt, z_ra, z_at, z_st, z_K0i, z_K0v, zk_0, zk_1, zk_2, zk_3, z_lv, List.map_cons, List.map_nil, List.length_cons, List.length_nil, List.replicate, List.cons_append, List.nil_append, Nat.reduceAdd, Nat.reduceSub, Nat.reduceBEq, Nat.reduceEqDiff, Nat.reduceLT, Nat.reduceLeDiff, Nat.zero_add, Int.cast_ofNat_Int, Int.reduceAdd, Int.reduceNeg, Int.reduceToNat, Int.reduceLE, Int.zero_add, Int.toNat_zero, Int.add_zero, Int.add_neg_cancel_right, Fin.isValue, Int32.reduceOfInt, ↓reduceIte, Bool.false_eq_true, Bool.or_false, Bool.false_or, Bool.or_true, Bool.true_or, if_true, if_false, true_and, and_true, true_or, or_true, false_or, or_false, eq_self, and_self, z_up_i, Nat.add_left_cancel_iff, Nat.left_eq_add, Nat.add_eq_left, reduceCtorEq, Nat.add_one_ne_zero, z_tt, implies_true, zn_0, zn_1, zo_0, zo_1, dX0_upper_0, dX0_upper_1, dX0_upper_2, dX0_upper_5, dX0_upper_6, dX0_upper_9, dX0_upper_12, dX0_upper_13, dX0_upper_16, dX0_upper_17, dX0_upper_18, dX0_upper_21, zi_0, zi_1]
  refine z_ni C dX0_upper_2 lk_0_35 (c_placeOf a (by omega)) rfl (fun v M2 hv => ?_)
  obtain ⟨rfl, rfl⟩ := hv
  refine z_run C [] 3 ?_
  simp only [z_x, z_n, z_stop, z_mem, z_ldi, z_lda, z_sto, z_s1, z_s2, z_sa, z_sv, z_br, z_bn, z_ob, z_ar, z_aq, z_al, z_rt, z_ra, z_at, z_st, z_K0i, z_K0v, zk_0, zk_1, zk_2, zk_3, z_lv, List.map_cons, List.map_nil, List.length_cons, List.length_nil, List.replicate, List.cons_append, List.nil_append, Nat.reduceAdd, Nat.reduceSub, Nat.reduceBEq, Nat.reduceEqDiff, Nat.reduceLT, Nat.reduceLeDiff, Nat.zero_add, Int.cast_ofNat_Int, Int.reduceAdd, Int.reduceNeg, Int.reduceToNat, Int.reduceLE, Int.zero_add, Int.toNat_zero, Int.add_zero, Int.add_neg_cancel_right, Fin.isValue, Int32.reduceOfInt, ↓reduceIte, Bool.false_eq_true, Bool.or_false, Bool.false_or, Bool.or_true, Bool.true_or, if_true, if_false, true_and, and_true, true_or, or_true, false_or, or_false, eq_self, and_self, z_up_i, Nat.add_left_cancel_iff, Nat.left_eq_add, Nat.add_eq_left, reduceCtorEq, Nat.add_one_ne_zero, z_tt, implies_true, zn_0, zn_1, zo_0, zo_1, dX0_upper_0, dX0_upper_1, dX0_upper_2, dX0_upper_5, dX0_upper_6, dX0_upper_9, dX0_upper_12, dX0_upper_13, dX0_upper_16, dX0_upper_17, dX0_upper_18, dX0_upper_21, zi_0, zi_1]
  refine z_ni C dX0_upper_6 lk_0_38 (c_isRightOver a (by omega)) rfl (fun v M2 hv => ?_)
  obtain ⟨rfl, rfl⟩ := hv
  refine z_run C [] 10 ?_
  simp only [z_x, z_n, z_stop, z_mem, z_ldi, z_lda, z_sto, z_s1, z_s2, z_sa, z_sv, z_br, z_bn, z_ob, z_ar, z_aq, z_al, z_rt, z_ra, z_at, z_st, z_K0i, z_K0v, zk_0, zk_1, zk_2, zk_3, z_lv, List.map_cons, List.map_nil, List.length_cons, List.length_nil, List.replicate, List.cons_append, List.nil_append, Nat.reduceAdd, Nat.reduceSub, Nat.reduceBEq, Nat.reduceEqDiff, Nat.reduceLT, Nat.reduceLeDiff, Nat.zero_add, Int.cast_ofNat_Int, Int.reduceAdd, Int.reduceNeg, Int.reduceToNat, Int.reduceLE, Int.zero_add, Int.toNat_zero, Int.add_zero, Int.add_neg_cancel_right, Fin.isValue, Int32.reduceOfInt, ↓reduceIte, Bool.false_eq_true, Bool.or_false, Bool.false_or, Bool.or_true, Bool.true_or, if_true, if_false, true_and, and_true, true_or, or_true, false_or, or_false, eq_self, and_self, z_up_i, Nat.add_left_cancel_iff, Nat.left_eq_add, Nat.add_eq_left, reduceCtorEq, Nat.add_one_ne_zero, z_tt, implies_true, zn_0, zn_1, zo_0, zo_1, dX0_upper_0, dX0_upper_1, dX0_upper_2, dX0_upper_5, dX0_upper_6, dX0_upper_9, dX0_upper_12, dX0_upper_13, dX0_upper_16, dX0_upper_17, dX0_upper_18, dX0_upper_21, zi_0, zi_1]
  by_cases h1 : a % 10 = 1
  · simp only [h1, if_true]
    refine ⟨fun c => absurd c (by decide), fun _ => ?_⟩
    rw [nI_1]
    refine z_vi C dX0_upper_18 lk_0_42 (c_bobbinAt (a / 10 + 1) (by omega) h) rfl h.ob (fun v M2 hv => ?_)
    obtain ⟨rfl, rfl⟩ := hv
    refine z_run C [] 3 ?_
    simp only [z_x, z_n, z_stop, z_mem, z_ldi, z_lda, z_sto, z_s1, z_s2, z_sa, z_sv, z_br, z_bn, z_ob, z_ar, z_aq, z_al, z_rt, z_ra, z_at, z_st, z_K0i, z_K0v, zk_0, zk_1, zk_2, zk_3, z_lv, List.map_cons, List.map_nil, List.length_cons, List.length_nil, List.replicate, List.cons_append, List.nil_append, Nat.reduceAdd, Nat.reduceSub, Nat.reduceBEq, Nat.reduceEqDiff, Nat.reduceLT, Nat.reduceLeDiff, Nat.zero_add, Int.cast_ofNat_Int, Int.reduceAdd, Int.reduceNeg, Int.reduceToNat, Int.reduceLE, Int.zero_add, Int.toNat_zero, Int.add_zero, Int.add_neg_cancel_right, Fin.isValue, Int32.reduceOfInt, ↓reduceIte, Bool.false_eq_true, Bool.or_false, Bool.false_or, Bool.or_true, Bool.true_or, if_true, if_false, true_and, and_true, true_or, or_true, false_or, or_false, eq_self, and_self, z_up_i, Nat.add_left_cancel_iff, Nat.left_eq_add, Nat.add_eq_left, reduceCtorEq, Nat.add_one_ne_zero, z_tt, implies_true, zn_0, zn_1, zo_0, zo_1, dX0_upper_0, dX0_upper_1, dX0_upper_2, dX0_upper_5, dX0_upper_6, dX0_upper_9, dX0_upper_12, dX0_upper_13, dX0_upper_16, dX0_upper_17, dX0_upper_18, dX0_upper_21, zi_0, zi_1]
    exact ⟨by rw [if_pos h1], rfl⟩
  · simp only [h1, if_false]
    refine ⟨fun _ => ?_, fun c => absurd trivial c⟩
    rw [show (0 : Int32) = nI 0 from rfl, nI_add]
    refine z_vi C dX0_upper_18 lk_0_42 (c_bobbinAt (a / 10 + 0) (by omega) h) rfl h.ob (fun v M2 hv => ?_)
    obtain ⟨rfl, rfl⟩ := hv
    refine z_run C [] 3 ?_
    simp only [z_x, z_n, z_stop, z_mem, z_ldi, z_lda, z_sto, z_s1, z_s2, z_sa, z_sv, z_br, z_bn, z_ob, z_ar, z_aq, z_al, z_rt, z_ra, z_at, z_st, z_K0i, z_K0v, zk_0, zk_1, zk_2, zk_3, z_lv, List.map_cons, List.map_nil, List.length_cons, List.length_nil, List.replicate, List.cons_append, List.nil_append, Nat.reduceAdd, Nat.reduceSub, Nat.reduceBEq, Nat.reduceEqDiff, Nat.reduceLT, Nat.reduceLeDiff, Nat.zero_add, Int.cast_ofNat_Int, Int.reduceAdd, Int.reduceNeg, Int.reduceToNat, Int.reduceLE, Int.zero_add, Int.toNat_zero, Int.add_zero, Int.add_neg_cancel_right, Fin.isValue, Int32.reduceOfInt, ↓reduceIte, Bool.false_eq_true, Bool.or_false, Bool.false_or, Bool.or_true, Bool.true_or, if_true, if_false, true_and, and_true, true_or, or_true, false_or, or_false, eq_self, and_self, z_up_i, Nat.add_left_cancel_iff, Nat.left_eq_add, Nat.add_eq_left, reduceCtorEq, Nat.add_one_ne_zero, z_tt, implies_true, zn_0, zn_1, zo_0, zo_1, dX0_upper_0, dX0_upper_1, dX0_upper_2, dX0_upper_5, dX0_upper_6, dX0_upper_9, dX0_upper_12, dX0_upper_13, dX0_upper_16, dX0_upper_17, dX0_upper_18, dX0_upper_21, zi_0, zi_1]
    exact ⟨by rw [if_neg h1], rfl⟩
set_option maxRecDepth 100000 in
set_option maxHeartbeats 4000000 in
theorem c_lower {l : Launch} {E : zE} {d : Nat} {M : zH} {b : Nat} {p q : Nat → Nat} (a : Nat) (ha : a / 10 < 7) (h : z_brd M b p q) : nX0_lower l E (d + 1) [.ref b, .int (nI a)] M (z_i fun v M' => v = nI (p (a / 10 + (if a % 10 = 1 then 0 else 1))) ∧ M' = M) := by
  refine z_cn 0 fun P z C => ?_
  refine z_run C [] 3 ?_
  simp only [z_x, z_n, z_stop, z_mem, z_ldi, z_lda, z_sto, z_s1, z_s2, z_sa, z_sv, z_br, z_bn, z_ob, z_ar, z_aq, z_al, z_rt, z_ra, z_at, z_st, z_K0i, z_K0v, zk_0, zk_1, zk_2, zk_3, z_lv, List.map_cons, List.map_nil, List.length_cons, List.length_nil, List.replicate, List.cons_append, List.nil_append, Nat.reduceAdd, Nat.reduceSub, Nat.reduceBEq, Nat.reduceEqDiff, Nat.reduceLT, Nat.reduceLeDiff, Nat.zero_add, Int.cast_ofNat_Int, Int.reduceAdd, Int.reduceNeg, Int.reduceToNat, Int.reduceLE, Int.zero_add, Int.toNat_zero, Int.add_zero, Int.add_neg_cancel_right, Fin.isValue, Int32.reduceOfInt, ↓reduceIte, Bool.false_eq_true, Bool.or_false, Bool.false_or, Bool.or_true, Bool.true_or, if_true, if_false, true_and, and_true, true_or, or_true, false_or, or_false, eq_self, and_self, z_up_i, Nat.add_left_cancel_iff, Nat.left_eq_add, Nat.add_eq_left, reduceCtorEq, Nat.add_one_ne_zero, z_tt, implies_true, zn_0, zn_1, zo_0, zo_1, dX0_lower_0, dX0_lower_1, dX0_lower_2, dX0_lower_5, dX0_lower_6, dX0_lower_9, dX0_lower_12, dX0_lower_13, dX0_lower_16, dX0_lower_17, dX0_lower_18, dX0_lower_21, zi_0, zi_1]
  refine z_ni C dX0_lower_2 lk_0_35 (c_placeOf a (by omega)) rfl (fun v M2 hv => ?_)
  obtain ⟨rfl, rfl⟩ := hv
  refine z_run C [] 3 ?_
  simp only [z_x, z_n, z_stop, z_mem, z_ldi, z_lda, z_sto, z_s1, z_s2, z_sa, z_sv, z_br, z_bn, z_ob, z_ar, z_aq, z_al, z_rt, z_ra, z_at, z_st, z_K0i, z_K0v, zk_0, zk_1, zk_2, zk_3, z_lv, List.map_cons, List.map_nil, List.length_cons, List.length_nil, List.replicate, List.cons_append, List.nil_append, Nat.reduceAdd, Nat.reduceSub, Nat.reduceBEq, Nat.reduceEqDiff, Nat.reduceLT, Nat.reduceLeDiff, Nat.zero_add, Int.cast_ofNat_Int, Int.reduceAdd, Int.reduceNeg, Int.reduceToNat, Int.reduceLE, Int.zero_add, Int.toNat_zero, Int.add_zero, Int.add_neg_cancel_right, Fin.isValue, Int32.reduceOfInt, ↓reduceIte, Bool.false_eq_true, Bool.or_false, Bool.false_or, Bool.or_true, Bool.true_or, if_true, if_false, true_and, and_true, true_or, or_true, false_or, or_false, eq_self, and_self, z_up_i, Nat.add_left_cancel_iff, Nat.left_eq_add, Nat.add_eq_left, reduceCtorEq, Nat.add_one_ne_zero, z_tt, implies_true, zn_0, zn_1, zo_0, zo_1, dX0_lower_0, dX0_lower_1, dX0_lower_2, dX0_lower_5, dX0_lower_6, dX0_lower_9, dX0_lower_12, dX0_lower_13, dX0_lower_16, dX0_lower_17, dX0_lower_18, dX0_lower_21, zi_0, zi_1]
  refine z_ni C dX0_lower_6 lk_0_38 (c_isRightOver a (by omega)) rfl (fun v M2 hv => ?_)
  obtain ⟨rfl, rfl⟩ := hv
  refine z_run C [] 10 ?_
  simp only [z_x, z_n, z_stop, z_mem, z_ldi, z_lda, z_sto, z_s1, z_s2, z_sa, z_sv, z_br, z_bn, z_ob, z_ar, z_aq, z_al, z_rt, z_ra, z_at, z_st, z_K0i, z_K0v, zk_0, zk_1, zk_2, zk_3, z_lv, List.map_cons, List.map_nil, List.length_cons, List.length_nil, List.replicate, List.cons_append, List.nil_append, Nat.reduceAdd, Nat.reduceSub, Nat.reduceBEq, Nat.reduceEqDiff, Nat.reduceLT, Nat.reduceLeDiff, Nat.zero_add, Int.cast_ofNat_Int, Int.reduceAdd, Int.reduceNeg, Int.reduceToNat, Int.reduceLE, Int.zero_add, Int.toNat_zero, Int.add_zero, Int.add_neg_cancel_right, Fin.isValue, Int32.reduceOfInt, ↓reduceIte, Bool.false_eq_true, Bool.or_false, Bool.false_or, Bool.or_true, Bool.true_or, if_true, if_false, true_and, and_true, true_or, or_true, false_or, or_false, eq_self, and_self, z_up_i, Nat.add_left_cancel_iff, Nat.left_eq_add, Nat.add_eq_left, reduceCtorEq, Nat.add_one_ne_zero, z_tt, implies_true, zn_0, zn_1, zo_0, zo_1, dX0_lower_0, dX0_lower_1, dX0_lower_2, dX0_lower_5, dX0_lower_6, dX0_lower_9, dX0_lower_12, dX0_lower_13, dX0_lower_16, dX0_lower_17, dX0_lower_18, dX0_lower_21, zi_0, zi_1]
  by_cases h1 : a % 10 = 1
  · simp only [h1, if_true]
    refine ⟨fun c => absurd c (by decide), fun _ => ?_⟩
    rw [show (0 : Int32) = nI 0 from rfl, nI_add]
    refine z_vi C dX0_lower_18 lk_0_42 (c_bobbinAt (a / 10 + 0) (by omega) h) rfl h.ob (fun v M2 hv => ?_)
    obtain ⟨rfl, rfl⟩ := hv
    refine z_run C [] 3 ?_
    simp only [z_x, z_n, z_stop, z_mem, z_ldi, z_lda, z_sto, z_s1, z_s2, z_sa, z_sv, z_br, z_bn, z_ob, z_ar, z_aq, z_al, z_rt, z_ra, z_at, z_st, z_K0i, z_K0v, zk_0, zk_1, zk_2, zk_3, z_lv, List.map_cons, List.map_nil, List.length_cons, List.length_nil, List.replicate, List.cons_append, List.nil_append, Nat.reduceAdd, Nat.reduceSub, Nat.reduceBEq, Nat.reduceEqDiff, Nat.reduceLT, Nat.reduceLeDiff, Nat.zero_add, Int.cast_ofNat_Int, Int.reduceAdd, Int.reduceNeg, Int.reduceToNat, Int.reduceLE, Int.zero_add, Int.toNat_zero, Int.add_zero, Int.add_neg_cancel_right, Fin.isValue, Int32.reduceOfInt, ↓reduceIte, Bool.false_eq_true, Bool.or_false, Bool.false_or, Bool.or_true, Bool.true_or, if_true, if_false, true_and, and_true, true_or, or_true, false_or, or_false, eq_self, and_self, z_up_i, Nat.add_left_cancel_iff, Nat.left_eq_add, Nat.add_eq_left, reduceCtorEq, Nat.add_one_ne_zero, z_tt, implies_true, zn_0, zn_1, zo_0, zo_1, dX0_lower_0, dX0_lower_1, dX0_lower_2, dX0_lower_5, dX0_lower_6, dX0_lower_9, dX0_lower_12, dX0_lower_13, dX0_lower_16, dX0_lower_17, dX0_lower_18, dX0_lower_21, zi_0, zi_1]
    exact ⟨by rw [if_pos h1], rfl⟩
  · simp only [h1, if_false]
    refine ⟨fun _ => ?_, fun c => absurd trivial c⟩
    rw [nI_1]
    refine z_vi C dX0_lower_18 lk_0_42 (c_bobbinAt (a / 10 + 1) (by omega) h) rfl h.ob (fun v M2 hv => ?_)
    obtain ⟨rfl, rfl⟩ := hv
    refine z_run C [] 3 ?_
    simp only [z_x, z_n, z_stop, z_mem, z_ldi, z_lda, z_sto, z_s1, z_s2, z_sa, z_sv, z_br, z_bn, z_ob, z_ar, z_aq, z_al, z_rt, z_ra, z_at, z_st, z_K0i, z_K0v, zk_0, zk_1, zk_2, zk_3, z_lv, List.map_cons, List.map_nil, List.length_cons, List.length_nil, List.replicate, List.cons_append, List.nil_append, Nat.reduceAdd, Nat.reduceSub, Nat.reduceBEq, Nat.reduceEqDiff, Nat.reduceLT, Nat.reduceLeDiff, Nat.zero_add, Int.cast_ofNat_Int, Int.reduceAdd, Int.reduceNeg, Int.reduceToNat, Int.reduceLE, Int.zero_add, Int.toNat_zero, Int.add_zero, Int.add_neg_cancel_right, Fin.isValue, Int32.reduceOfInt, ↓reduceIte, Bool.false_eq_true, Bool.or_false, Bool.false_or, Bool.or_true, Bool.true_or, if_true, if_false, true_and, and_true, true_or, or_true, false_or, or_false, eq_self, and_self, z_up_i, Nat.add_left_cancel_iff, Nat.left_eq_add, Nat.add_eq_left, reduceCtorEq, Nat.add_one_ne_zero, z_tt, implies_true, zn_0, zn_1, zo_0, zo_1, dX0_lower_0, dX0_lower_1, dX0_lower_2, dX0_lower_5, dX0_lower_6, dX0_lower_9, dX0_lower_12, dX0_lower_13, dX0_lower_16, dX0_lower_17, dX0_lower_18, dX0_lower_21, zi_0, zi_1]
    exact ⟨by rw [if_neg h1], rfl⟩
/-- how many lie as at first -/
def m_fix (p : Nat → Nat) (n : Nat) : Nat := ((List.range n).filter (fun j => p j == j)).length
theorem m_fix_le (p : Nat → Nat) (n : Nat) : m_fix p n ≤ n := by
  unfold m_fix
  exact Nat.le_trans (List.length_filter_le _ _) (by simp)
theorem m_fix_s (p : Nat → Nat) (n : Nat) : m_fix p (n + 1) = m_fix p n + if p n = n then 1 else 0 := by
  unfold m_fix
  rw [List.range_succ, List.filter_append, List.length_append]
  by_cases h : p n = n <;> simp [h]
set_option maxRecDepth 100000 in
set_option maxHeartbeats 4000000 in
theorem c_lyingAsAtFirst {l : Launch} {E : zE} {d : Nat} {M : zH} {b : Nat} {p q : Nat → Nat} (h : z_brd M b p q) : nX0_lyingAsAtFirst l E d [.ref b] M (z_i fun v M' => v = nI (m_fix p 8) ∧ M' = M) := by
  refine z_cn 0 fun P z C => ?_
  obtain ⟨f, g, h1, h2, h3, h4, h5⟩ := h
  have loop : ∀ (n i : Nat), i + n = 8 → P (M, z, 0, 0) 4 [some (.ref b), some (.int (nI (m_fix p i))), some (.int (nI i))] [] := by
    intro n
    induction n with
    | zero =>
      intro i hi
      refine z_run C [] 20 ?_
      simp only [z_x, z_n, z_stop, z_mem, z_ldi, z_lda, z_sto, z_s1, z_s2, z_sa, z_sv, z_br, z_bn, z_ob, z_ar, z_aq, z_al, z_rt, z_ra, z_at, z_st, z_K0i, z_K0v, zk_0, zk_1, zk_2, zk_3, z_lv, List.map_cons, List.map_nil, List.length_cons, List.length_nil, List.replicate, List.cons_append, List.nil_append, Nat.reduceAdd, Nat.reduceSub, Nat.reduceBEq, Nat.reduceEqDiff, Nat.reduceLT, Nat.reduceLeDiff, Nat.zero_add, Int.cast_ofNat_Int, Int.reduceAdd, Int.reduceNeg, Int.reduceToNat, Int.reduceLE, Int.zero_add, Int.toNat_zero, Int.add_zero, Int.add_neg_cancel_right, Fin.isValue, Int32.reduceOfInt, ↓reduceIte, Bool.false_eq_true, Bool.or_false, Bool.false_or, Bool.or_true, Bool.true_or, if_true, if_false, true_and, and_true, true_or, or_true, false_or, or_false, eq_self, and_self, z_up_i, Nat.add_left_cancel_iff, Nat.left_eq_add, Nat.add_eq_left, reduceCtorEq, Nat.add_one_ne_zero, z_tt, implies_true, zn_0, zn_1, zo_0, zo_1, dX0_lyingAsAtFirst_0, dX0_lyingAsAtFirst_1, dX0_lyingAsAtFirst_2, dX0_lyingAsAtFirst_3, dX0_lyingAsAtFirst_4, dX0_lyingAsAtFirst_5, dX0_lyingAsAtFirst_6, dX0_lyingAsAtFirst_9, dX0_lyingAsAtFirst_10, dX0_lyingAsAtFirst_13, dX0_lyingAsAtFirst_14, dX0_lyingAsAtFirst_15, dX0_lyingAsAtFirst_18, dX0_lyingAsAtFirst_19, dX0_lyingAsAtFirst_20, dX0_lyingAsAtFirst_21, dX0_lyingAsAtFirst_24, dX0_lyingAsAtFirst_25, dX0_lyingAsAtFirst_28, dX0_lyingAsAtFirst_29, dX0_lyingAsAtFirst_30, dX0_lyingAsAtFirst_31, dX0_lyingAsAtFirst_34, dX0_lyingAsAtFirst_37, dX0_lyingAsAtFirst_38, zf_0_9, zi_0, zi_1, h1, h2]
      refine ⟨fun _ => ⟨by rw [show i = 8 by omega], rfl⟩, fun c1 => absurd (nI_le (by omega) (by omega)) c1⟩
    | succ n ih =>
      intro i hi
      refine z_run C [4] 30 ?_
      simp only [z_x, z_n, z_stop, z_mem, z_ldi, z_lda, z_sto, z_s1, z_s2, z_sa, z_sv, z_br, z_bn, z_ob, z_ar, z_aq, z_al, z_rt, z_ra, z_at, z_st, z_K0i, z_K0v, zk_0, zk_1, zk_2, zk_3, z_lv, List.map_cons, List.map_nil, List.length_cons, List.length_nil, List.replicate, List.cons_append, List.nil_append, Nat.reduceAdd, Nat.reduceSub, Nat.reduceBEq, Nat.reduceEqDiff, Nat.reduceLT, Nat.reduceLeDiff, Nat.zero_add, Int.cast_ofNat_Int, Int.reduceAdd, Int.reduceNeg, Int.reduceToNat, Int.reduceLE, Int.zero_add, Int.toNat_zero, Int.add_zero, Int.add_neg_cancel_right, Fin.isValue, Int32.reduceOfInt, ↓reduceIte, Bool.false_eq_true, Bool.or_false, Bool.false_or, Bool.or_true, Bool.true_or, if_true, if_false, true_and, and_true, true_or, or_true, false_or, or_false, eq_self, and_self, z_up_i, Nat.add_left_cancel_iff, Nat.left_eq_add, Nat.add_eq_left, reduceCtorEq, Nat.add_one_ne_zero, z_tt, implies_true, zn_0, zn_1, zo_0, zo_1, dX0_lyingAsAtFirst_0, dX0_lyingAsAtFirst_1, dX0_lyingAsAtFirst_2, dX0_lyingAsAtFirst_3, dX0_lyingAsAtFirst_4, dX0_lyingAsAtFirst_5, dX0_lyingAsAtFirst_6, dX0_lyingAsAtFirst_9, dX0_lyingAsAtFirst_10, dX0_lyingAsAtFirst_13, dX0_lyingAsAtFirst_14, dX0_lyingAsAtFirst_15, dX0_lyingAsAtFirst_18, dX0_lyingAsAtFirst_19, dX0_lyingAsAtFirst_20, dX0_lyingAsAtFirst_21, dX0_lyingAsAtFirst_24, dX0_lyingAsAtFirst_25, dX0_lyingAsAtFirst_28, dX0_lyingAsAtFirst_29, dX0_lyingAsAtFirst_30, dX0_lyingAsAtFirst_31, dX0_lyingAsAtFirst_34, dX0_lyingAsAtFirst_37, dX0_lyingAsAtFirst_38, zf_0_9, zi_0, zi_1, h1, h2]
      refine ⟨fun c1 => absurd ((nI_leI (by omega) (by omega)).mp c1) (by omega), fun _ => ⟨vp_in_nI (by omega) (by omega), ?_⟩⟩
      have h6 := h4 i (by omega)
      have h7 := ih (i + 1) (by omega)
      rw [m_fix_s] at h7
      rw [nI_1, nI_clamp (by omega), h6.1, nI_eq (by omega) (by omega), nI_1, show (0 : Int32) = nI 0 from rfl, nI_add]
      refine ⟨fun c => ?_, fun c => ?_⟩
      · rw [if_pos c] at h7; exact h7
      · rw [if_neg c] at h7; exact h7
  refine z_run C [4] 5 ?_
  simp only [z_x, z_n, z_stop, z_mem, z_ldi, z_lda, z_sto, z_s1, z_s2, z_sa, z_sv, z_br, z_bn, z_ob, z_ar, z_aq, z_al, z_rt, z_ra, z_at, z_st, z_K0i, z_K0v, zk_0, zk_1, zk_2, zk_3, z_lv, List.map_cons, List.map_nil, List.length_cons, List.length_nil, List.replicate, List.cons_append, List.nil_append, Nat.reduceAdd, Nat.reduceSub, Nat.reduceBEq, Nat.reduceEqDiff, Nat.reduceLT, Nat.reduceLeDiff, Nat.zero_add, Int.cast_ofNat_Int, Int.reduceAdd, Int.reduceNeg, Int.reduceToNat, Int.reduceLE, Int.zero_add, Int.toNat_zero, Int.add_zero, Int.add_neg_cancel_right, Fin.isValue, Int32.reduceOfInt, ↓reduceIte, Bool.false_eq_true, Bool.or_false, Bool.false_or, Bool.or_true, Bool.true_or, if_true, if_false, true_and, and_true, true_or, or_true, false_or, or_false, eq_self, and_self, z_up_i, Nat.add_left_cancel_iff, Nat.left_eq_add, Nat.add_eq_left, reduceCtorEq, Nat.add_one_ne_zero, z_tt, implies_true, zn_0, zn_1, zo_0, zo_1, dX0_lyingAsAtFirst_0, dX0_lyingAsAtFirst_1, dX0_lyingAsAtFirst_2, dX0_lyingAsAtFirst_3, dX0_lyingAsAtFirst_4, dX0_lyingAsAtFirst_5, dX0_lyingAsAtFirst_6, dX0_lyingAsAtFirst_9, dX0_lyingAsAtFirst_10, dX0_lyingAsAtFirst_13, dX0_lyingAsAtFirst_14, dX0_lyingAsAtFirst_15, dX0_lyingAsAtFirst_18, dX0_lyingAsAtFirst_19, dX0_lyingAsAtFirst_20, dX0_lyingAsAtFirst_21, dX0_lyingAsAtFirst_24, dX0_lyingAsAtFirst_25, dX0_lyingAsAtFirst_28, dX0_lyingAsAtFirst_29, dX0_lyingAsAtFirst_30, dX0_lyingAsAtFirst_31, dX0_lyingAsAtFirst_34, dX0_lyingAsAtFirst_37, dX0_lyingAsAtFirst_38, zf_0_9, zi_0, zi_1]
  exact loop 8 0 (by omega)
set_option maxRecDepth 100000 in
set_option maxHeartbeats 4000000 in
theorem c_turnOnce {l : Launch} {E : zE} {d : Nat} {M : zH} {b : Nat} {p q : Nat → Nat} (h : z_brd M b p q) : nX0_turnOnce l E (d + 1) [.ref b] M (z_i fun v M' => z_fp M M' (fun a => a = b + 2) ∧ z_brd M' b p (fun j => p (q j)) ∧ ((v = 1 ∧ ∀ j, j < 8 → p (q j) = j) ∨ (v = 0 ∧ ¬ ∀ j, j < 8 → p (q j) = j))) := by
  refine z_cn 0 fun P z C => ?_
  have loop : ∀ (n i : Nat) (M1 : zH) (t : Nat), i + n = 8 → z_fp M M1 (fun a => a = b + 2) → z_brd M1 b p (fun j => if j < i then p (q j) else q j) → (t = 1 ∧ (∀ j, j < i → p (q j) = j) ∨ t = 0 ∧ ¬ ∀ j, j < i → p (q j) = j) → P (M1, z, 0, 0) 4 [some (.ref b), some (.int (nI t)), some (.int (nI i))] [] := by
    intro n
    induction n with
    | zero =>
      intro i M1 t hi hf hb ht
      obtain ⟨f, g, h1, h2, h3, h4, h5⟩ := hb
      have e8 : i = 8 := by omega
      subst e8
      have hbb : z_brd M1 b p (fun j => p (q j)) := ⟨f, g, h1, h2, h3, h4, fun j hj => by have := h5 j hj; simpa [hj] using this⟩
      refine z_run C [] 20 ?_
      simp only [z_x, z_n, z_stop, z_mem, z_ldi, z_lda, z_sto, z_s1, z_s2, z_sa, z_sv, z_br, z_bn, z_ob, z_ar, z_aq, z_al, z_rt, z_ra, z_at, z_st, z_K0i, z_K0v, zk_0, zk_1, zk_2, zk_3, z_lv, List.map_cons, List.map_nil, List.length_cons, List.length_nil, List.replicate, List.cons_append, List.nil_append, Nat.reduceAdd, Nat.reduceSub, Nat.reduceBEq, Nat.reduceEqDiff, Nat.reduceLT, Nat.reduceLeDiff, Nat.zero_add, Int.cast_ofNat_Int, Int.reduceAdd, Int.reduceNeg, Int.reduceToNat, Int.reduceLE, Int.zero_add, Int.toNat_zero, Int.add_zero, Int.add_neg_cancel_right, Fin.isValue, Int32.reduceOfInt, ↓reduceIte, Bool.false_eq_true, Bool.or_false, Bool.false_or, Bool.or_true, Bool.true_or, if_true, if_false, true_and, and_true, true_or, or_true, false_or, or_false, eq_self, and_self, z_up_i, Nat.add_left_cancel_iff, Nat.left_eq_add, Nat.add_eq_left, reduceCtorEq, Nat.add_one_ne_zero, z_tt, implies_true, zn_0, zn_1, zo_0, zo_1, dX0_turnOnce_0, dX0_turnOnce_1, dX0_turnOnce_2, dX0_turnOnce_3, dX0_turnOnce_4, dX0_turnOnce_5, dX0_turnOnce_6, dX0_turnOnce_9, dX0_turnOnce_10, dX0_turnOnce_13, dX0_turnOnce_14, dX0_turnOnce_17, dX0_turnOnce_18, dX0_turnOnce_19, dX0_turnOnce_20, dX0_turnOnce_23, dX0_turnOnce_24, dX0_turnOnce_25, dX0_turnOnce_28, dX0_turnOnce_29, dX0_turnOnce_30, dX0_turnOnce_33, dX0_turnOnce_34, dX0_turnOnce_37, dX0_turnOnce_38, dX0_turnOnce_39, dX0_turnOnce_40, dX0_turnOnce_43, dX0_turnOnce_44, dX0_turnOnce_47, dX0_turnOnce_48, dX0_turnOnce_49, dX0_turnOnce_52, dX0_turnOnce_55, dX0_turnOnce_56, zf_0_15, zi_0, zi_1, h1, h3]
      refine ⟨fun _ => ?_, fun c1 => absurd (nI_le (by omega) (by omega)) c1⟩
      rcases ht with ⟨rfl, ht⟩ | ⟨rfl, ht⟩
      · exact ⟨rfl, hf, hbb, Or.inl ⟨rfl, ht⟩⟩
      · exact ⟨rfl, hf, hbb, Or.inr ⟨rfl, ht⟩⟩
    | succ n ih =>
      intro i M1 t hi hf hb ht
      obtain ⟨f, g, h1, h2, h3, h4, h5⟩ := id hb
      have h6 := h5 i (by omega)
      simp only [Nat.lt_irrefl, if_false] at h6
      refine z_run C [4] 30 ?_
      simp only [z_x, z_n, z_stop, z_mem, z_ldi, z_lda, z_sto, z_s1, z_s2, z_sa, z_sv, z_br, z_bn, z_ob, z_ar, z_aq, z_al, z_rt, z_ra, z_at, z_st, z_K0i, z_K0v, zk_0, zk_1, zk_2, zk_3, z_lv, List.map_cons, List.map_nil, List.length_cons, List.length_nil, List.replicate, List.cons_append, List.nil_append, Nat.reduceAdd, Nat.reduceSub, Nat.reduceBEq, Nat.reduceEqDiff, Nat.reduceLT, Nat.reduceLeDiff, Nat.zero_add, Int.cast_ofNat_Int, Int.reduceAdd, Int.reduceNeg, Int.reduceToNat, Int.reduceLE, Int.zero_add, Int.toNat_zero, Int.add_zero, Int.add_neg_cancel_right, Fin.isValue, Int32.reduceOfInt, ↓reduceIte, Bool.false_eq_true, Bool.or_false, Bool.false_or, Bool.or_true, Bool.true_or, if_true, if_false, true_and, and_true, true_or, or_true, false_or, or_false, eq_self, and_self, z_up_i, Nat.add_left_cancel_iff, Nat.left_eq_add, Nat.add_eq_left, reduceCtorEq, Nat.add_one_ne_zero, z_tt, implies_true, zn_0, zn_1, zo_0, zo_1, dX0_turnOnce_0, dX0_turnOnce_1, dX0_turnOnce_2, dX0_turnOnce_3, dX0_turnOnce_4, dX0_turnOnce_5, dX0_turnOnce_6, dX0_turnOnce_9, dX0_turnOnce_10, dX0_turnOnce_13, dX0_turnOnce_14, dX0_turnOnce_17, dX0_turnOnce_18, dX0_turnOnce_19, dX0_turnOnce_20, dX0_turnOnce_23, dX0_turnOnce_24, dX0_turnOnce_25, dX0_turnOnce_28, dX0_turnOnce_29, dX0_turnOnce_30, dX0_turnOnce_33, dX0_turnOnce_34, dX0_turnOnce_37, dX0_turnOnce_38, dX0_turnOnce_39, dX0_turnOnce_40, dX0_turnOnce_43, dX0_turnOnce_44, dX0_turnOnce_47, dX0_turnOnce_48, dX0_turnOnce_49, dX0_turnOnce_52, dX0_turnOnce_55, dX0_turnOnce_56, zf_0_15, zi_0, zi_1, h1, h3]
      refine ⟨fun c1 => absurd ((nI_leI (by omega) (by omega)).mp c1) (by omega), fun _ => ⟨vp_in_nI (by omega) (by omega), ?_⟩⟩
      rw [nI_clamp (by omega), h6.1]
      refine z_vi C dX0_turnOnce_25 lk_0_42 (c_bobbinAt (q i) h6.2 hb) rfl hb.ob (fun v M2 hv => ?_)
      obtain ⟨rfl, rfl⟩ := hv
      refine z_run C [4] 30 ?_
      simp only [z_x, z_n, z_stop, z_mem, z_ldi, z_lda, z_sto, z_s1, z_s2, z_sa, z_sv, z_br, z_bn, z_ob, z_ar, z_aq, z_al, z_rt, z_ra, z_at, z_st, z_K0i, z_K0v, zk_0, zk_1, zk_2, zk_3, z_lv, List.map_cons, List.map_nil, List.length_cons, List.length_nil, List.replicate, List.cons_append, List.nil_append, Nat.reduceAdd, Nat.reduceSub, Nat.reduceBEq, Nat.reduceEqDiff, Nat.reduceLT, Nat.reduceLeDiff, Nat.zero_add, Int.cast_ofNat_Int, Int.reduceAdd, Int.reduceNeg, Int.reduceToNat, Int.reduceLE, Int.zero_add, Int.toNat_zero, Int.add_zero, Int.add_neg_cancel_right, Fin.isValue, Int32.reduceOfInt, ↓reduceIte, Bool.false_eq_true, Bool.or_false, Bool.false_or, Bool.or_true, Bool.true_or, if_true, if_false, true_and, and_true, true_or, or_true, false_or, or_false, eq_self, and_self, z_up_i, Nat.add_left_cancel_iff, Nat.left_eq_add, Nat.add_eq_left, reduceCtorEq, Nat.add_one_ne_zero, z_tt, implies_true, zn_0, zn_1, zo_0, zo_1, dX0_turnOnce_0, dX0_turnOnce_1, dX0_turnOnce_2, dX0_turnOnce_3, dX0_turnOnce_4, dX0_turnOnce_5, dX0_turnOnce_6, dX0_turnOnce_9, dX0_turnOnce_10, dX0_turnOnce_13, dX0_turnOnce_14, dX0_turnOnce_17, dX0_turnOnce_18, dX0_turnOnce_19, dX0_turnOnce_20, dX0_turnOnce_23, dX0_turnOnce_24, dX0_turnOnce_25, dX0_turnOnce_28, dX0_turnOnce_29, dX0_turnOnce_30, dX0_turnOnce_33, dX0_turnOnce_34, dX0_turnOnce_37, dX0_turnOnce_38, dX0_turnOnce_39, dX0_turnOnce_40, dX0_turnOnce_43, dX0_turnOnce_44, dX0_turnOnce_47, dX0_turnOnce_48, dX0_turnOnce_49, dX0_turnOnce_52, dX0_turnOnce_55, dX0_turnOnce_56, zf_0_15, zi_0, zi_1, h1, h3]
      refine ⟨vp_in_nI (by omega) (by omega), ?_⟩
      have hf2 : z_fp M (z_up M2 (b + 2) (.inl (0, 8, .inl (upd g i (nI (p (q i))))))) (fun a => a = b + 2) := fun a ha => by rw [z_up_n ha]; exact hf a ha
      have hb2 : z_brd (z_up M2 (b + 2) (.inl (0, 8, .inl (upd g i (nI (p (q i))))))) b p (fun j => if j < i + 1 then p (q j) else q j) := by
        refine ⟨f, _, by rw [z_up_n (by omega)]; exact h1, by rw [z_up_n (by omega)]; exact h2, z_up_s _ _ _, h4, fun j hj => ?_⟩
        by_cases hji : j = i
        · subst hji
          simp [upd]
          exact (h4 _ h6.2).2
        · have h8 := h5 j hj
          by_cases hlt : j < i
          · simp only [hlt, if_true] at h8
            simp [upd, hji, show j < i + 1 by omega]; exact h8
          · simp only [hlt, if_false] at h8
            simp [upd, hji, show ¬ j < i + 1 by omega]; exact h8
      rw [nI_1, nI_clamp (by omega)]
      have ee : upd g i (nI (p (q i))) i = nI (p (q i)) := pk_us
      rw [ee, nI_eq (by have := (h4 _ h6.2).2; omega) (by omega)]
      have go := fun t' ht' => ih (i + 1) _ t' (by omega) hf2 hb2 ht'
      rw [show (1 : Int32) = nI 1 from rfl, show (0 : Int32) = nI 0 from rfl]
      rcases ht with ⟨rfl, ht⟩ | ⟨rfl, ht⟩
      · refine ⟨fun c => absurd c (by decide), fun _ => ⟨vp_in_nI (by omega) (by omega), fun c => ?_, fun c => ?_⟩⟩
        · refine go 1 (Or.inl ⟨rfl, fun j hj => ?_⟩)
          by_cases hji : j = i
          · subst hji; exact c
          · exact ht j (by omega)
        · exact go 0 (Or.inr ⟨rfl, fun hh => c (hh i (by omega))⟩)
      · exact ⟨fun _ => go 0 (Or.inr ⟨rfl, fun hh => ht (fun j hj => hh j (by omega))⟩), fun c => absurd rfl c⟩
  refine z_run C [4] 5 ?_
  simp only [z_x, z_n, z_stop, z_mem, z_ldi, z_lda, z_sto, z_s1, z_s2, z_sa, z_sv, z_br, z_bn, z_ob, z_ar, z_aq, z_al, z_rt, z_ra, z_at, z_st, z_K0i, z_K0v, zk_0, zk_1, zk_2, zk_3, z_lv, List.map_cons, List.map_nil, List.length_cons, List.length_nil, List.replicate, List.cons_append, List.nil_append, Nat.reduceAdd, Nat.reduceSub, Nat.reduceBEq, Nat.reduceEqDiff, Nat.reduceLT, Nat.reduceLeDiff, Nat.zero_add, Int.cast_ofNat_Int, Int.reduceAdd, Int.reduceNeg, Int.reduceToNat, Int.reduceLE, Int.zero_add, Int.toNat_zero, Int.add_zero, Int.add_neg_cancel_right, Fin.isValue, Int32.reduceOfInt, ↓reduceIte, Bool.false_eq_true, Bool.or_false, Bool.false_or, Bool.or_true, Bool.true_or, if_true, if_false, true_and, and_true, true_or, or_true, false_or, or_false, eq_self, and_self, z_up_i, Nat.add_left_cancel_iff, Nat.left_eq_add, Nat.add_eq_left, reduceCtorEq, Nat.add_one_ne_zero, z_tt, implies_true, zn_0, zn_1, zo_0, zo_1, dX0_turnOnce_0, dX0_turnOnce_1, dX0_turnOnce_2, dX0_turnOnce_3, dX0_turnOnce_4, dX0_turnOnce_5, dX0_turnOnce_6, dX0_turnOnce_9, dX0_turnOnce_10, dX0_turnOnce_13, dX0_turnOnce_14, dX0_turnOnce_17, dX0_turnOnce_18, dX0_turnOnce_19, dX0_turnOnce_20, dX0_turnOnce_23, dX0_turnOnce_24, dX0_turnOnce_25, dX0_turnOnce_28, dX0_turnOnce_29, dX0_turnOnce_30, dX0_turnOnce_33, dX0_turnOnce_34, dX0_turnOnce_37, dX0_turnOnce_38, dX0_turnOnce_39, dX0_turnOnce_40, dX0_turnOnce_43, dX0_turnOnce_44, dX0_turnOnce_47, dX0_turnOnce_48, dX0_turnOnce_49, dX0_turnOnce_52, dX0_turnOnce_55, dX0_turnOnce_56, zf_0_15, zi_0, zi_1]
  refine loop 8 0 M 1 (by omega) z_fp.rf ?_ (Or.inl ⟨rfl, fun j hj => by omega⟩)
  simpa using h

/-! THE SHORTENER: the least first -/
def m_nx (ls J : List Nat) (from_ p k : Nat) : Prop := from_ ≤ k ∧ k ≤ ls.length ∧ (k < ls.length → k ∈ J ∧ m_pq ls k = p) ∧ ∀ j, from_ ≤ j → j < k → ¬ (j ∈ J ∧ m_pq ls j = p)
def m_sts (ls J : List Nat) (st : Nat → Int32) : Prop := ∀ j, j < ls.length → (j ∈ J → st j = 1) ∧ (j ∉ J → st j = 0)
set_option maxRecDepth 100000 in
set_option maxHeartbeats 4000000 in
theorem c_nextThatStays {l : Launch} {E : zE} {d : Nat} {M : zH} {b f p : Nat} {bef st lst nxt : Nat → Int32} {ls J : List Nat} (h : z_sho M b bef st lst nxt) (hr : z_row M (b + 7) 120 (ls.map nI)) (hls : z_lok ls) (hst : m_sts ls J st) (hf : f ≤ ls.length) (hp : p ≤ 8) : nX3_nextThatStays l E (d + 1) [.ref (b + 47), .ref (b + 7), .int (nI f), .int (nI p)] M (z_i fun v M' => (∃ k, v = nI k ∧ m_nx ls J f p k) ∧ M' = M) := by
  refine z_cn 3 fun P z C => ?_
  have hlen := hls.1
  obtain ⟨a1, a2, a3, a4, a5⟩ := id h
  have loop : ∀ (n i : Nat), i + n = ls.length → f ≤ i → (∀ j, f ≤ j → j < i → ¬ (j ∈ J ∧ m_pq ls j = p)) → P (M, z, 0, 0) 21 [some (.ref (b + 47)), some (.ref (b + 7)), some (.int (nI f)), some (.int (nI p)), some (.int (nI ls.length)), some (.int (nI i))] [] := by
    intro n
    induction n with
    | zero =>
      intro i hi hfi hno
      refine z_run C [] 8 ?_
      simp only [z_x, z_n, z_stop, z_mem, z_ldi, z_lda, z_sto, z_s1, z_s2, z_sa, z_sv, z_br, z_bn, z_ob, z_ar, z_aq, z_al, z_rt, z_ra, z_at, z_st, z_K0i, z_K0v, zk_0, zk_1, zk_2, zk_3, z_lv, List.map_cons, List.map_nil, List.length_cons, List.length_nil, List.replicate, List.cons_append, List.nil_append, Nat.reduceAdd, Nat.reduceSub, Nat.reduceBEq, Nat.reduceEqDiff, Nat.reduceLT, Nat.reduceLeDiff, Nat.zero_add, Int.cast_ofNat_Int, Int.reduceAdd, Int.reduceNeg, Int.reduceToNat, Int.reduceLE, Int.zero_add, Int.toNat_zero, Int.add_zero, Int.add_neg_cancel_right, Fin.isValue, Int32.reduceOfInt, ↓reduceIte, Bool.false_eq_true, Bool.or_false, Bool.false_or, Bool.or_true, Bool.true_or, if_true, if_false, true_and, and_true, true_or, or_true, false_or, or_false, eq_self, and_self, z_up_i, Nat.add_left_cancel_iff, Nat.left_eq_add, Nat.add_eq_left, reduceCtorEq, Nat.add_one_ne_zero, z_tt, implies_true, zn_0, zn_1, zo_0, zo_1, dX3_nextThatStays_0, dX3_nextThatStays_1, dX3_nextThatStays_4, dX3_nextThatStays_5, dX3_nextThatStays_8, dX3_nextThatStays_9, dX3_nextThatStays_12, dX3_nextThatStays_14, dX3_nextThatStays_15, dX3_nextThatStays_16, dX3_nextThatStays_19, dX3_nextThatStays_21, dX3_nextThatStays_23, dX3_nextThatStays_25, dX3_nextThatStays_28, dX3_nextThatStays_29, dX3_nextThatStays_32, dX3_nextThatStays_34, dX3_nextThatStays_35, dX3_nextThatStays_38, dX3_nextThatStays_39, dX3_nextThatStays_41, dX3_nextThatStays_44, dX3_nextThatStays_47, dX3_nextThatStays_48, dX3_nextThatStays_49, dX3_nextThatStays_50, dX3_nextThatStays_53, dX3_nextThatStays_55, dX3_nextThatStays_56, dX3_nextThatStays_59, dX3_nextThatStays_62, dX3_nextThatStays_64, zf_3_15, zi_0, zi_1]
      exact ⟨fun _ => ⟨⟨ls.length, rfl, by omega, by omega, fun c => by omega, fun j h1 h2 => hno j h1 (by omega)⟩, rfl⟩, fun c1 => absurd (nI_le (by omega) (by omega)) c1⟩
    | succ n ih =>
      intro i hi hfi hno
      have go : ¬ (i ∈ J ∧ m_pq ls i = p) → P (M, z, 0, 0) 21 [some (.ref (b + 47)), some (.ref (b + 7)), some (.int (nI f)), some (.int (nI p)), some (.int (nI ls.length)), some (.int (nI i + 1))] [] := by
        intro hni
        rw [nI_1]
        refine ih (i + 1) (by omega) (by omega) (fun j h1 h2 => ?_)
        by_cases e : j = i
        · subst e; exact hni
        · exact hno j h1 (by omega)
      have hpe : ls.getD i 0 / 10 + 1 = m_pq ls i := rfl
      have hsm := hls.sm i
      have hpq := hls.pq i
      refine z_run C [21] 14 ?_
      simp only [z_x, z_n, z_stop, z_mem, z_ldi, z_lda, z_sto, z_s1, z_s2, z_sa, z_sv, z_br, z_bn, z_ob, z_ar, z_aq, z_al, z_rt, z_ra, z_at, z_st, z_K0i, z_K0v, zk_0, zk_1, zk_2, zk_3, z_lv, List.map_cons, List.map_nil, List.length_cons, List.length_nil, List.replicate, List.cons_append, List.nil_append, Nat.reduceAdd, Nat.reduceSub, Nat.reduceBEq, Nat.reduceEqDiff, Nat.reduceLT, Nat.reduceLeDiff, Nat.zero_add, Int.cast_ofNat_Int, Int.reduceAdd, Int.reduceNeg, Int.reduceToNat, Int.reduceLE, Int.zero_add, Int.toNat_zero, Int.add_zero, Int.add_neg_cancel_right, Fin.isValue, Int32.reduceOfInt, ↓reduceIte, Bool.false_eq_true, Bool.or_false, Bool.false_or, Bool.or_true, Bool.true_or, if_true, if_false, true_and, and_true, true_or, or_true, false_or, or_false, eq_self, and_self, z_up_i, Nat.add_left_cancel_iff, Nat.left_eq_add, Nat.add_eq_left, reduceCtorEq, Nat.add_one_ne_zero, z_tt, implies_true, zn_0, zn_1, zo_0, zo_1, dX3_nextThatStays_0, dX3_nextThatStays_1, dX3_nextThatStays_4, dX3_nextThatStays_5, dX3_nextThatStays_8, dX3_nextThatStays_9, dX3_nextThatStays_12, dX3_nextThatStays_14, dX3_nextThatStays_15, dX3_nextThatStays_16, dX3_nextThatStays_19, dX3_nextThatStays_21, dX3_nextThatStays_23, dX3_nextThatStays_25, dX3_nextThatStays_28, dX3_nextThatStays_29, dX3_nextThatStays_32, dX3_nextThatStays_34, dX3_nextThatStays_35, dX3_nextThatStays_38, dX3_nextThatStays_39, dX3_nextThatStays_41, dX3_nextThatStays_44, dX3_nextThatStays_47, dX3_nextThatStays_48, dX3_nextThatStays_49, dX3_nextThatStays_50, dX3_nextThatStays_53, dX3_nextThatStays_55, dX3_nextThatStays_56, dX3_nextThatStays_59, dX3_nextThatStays_62, dX3_nextThatStays_64, zf_3_15, zi_0, zi_1, a1, a3]
      refine ⟨fun c1 => absurd ((nI_leI (by omega) (by omega)).mp c1) (by omega), fun _ => ⟨vp_in_nI (by omega) (by omega), ?_⟩⟩
      rw [nI_clamp (by omega)]
      obtain ⟨s1, s2⟩ := hst i (by omega)
      refine ⟨fun c => go (fun hh => ?_), fun c => ?_⟩
      · rw [s1 hh.1] at c; exact absurd c (by decide)
      · have hiJ : i ∈ J := Classical.byContradiction (fun hh => c (s2 hh))
        refine z_vi C dX3_nextThatStays_41 lk_3_51 (c_get (nI i) hr) rfl hr.ob (fun v M2 hv => ?_)
        obtain ⟨rfl, rfl⟩ := hv
        rw [z_getN (by omega) (by omega)]
        refine z_ni C dX3_nextThatStays_44 lk_3_55 (c_placeOf _ (by omega)) rfl (fun v M2 hv => ?_)
        obtain ⟨rfl, rfl⟩ := hv
        refine z_run C [21] 14 ?_
        simp only [z_x, z_n, z_stop, z_mem, z_ldi, z_lda, z_sto, z_s1, z_s2, z_sa, z_sv, z_br, z_bn, z_ob, z_ar, z_aq, z_al, z_rt, z_ra, z_at, z_st, z_K0i, z_K0v, zk_0, zk_1, zk_2, zk_3, z_lv, List.map_cons, List.map_nil, List.length_cons, List.length_nil, List.replicate, List.cons_append, List.nil_append, Nat.reduceAdd, Nat.reduceSub, Nat.reduceBEq, Nat.reduceEqDiff, Nat.reduceLT, Nat.reduceLeDiff, Nat.zero_add, Int.cast_ofNat_Int, Int.reduceAdd, Int.reduceNeg, Int.reduceToNat, Int.reduceLE, Int.zero_add, Int.toNat_zero, Int.add_zero, Int.add_neg_cancel_right, Fin.isValue, Int32.reduceOfInt, ↓reduceIte, Bool.false_eq_true, Bool.or_false, Bool.false_or, Bool.or_true, Bool.true_or, if_true, if_false, true_and, and_true, true_or, or_true, false_or, or_false, eq_self, and_self, z_up_i, Nat.add_left_cancel_iff, Nat.left_eq_add, Nat.add_eq_left, reduceCtorEq, Nat.add_one_ne_zero, z_tt, implies_true, zn_0, zn_1, zo_0, zo_1, dX3_nextThatStays_0, dX3_nextThatStays_1, dX3_nextThatStays_4, dX3_nextThatStays_5, dX3_nextThatStays_8, dX3_nextThatStays_9, dX3_nextThatStays_12, dX3_nextThatStays_14, dX3_nextThatStays_15, dX3_nextThatStays_16, dX3_nextThatStays_19, dX3_nextThatStays_21, dX3_nextThatStays_23, dX3_nextThatStays_25, dX3_nextThatStays_28, dX3_nextThatStays_29, dX3_nextThatStays_32, dX3_nextThatStays_34, dX3_nextThatStays_35, dX3_nextThatStays_38, dX3_nextThatStays_39, dX3_nextThatStays_41, dX3_nextThatStays_44, dX3_nextThatStays_47, dX3_nextThatStays_48, dX3_nextThatStays_49, dX3_nextThatStays_50, dX3_nextThatStays_53, dX3_nextThatStays_55, dX3_nextThatStays_56, dX3_nextThatStays_59, dX3_nextThatStays_62, dX3_nextThatStays_64, zf_3_15, zi_0, zi_1]
        rw [show nI (ls.getD i 0 / 10) + 1 = nI (m_pq ls i) from by rw [nI_1, hpe], nI_eq (by omega) (by omega)]
        refine ⟨fun c2 => ⟨⟨i, rfl, hfi, by omega, fun _ => ⟨hiJ, c2⟩, hno⟩, rfl⟩, fun c2 => go (fun hh => c2 hh.2)⟩
  refine z_run C [] 2 ?_
  simp only [z_x, z_n, z_stop, z_mem, z_ldi, z_lda, z_sto, z_s1, z_s2, z_sa, z_sv, z_br, z_bn, z_ob, z_ar, z_aq, z_al, z_rt, z_ra, z_at, z_st, z_K0i, z_K0v, zk_0, zk_1, zk_2, zk_3, z_lv, List.map_cons, List.map_nil, List.length_cons, List.length_nil, List.replicate, List.cons_append, List.nil_append, Nat.reduceAdd, Nat.reduceSub, Nat.reduceBEq, Nat.reduceEqDiff, Nat.reduceLT, Nat.reduceLeDiff, Nat.zero_add, Int.cast_ofNat_Int, Int.reduceAdd, Int.reduceNeg, Int.reduceToNat, Int.reduceLE, Int.zero_add, Int.toNat_zero, Int.add_zero, Int.add_neg_cancel_right, Fin.isValue, Int32.reduceOfInt, ↓reduceIte, Bool.false_eq_true, Bool.or_false, Bool.false_or, Bool.or_true, Bool.true_or, if_true, if_false, true_and, and_true, true_or, or_true, false_or, or_false, eq_self, and_self, z_up_i, Nat.add_left_cancel_iff, Nat.left_eq_add, Nat.add_eq_left, reduceCtorEq, Nat.add_one_ne_zero, z_tt, implies_true, zn_0, zn_1, zo_0, zo_1, dX3_nextThatStays_0, dX3_nextThatStays_1, dX3_nextThatStays_4, dX3_nextThatStays_5, dX3_nextThatStays_8, dX3_nextThatStays_9, dX3_nextThatStays_12, dX3_nextThatStays_14, dX3_nextThatStays_15, dX3_nextThatStays_16, dX3_nextThatStays_19, dX3_nextThatStays_21, dX3_nextThatStays_23, dX3_nextThatStays_25, dX3_nextThatStays_28, dX3_nextThatStays_29, dX3_nextThatStays_32, dX3_nextThatStays_34, dX3_nextThatStays_35, dX3_nextThatStays_38, dX3_nextThatStays_39, dX3_nextThatStays_41, dX3_nextThatStays_44, dX3_nextThatStays_47, dX3_nextThatStays_48, dX3_nextThatStays_49, dX3_nextThatStays_50, dX3_nextThatStays_53, dX3_nextThatStays_55, dX3_nextThatStays_56, dX3_nextThatStays_59, dX3_nextThatStays_62, dX3_nextThatStays_64, zf_3_15, zi_0, zi_1]
  refine z_vi C dX3_nextThatStays_1 lk_3_39 (c_size hr) rfl hr.ob (fun v M3 hv => ?_)
  obtain ⟨rfl, rfl⟩ := hv
  simp only [List.length_map]
  refine z_run C [] 4 ?_
  simp only [z_x, z_n, z_stop, z_mem, z_ldi, z_lda, z_sto, z_s1, z_s2, z_sa, z_sv, z_br, z_bn, z_ob, z_ar, z_aq, z_al, z_rt, z_ra, z_at, z_st, z_K0i, z_K0v, zk_0, zk_1, zk_2, zk_3, z_lv, List.map_cons, List.map_nil, List.length_cons, List.length_nil, List.replicate, List.cons_append, List.nil_append, Nat.reduceAdd, Nat.reduceSub, Nat.reduceBEq, Nat.reduceEqDiff, Nat.reduceLT, Nat.reduceLeDiff, Nat.zero_add, Int.cast_ofNat_Int, Int.reduceAdd, Int.reduceNeg, Int.reduceToNat, Int.reduceLE, Int.zero_add, Int.toNat_zero, Int.add_zero, Int.add_neg_cancel_right, Fin.isValue, Int32.reduceOfInt, ↓reduceIte, Bool.false_eq_true, Bool.or_false, Bool.false_or, Bool.or_true, Bool.true_or, if_true, if_false, true_and, and_true, true_or, or_true, false_or, or_false, eq_self, and_self, z_up_i, Nat.add_left_cancel_iff, Nat.left_eq_add, Nat.add_eq_left, reduceCtorEq, Nat.add_one_ne_zero, z_tt, implies_true, zn_0, zn_1, zo_0, zo_1, dX3_nextThatStays_0, dX3_nextThatStays_1, dX3_nextThatStays_4, dX3_nextThatStays_5, dX3_nextThatStays_8, dX3_nextThatStays_9, dX3_nextThatStays_12, dX3_nextThatStays_14, dX3_nextThatStays_15, dX3_nextThatStays_16, dX3_nextThatStays_19, dX3_nextThatStays_21, dX3_nextThatStays_23, dX3_nextThatStays_25, dX3_nextThatStays_28, dX3_nextThatStays_29, dX3_nextThatStays_32, dX3_nextThatStays_34, dX3_nextThatStays_35, dX3_nextThatStays_38, dX3_nextThatStays_39, dX3_nextThatStays_41, dX3_nextThatStays_44, dX3_nextThatStays_47, dX3_nextThatStays_48, dX3_nextThatStays_49, dX3_nextThatStays_50, dX3_nextThatStays_53, dX3_nextThatStays_55, dX3_nextThatStays_56, dX3_nextThatStays_59, dX3_nextThatStays_62, dX3_nextThatStays_64, zf_3_15, zi_0, zi_1, a1, a3]
  refine z_mn C dX3_nextThatStays_9 lk_3_45 ?_
  rw [show (if nI 120 < nI ls.length then nI 120 else nI ls.length) = nI ls.length from by rw [if_neg (fun c => absurd ((nI_ltI (by omega) (by omega)).mp c) (by omega))]]
  refine z_run C [] 3 ?_
  simp only [z_x, z_n, z_stop, z_mem, z_ldi, z_lda, z_sto, z_s1, z_s2, z_sa, z_sv, z_br, z_bn, z_ob, z_ar, z_aq, z_al, z_rt, z_ra, z_at, z_st, z_K0i, z_K0v, zk_0, zk_1, zk_2, zk_3, z_lv, List.map_cons, List.map_nil, List.length_cons, List.length_nil, List.replicate, List.cons_append, List.nil_append, Nat.reduceAdd, Nat.reduceSub, Nat.reduceBEq, Nat.reduceEqDiff, Nat.reduceLT, Nat.reduceLeDiff, Nat.zero_add, Int.cast_ofNat_Int, Int.reduceAdd, Int.reduceNeg, Int.reduceToNat, Int.reduceLE, Int.zero_add, Int.toNat_zero, Int.add_zero, Int.add_neg_cancel_right, Fin.isValue, Int32.reduceOfInt, ↓reduceIte, Bool.false_eq_true, Bool.or_false, Bool.false_or, Bool.or_true, Bool.true_or, if_true, if_false, true_and, and_true, true_or, or_true, false_or, or_false, eq_self, and_self, z_up_i, Nat.add_left_cancel_iff, Nat.left_eq_add, Nat.add_eq_left, reduceCtorEq, Nat.add_one_ne_zero, z_tt, implies_true, zn_0, zn_1, zo_0, zo_1, dX3_nextThatStays_0, dX3_nextThatStays_1, dX3_nextThatStays_4, dX3_nextThatStays_5, dX3_nextThatStays_8, dX3_nextThatStays_9, dX3_nextThatStays_12, dX3_nextThatStays_14, dX3_nextThatStays_15, dX3_nextThatStays_16, dX3_nextThatStays_19, dX3_nextThatStays_21, dX3_nextThatStays_23, dX3_nextThatStays_25, dX3_nextThatStays_28, dX3_nextThatStays_29, dX3_nextThatStays_32, dX3_nextThatStays_34, dX3_nextThatStays_35, dX3_nextThatStays_38, dX3_nextThatStays_39, dX3_nextThatStays_41, dX3_nextThatStays_44, dX3_nextThatStays_47, dX3_nextThatStays_48, dX3_nextThatStays_49, dX3_nextThatStays_50, dX3_nextThatStays_53, dX3_nextThatStays_55, dX3_nextThatStays_56, dX3_nextThatStays_59, dX3_nextThatStays_62, dX3_nextThatStays_64, zf_3_15, zi_0, zi_1]
  refine z_mx C dX3_nextThatStays_16 lk_3_75 ?_
  rw [show (if nI f < 0 then (0 : Int32) else nI f) = nI f from by rw [if_neg (nI_pos (by omega))]]
  refine z_run C [] 1 ?_
  simp only [z_x, z_n, z_stop, z_mem, z_ldi, z_lda, z_sto, z_s1, z_s2, z_sa, z_sv, z_br, z_bn, z_ob, z_ar, z_aq, z_al, z_rt, z_ra, z_at, z_st, z_K0i, z_K0v, zk_0, zk_1, zk_2, zk_3, z_lv, List.map_cons, List.map_nil, List.length_cons, List.length_nil, List.replicate, List.cons_append, List.nil_append, Nat.reduceAdd, Nat.reduceSub, Nat.reduceBEq, Nat.reduceEqDiff, Nat.reduceLT, Nat.reduceLeDiff, Nat.zero_add, Int.cast_ofNat_Int, Int.reduceAdd, Int.reduceNeg, Int.reduceToNat, Int.reduceLE, Int.zero_add, Int.toNat_zero, Int.add_zero, Int.add_neg_cancel_right, Fin.isValue, Int32.reduceOfInt, ↓reduceIte, Bool.false_eq_true, Bool.or_false, Bool.false_or, Bool.or_true, Bool.true_or, if_true, if_false, true_and, and_true, true_or, or_true, false_or, or_false, eq_self, and_self, z_up_i, Nat.add_left_cancel_iff, Nat.left_eq_add, Nat.add_eq_left, reduceCtorEq, Nat.add_one_ne_zero, z_tt, implies_true, zn_0, zn_1, zo_0, zo_1, dX3_nextThatStays_0, dX3_nextThatStays_1, dX3_nextThatStays_4, dX3_nextThatStays_5, dX3_nextThatStays_8, dX3_nextThatStays_9, dX3_nextThatStays_12, dX3_nextThatStays_14, dX3_nextThatStays_15, dX3_nextThatStays_16, dX3_nextThatStays_19, dX3_nextThatStays_21, dX3_nextThatStays_23, dX3_nextThatStays_25, dX3_nextThatStays_28, dX3_nextThatStays_29, dX3_nextThatStays_32, dX3_nextThatStays_34, dX3_nextThatStays_35, dX3_nextThatStays_38, dX3_nextThatStays_39, dX3_nextThatStays_41, dX3_nextThatStays_44, dX3_nextThatStays_47, dX3_nextThatStays_48, dX3_nextThatStays_49, dX3_nextThatStays_50, dX3_nextThatStays_53, dX3_nextThatStays_55, dX3_nextThatStays_56, dX3_nextThatStays_59, dX3_nextThatStays_62, dX3_nextThatStays_64, zf_3_15, zi_0, zi_1]
  exact loop (ls.length - f) f (by omega) (by omega) (fun j h1 h2 => by omega)
def m_gd (n : Nat) (ptr : Nat → Nat) (p : Nat) : Prop := ptr p < n ∧ ptr p < ptr (p - 1) ∧ ptr p < ptr (p + 1)
set_option maxRecDepth 100000 in
set_option maxHeartbeats 4000000 in
theorem c_leastPlace {l : Launch} {E : zE} {d : Nat} {M : zH} {b n : Nat} {bef st lst nxt : Nat → Int32} {ptr : Nat → Nat} (h : z_sho M b bef st lst nxt) (hn : n ≤ 120) (hptr : ∀ p, p ≤ 8 → nxt p = nI (ptr p) ∧ ptr p ≤ n) : nX3_leastPlaceThatCanCome l E d [.ref (b + 47), .int (nI n)] M (z_i fun v M' => ((∃ p, 1 ≤ p ∧ p ≤ 7 ∧ v = nI p ∧ m_gd n ptr p ∧ ∀ q, 1 ≤ q → q < p → ¬ m_gd n ptr q) ∨ (v = -6 ∧ ∀ q, 1 ≤ q → q ≤ 7 → ¬ m_gd n ptr q)) ∧ M' = M) := by
  refine z_cn 3 fun P z C => ?_
  obtain ⟨a1, a2, a3, a4, a5⟩ := id h
  have loop : ∀ (m p : Nat), p + m = 8 → 1 ≤ p → (∀ q, 1 ≤ q → q < p → ¬ m_gd n ptr q) → P (M, z, 0, 0) 2 [some (.ref (b + 47)), some (.int (nI n)), some (.int (nI p))] [] := by
    intro m
    induction m with
    | zero =>
      intro p hp hp1 hno
      refine z_run C [] 6 ?_
      simp only [z_x, z_n, z_stop, z_mem, z_ldi, z_lda, z_sto, z_s1, z_s2, z_sa, z_sv, z_br, z_bn, z_ob, z_ar, z_aq, z_al, z_rt, z_ra, z_at, z_st, z_K0i, z_K0v, zk_0, zk_1, zk_2, zk_3, z_lv, List.map_cons, List.map_nil, List.length_cons, List.length_nil, List.replicate, List.cons_append, List.nil_append, Nat.reduceAdd, Nat.reduceSub, Nat.reduceBEq, Nat.reduceEqDiff, Nat.reduceLT, Nat.reduceLeDiff, Nat.zero_add, Int.cast_ofNat_Int, Int.reduceAdd, Int.reduceNeg, Int.reduceToNat, Int.reduceLE, Int.zero_add, Int.toNat_zero, Int.add_zero, Int.add_neg_cancel_right, Fin.isValue, Int32.reduceOfInt, ↓reduceIte, Bool.false_eq_true, Bool.or_false, Bool.false_or, Bool.or_true, Bool.true_or, if_true, if_false, true_and, and_true, true_or, or_true, false_or, or_false, eq_self, and_self, z_up_i, Nat.add_left_cancel_iff, Nat.left_eq_add, Nat.add_eq_left, reduceCtorEq, Nat.add_one_ne_zero, z_tt, implies_true, zn_0, zn_1, zo_0, zo_1, dX3_leastPlaceThatCanCome_0, dX3_leastPlaceThatCanCome_1, dX3_leastPlaceThatCanCome_2, dX3_leastPlaceThatCanCome_3, dX3_leastPlaceThatCanCome_5, dX3_leastPlaceThatCanCome_8, dX3_leastPlaceThatCanCome_9, dX3_leastPlaceThatCanCome_12, dX3_leastPlaceThatCanCome_13, dX3_leastPlaceThatCanCome_14, dX3_leastPlaceThatCanCome_15, dX3_leastPlaceThatCanCome_18, dX3_leastPlaceThatCanCome_19, dX3_leastPlaceThatCanCome_22, dX3_leastPlaceThatCanCome_23, dX3_leastPlaceThatCanCome_24, dX3_leastPlaceThatCanCome_25, dX3_leastPlaceThatCanCome_28, dX3_leastPlaceThatCanCome_29, dX3_leastPlaceThatCanCome_30, dX3_leastPlaceThatCanCome_31, dX3_leastPlaceThatCanCome_32, dX3_leastPlaceThatCanCome_35, dX3_leastPlaceThatCanCome_36, dX3_leastPlaceThatCanCome_39, dX3_leastPlaceThatCanCome_40, dX3_leastPlaceThatCanCome_41, dX3_leastPlaceThatCanCome_42, dX3_leastPlaceThatCanCome_45, dX3_leastPlaceThatCanCome_46, dX3_leastPlaceThatCanCome_47, dX3_leastPlaceThatCanCome_48, dX3_leastPlaceThatCanCome_49, dX3_leastPlaceThatCanCome_52, dX3_leastPlaceThatCanCome_53, dX3_leastPlaceThatCanCome_54, dX3_leastPlaceThatCanCome_57, dX3_leastPlaceThatCanCome_60, dX3_leastPlaceThatCanCome_62, zb_7, zb_m6, zf_3_22, zi_1]
      refine ⟨fun _ => ⟨Or.inr ⟨rfl, fun q h1 h2 => hno q h1 (by omega)⟩, rfl⟩, fun c1 => absurd (nI_lt (a := 7) (by omega) (by omega)) c1⟩
    | succ m ih =>
      intro p hp hp1 hno
      have go : ¬ m_gd n ptr p → P (M, z, 0, 0) 2 [some (.ref (b + 47)), some (.int (nI n)), some (.int (nI (p + 1)))] [] := by
        intro hni
        refine ih (p + 1) (by omega) (by omega) (fun j h1 h2 => ?_)
        by_cases e : j = p
        · subst e; exact hni
        · exact hno j h1 (by omega)
      obtain ⟨e0, l0⟩ := hptr p (by omega)
      obtain ⟨e1, l1⟩ := hptr (p - 1) (by omega)
      obtain ⟨e2, l2⟩ := hptr (p + 1) (by omega)
      have v0 : vp_in (nI p) 9 := vp_in_nI (by omega) (by omega)
      have v1 : vp_in (nI (p - 1)) 9 := vp_in_nI (by omega) (by omega)
      have v2 : vp_in (nI (p + 1)) 9 := vp_in_nI (by omega) (by omega)
      refine z_run C [2] 40 ?_
      simp only [z_x, z_n, z_stop, z_mem, z_ldi, z_lda, z_sto, z_s1, z_s2, z_sa, z_sv, z_br, z_bn, z_ob, z_ar, z_aq, z_al, z_rt, z_ra, z_at, z_st, z_K0i, z_K0v, zk_0, zk_1, zk_2, zk_3, z_lv, List.map_cons, List.map_nil, List.length_cons, List.length_nil, List.replicate, List.cons_append, List.nil_append, Nat.reduceAdd, Nat.reduceSub, Nat.reduceBEq, Nat.reduceEqDiff, Nat.reduceLT, Nat.reduceLeDiff, Nat.zero_add, Int.cast_ofNat_Int, Int.reduceAdd, Int.reduceNeg, Int.reduceToNat, Int.reduceLE, Int.zero_add, Int.toNat_zero, Int.add_zero, Int.add_neg_cancel_right, Fin.isValue, Int32.reduceOfInt, ↓reduceIte, Bool.false_eq_true, Bool.or_false, Bool.false_or, Bool.or_true, Bool.true_or, if_true, if_false, true_and, and_true, true_or, or_true, false_or, or_false, eq_self, and_self, z_up_i, Nat.add_left_cancel_iff, Nat.left_eq_add, Nat.add_eq_left, reduceCtorEq, Nat.add_one_ne_zero, z_tt, implies_true, zn_0, zn_1, zo_0, zo_1, dX3_leastPlaceThatCanCome_0, dX3_leastPlaceThatCanCome_1, dX3_leastPlaceThatCanCome_2, dX3_leastPlaceThatCanCome_3, dX3_leastPlaceThatCanCome_5, dX3_leastPlaceThatCanCome_8, dX3_leastPlaceThatCanCome_9, dX3_leastPlaceThatCanCome_12, dX3_leastPlaceThatCanCome_13, dX3_leastPlaceThatCanCome_14, dX3_leastPlaceThatCanCome_15, dX3_leastPlaceThatCanCome_18, dX3_leastPlaceThatCanCome_19, dX3_leastPlaceThatCanCome_22, dX3_leastPlaceThatCanCome_23, dX3_leastPlaceThatCanCome_24, dX3_leastPlaceThatCanCome_25, dX3_leastPlaceThatCanCome_28, dX3_leastPlaceThatCanCome_29, dX3_leastPlaceThatCanCome_30, dX3_leastPlaceThatCanCome_31, dX3_leastPlaceThatCanCome_32, dX3_leastPlaceThatCanCome_35, dX3_leastPlaceThatCanCome_36, dX3_leastPlaceThatCanCome_39, dX3_leastPlaceThatCanCome_40, dX3_leastPlaceThatCanCome_41, dX3_leastPlaceThatCanCome_42, dX3_leastPlaceThatCanCome_45, dX3_leastPlaceThatCanCome_46, dX3_leastPlaceThatCanCome_47, dX3_leastPlaceThatCanCome_48, dX3_leastPlaceThatCanCome_49, dX3_leastPlaceThatCanCome_52, dX3_leastPlaceThatCanCome_53, dX3_leastPlaceThatCanCome_54, dX3_leastPlaceThatCanCome_57, dX3_leastPlaceThatCanCome_60, dX3_leastPlaceThatCanCome_62, zb_7, zb_m6, zf_3_22, zi_1, a1, a5]
      rw [show nI p - 1 = nI (p - 1) from pk_sub (b := 1) hp1, nI_1, nI_clamp (by omega), nI_clamp (by omega), nI_clamp (by omega), e0, e1, e2, nI_leI (by omega) (by omega), nI_leI (by omega) (by omega), nI_leI (by omega) (by omega)]
      refine ⟨fun c1 => absurd ((nI_ltI (a := 7) (by omega) (by omega)).mp c1) (by omega), fun _ => ⟨v0, fun c1 => go (fun hh => ?_), fun c1 => ⟨v0, v1, fun c2 => go (fun hh => ?_), fun c2 => ⟨v0, v2, fun c3 => go (fun hh => ?_), fun c3 => ⟨Or.inl ⟨p, hp1, by omega, rfl, ?_, hno⟩, rfl⟩⟩⟩⟩⟩ <;> unfold m_gd at * <;> omega
  refine z_run C [2] 3 ?_
  simp only [z_x, z_n, z_stop, z_mem, z_ldi, z_lda, z_sto, z_s1, z_s2, z_sa, z_sv, z_br, z_bn, z_ob, z_ar, z_aq, z_al, z_rt, z_ra, z_at, z_st, z_K0i, z_K0v, zk_0, zk_1, zk_2, zk_3, z_lv, List.map_cons, List.map_nil, List.length_cons, List.length_nil, List.replicate, List.cons_append, List.nil_append, Nat.reduceAdd, Nat.reduceSub, Nat.reduceBEq, Nat.reduceEqDiff, Nat.reduceLT, Nat.reduceLeDiff, Nat.zero_add, Int.cast_ofNat_Int, Int.reduceAdd, Int.reduceNeg, Int.reduceToNat, Int.reduceLE, Int.zero_add, Int.toNat_zero, Int.add_zero, Int.add_neg_cancel_right, Fin.isValue, Int32.reduceOfInt, ↓reduceIte, Bool.false_eq_true, Bool.or_false, Bool.false_or, Bool.or_true, Bool.true_or, if_true, if_false, true_and, and_true, true_or, or_true, false_or, or_false, eq_self, and_self, z_up_i, Nat.add_left_cancel_iff, Nat.left_eq_add, Nat.add_eq_left, reduceCtorEq, Nat.add_one_ne_zero, z_tt, implies_true, zn_0, zn_1, zo_0, zo_1, dX3_leastPlaceThatCanCome_0, dX3_leastPlaceThatCanCome_1, dX3_leastPlaceThatCanCome_2, dX3_leastPlaceThatCanCome_3, dX3_leastPlaceThatCanCome_5, dX3_leastPlaceThatCanCome_8, dX3_leastPlaceThatCanCome_9, dX3_leastPlaceThatCanCome_12, dX3_leastPlaceThatCanCome_13, dX3_leastPlaceThatCanCome_14, dX3_leastPlaceThatCanCome_15, dX3_leastPlaceThatCanCome_18, dX3_leastPlaceThatCanCome_19, dX3_leastPlaceThatCanCome_22, dX3_leastPlaceThatCanCome_23, dX3_leastPlaceThatCanCome_24, dX3_leastPlaceThatCanCome_25, dX3_leastPlaceThatCanCome_28, dX3_leastPlaceThatCanCome_29, dX3_leastPlaceThatCanCome_30, dX3_leastPlaceThatCanCome_31, dX3_leastPlaceThatCanCome_32, dX3_leastPlaceThatCanCome_35, dX3_leastPlaceThatCanCome_36, dX3_leastPlaceThatCanCome_39, dX3_leastPlaceThatCanCome_40, dX3_leastPlaceThatCanCome_41, dX3_leastPlaceThatCanCome_42, dX3_leastPlaceThatCanCome_45, dX3_leastPlaceThatCanCome_46, dX3_leastPlaceThatCanCome_47, dX3_leastPlaceThatCanCome_48, dX3_leastPlaceThatCanCome_49, dX3_leastPlaceThatCanCome_52, dX3_leastPlaceThatCanCome_53, dX3_leastPlaceThatCanCome_54, dX3_leastPlaceThatCanCome_57, dX3_leastPlaceThatCanCome_60, dX3_leastPlaceThatCanCome_62, zb_7, zb_m6, zf_3_22, zi_1]
  exact loop 7 1 (by omega) (by omega) (fun q h1 h2 => by omega)
/-- where the rows of next stand, of J0 that stay, and what is left -/
def m_ptr (ls J0 J : List Nat) (ptr : Nat → Nat) : Prop := J = J0.filter (fun k => decide (ptr (m_pq ls k) ≤ k)) ∧ ptr 0 = ls.length ∧ ptr 8 = ls.length ∧ ∀ p, 1 ≤ p → p ≤ 7 → ptr p ≤ ls.length ∧ (ptr p < ls.length → ptr p ∈ J0 ∧ m_pq ls (ptr p) = p)
theorem m_ptr_mem {ls J0 J : List Nat} {ptr : Nat → Nat} (h : m_ptr ls J0 J ptr) (k : Nat) : k ∈ J ↔ k ∈ J0 ∧ ptr (m_pq ls k) ≤ k := by
  rw [h.1]; simp [List.mem_filter]
theorem m_gd_cnd {ls J0 J : List Nat} {ptr : Nat → Nat} (h : m_ptr ls J0 J ptr) {p : Nat} (h1 : 1 ≤ p) (h7 : p ≤ 7) (hg : m_gd ls.length ptr p) : m_cnd ls J (ptr p) ∧ m_pq ls (ptr p) = p := by
  obtain ⟨g1, g2, g3⟩ := hg
  obtain ⟨-, hp⟩ := h.2.2.2 p h1 h7
  obtain ⟨q1, q2⟩ := hp g1
  refine ⟨⟨(m_ptr_mem h _).mpr ⟨q1, by rw [q2]; exact Nat.le_refl _⟩, fun e he hlt => ?_⟩, q2⟩
  obtain ⟨e1, e2⟩ := (m_ptr_mem h e).mp he
  unfold m_ap
  rw [q2]
  rcases (show m_pq ls e = p ∨ m_pq ls e = p - 1 ∨ m_pq ls e = p + 1 ∨ (m_pq ls e + 1 < p ∨ p + 1 < m_pq ls e) by omega) with q | q | q | q
  · rw [q] at e2; omega
  · rw [q] at e2; omega
  · rw [q] at e2; omega
  · exact q
theorem m_cnd_gd {ls J0 J : List Nat} {ptr : Nat → Nat} (hls : z_lok ls) (h : m_ptr ls J0 J ptr) (hb : ∀ j ∈ J0, j < ls.length) {j : Nat} (hc : m_cnd ls J j) : m_gd ls.length ptr (m_pq ls j) ∧ ptr (m_pq ls j) = j := by
  obtain ⟨p1, p7⟩ := hls.pq j
  obtain ⟨k1, k2⟩ := (m_ptr_mem h j).mp hc.1
  have hj := hb j k1
  obtain ⟨-, hp⟩ := h.2.2.2 (m_pq ls j) p1 p7
  obtain ⟨q1, q2⟩ := hp (by omega)
  have e : ptr (m_pq ls j) = j := by
    rcases Nat.lt_or_ge (ptr (m_pq ls j)) j with q | q
    · have hm : ptr (m_pq ls j) ∈ J := (m_ptr_mem h _).mpr ⟨q1, by rw [q2]; exact Nat.le_refl _⟩
      have := hc.2 _ hm q
      unfold m_ap at this; omega
    · omega
  have side : ∀ q, q ≤ 8 → q ≠ m_pq ls j → ¬ (q + 1 < m_pq ls j ∨ m_pq ls j + 1 < q) → j < ptr q := by
    intro q hq8 hq1 hq2
    rcases Nat.lt_or_ge j (ptr q) with w | w
    · exact w
    · have q0 : q ≠ 0 := fun e0 => by subst e0; rw [h.2.1] at w; omega
      have q8 : q ≠ 8 := fun e0 => by subst e0; rw [h.2.2.1] at w; omega
      obtain ⟨-, hp2⟩ := h.2.2.2 q (by omega) (by omega)
      obtain ⟨r1, r2⟩ := hp2 (by omega)
      have hm : ptr q ∈ J := (m_ptr_mem h _).mpr ⟨r1, by rw [r2]; exact Nat.le_refl _⟩
      have hne : ptr q ≠ j := fun e0 => by rw [e0] at r2; exact hq1 r2.symm
      have := hc.2 _ hm (by omega)
      unfold m_ap at this; omega
  refine ⟨⟨by omega, ?_, ?_⟩, e⟩
  · rw [e]; exact side _ (by omega) (by omega) (by omega)
  · rw [e]; exact side _ (by omega) (by omega) (by omega)
theorem m_cnd_ex {ls J : List Nat} (hp : J.Pairwise (· < ·)) (hne : J ≠ []) : ∃ j, m_cnd ls J j := by
  match J, hp, hne with
  | a :: J, hp, _ =>
    refine ⟨a, by simp, fun e he hlt => ?_⟩
    rcases List.mem_cons.mp he with rfl | he
    · omega
    · have := (List.pairwise_cons.mp hp).1 e he; omega
theorem m_ptr_step {ls J0 J : List Nat} {ptr : Nat → Nat} {p k : Nat} (h : m_ptr ls J0 J ptr) (h1 : 1 ≤ p) (h7 : p ≤ 7) (hlt : ptr p < ls.length) (hk : m_nx ls J0 (ptr p + 1) p k) : m_ptr ls J0 (J.filter (fun j => j != ptr p)) (fun q => if q = p then k else ptr q) := by
  obtain ⟨k1, k2, k3, k4⟩ := hk
  obtain ⟨-, hp⟩ := h.2.2.2 p h1 h7
  obtain ⟨q1, q2⟩ := hp hlt
  refine ⟨?_, ?_, ?_, fun q g1 g7 => ?_⟩
  · rw [h.1, List.filter_filter]
    refine List.filter_congr (fun j hj => ?_)
    by_cases e : m_pq ls j = p
    · simp only [e, if_true]
      by_cases w : k ≤ j
      · simp [w, show j ≠ ptr p by omega, show ptr p ≤ j by omega]
      · by_cases w2 : j = ptr p
        · simp [w2, show ¬ k ≤ ptr p by omega]
        · have : ¬ ptr p ≤ j := fun w3 => k4 j (by omega) (by omega) ⟨hj, e⟩
          simp [w, this]
    · have : j ≠ ptr p := fun e0 => by rw [e0] at e; exact e q2
      simp [e, this]
  · have : ¬ (0 = p) := by omega
    simp only [this, if_false]; exact h.2.1
  · have : ¬ (8 = p) := by omega
    simp only [this, if_false]; exact h.2.2.1
  · by_cases e : q = p
    · subst e
      simp only [if_true]
      exact ⟨k2, k3⟩
    · simp only [e, if_false]
      exact h.2.2.2 q g1 g7

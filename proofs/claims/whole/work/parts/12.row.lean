/-! ROWS: z_row M r cap l: at r a Row of that room, which holds l -/
def z_row (M : zH) (r cap : Nat) (l : List Int32) : Prop := ∃ f : Nat → Int32, M r = some (.inr (2, [.ref (r + 1), .int (nI l.length)])) ∧ M (r + 1) = some (.inl (0, cap, .inl f)) ∧ l.length ≤ cap ∧ cap ≤ 1000 ∧ ∀ j, j < l.length → l[j]? = some (f j)
def z_fr (M M' : zH) (A : List Nat) : Prop := ∀ q, q ∉ A → M' q = M q
theorem z_fr.rf {M : zH} {A : List Nat} : z_fr M M A := fun _ _ => rfl
theorem z_fr.tr {M M1 M2 : zH} {A : List Nat} (h : z_fr M M1 A) (h2 : z_fr M1 M2 A) : z_fr M M2 A := fun q hq => (h2 q hq).trans (h q hq)
theorem z_fr.sub {M M1 : zH} {A B : List Nat} (h : z_fr M M1 A) (hs : ∀ q, q ∈ A → q ∈ B) : z_fr M M1 B := fun q hq => h q (fun z => hq (hs q z))
theorem z_row.fr {M M' : zH} {A : List Nat} {r cap : Nat} {w : List Int32} (h : z_row M r cap w) (hf : z_fr M M' A) (h1 : r ∉ A) (h2 : r + 1 ∉ A) : z_row M' r cap w := by
  obtain ⟨f, g1, g2, g3⟩ := h
  exact ⟨f, (hf r h1).trans g1, (hf _ h2).trans g2, g3⟩
theorem z_row.ob {M : zH} {r cap : Nat} {w : List Int32} (h : z_row M r cap w) : M r = some (.inr (2, [.ref (r + 1), .int (nI w.length)])) := h.choose_spec.1
theorem z_row.le {M : zH} {r cap : Nat} {w : List Int32} (h : z_row M r cap w) : w.length ≤ cap ∧ cap ≤ 1000 := by
  obtain ⟨f, g1, g2, g3, g4, g5⟩ := h
  exact ⟨g3, g4⟩
def z_get (l : List Int32) (i : Int32) : Int32 := if i < 0 then -6 else l.getD i.toNatClampNeg (-6)
theorem z_get_nI {l : List Int32} {j : Nat} (h : j < 2 ^ 31) : z_get l (nI j) = l.getD j (-6) := by
  unfold z_get
  rw [if_neg (nI_pos h), nI_clamp h]
set_option maxRecDepth 100000 in
set_option maxHeartbeats 4000000 in
theorem c_size {l : Launch} {E : zE} {d : Nat} {M : zH} {r cap : Nat} {w : List Int32} (h : z_row M r cap w) : nX2_size l E d [.ref r] M (z_i fun v M' => v = nI w.length ∧ M' = M) := by
  obtain ⟨f, h1, h2, h3, h4, h5⟩ := h
  refine z_cn 2 fun P z C => ?_
  refine z_run C [] 5 ?_
  simp only [z_x, z_n, z_stop, z_mem, z_ldi, z_lda, z_sto, z_s1, z_s2, z_sa, z_sv, z_br, z_bn, z_ob, z_ar, z_aq, z_al, z_rt, z_ra, z_at, z_st, z_K0i, z_K0v, zk_0, zk_1, zk_2, zk_3, z_lv, List.map_cons, List.map_nil, List.length_cons, List.length_nil, List.replicate, List.cons_append, List.nil_append, Nat.reduceAdd, Nat.reduceSub, Nat.reduceBEq, Nat.reduceEqDiff, Nat.reduceLT, Nat.reduceLeDiff, Nat.zero_add, Int.cast_ofNat_Int, Int.reduceAdd, Int.reduceNeg, Int.reduceToNat, Int.reduceLE, Int.zero_add, Int.toNat_zero, Int.add_zero, Int.add_neg_cancel_right, Fin.isValue, Int32.reduceOfInt, ↓reduceIte, Bool.false_eq_true, Bool.or_false, Bool.false_or, Bool.or_true, Bool.true_or, if_true, if_false, true_and, and_true, true_or, or_true, false_or, or_false, eq_self, and_self, z_up_i, Nat.add_left_cancel_iff, Nat.left_eq_add, Nat.add_eq_left, reduceCtorEq, Nat.add_one_ne_zero, z_tt, implies_true, zn_0, zn_1, zo_0, zo_1, dX2_size_0, dX2_size_1, dX2_size_4, zf_2_21, h1]
  exact ⟨rfl, rfl⟩
set_option maxRecDepth 100000 in
set_option maxHeartbeats 4000000 in
theorem c_get {l : Launch} {E : zE} {d : Nat} {M : zH} {r cap : Nat} {w : List Int32} (i : Int32) (h : z_row M r cap w) : nX2_get l E d [.ref r, .int i] M (z_i fun v M' => v = z_get w i ∧ M' = M) := by
  obtain ⟨f, h1, h2, h3, h4, h5⟩ := h
  refine z_cn 2 fun P z C => ?_
  refine z_run C [] 20 ?_
  simp only [z_x, z_n, z_stop, z_mem, z_ldi, z_lda, z_sto, z_s1, z_s2, z_sa, z_sv, z_br, z_bn, z_ob, z_ar, z_aq, z_al, z_rt, z_ra, z_at, z_st, z_K0i, z_K0v, zk_0, zk_1, zk_2, zk_3, z_lv, List.map_cons, List.map_nil, List.length_cons, List.length_nil, List.replicate, List.cons_append, List.nil_append, Nat.reduceAdd, Nat.reduceSub, Nat.reduceBEq, Nat.reduceEqDiff, Nat.reduceLT, Nat.reduceLeDiff, Nat.zero_add, Int.cast_ofNat_Int, Int.reduceAdd, Int.reduceNeg, Int.reduceToNat, Int.reduceLE, Int.zero_add, Int.toNat_zero, Int.add_zero, Int.add_neg_cancel_right, Fin.isValue, Int32.reduceOfInt, ↓reduceIte, Bool.false_eq_true, Bool.or_false, Bool.false_or, Bool.or_true, Bool.true_or, if_true, if_false, true_and, and_true, true_or, or_true, false_or, or_false, eq_self, and_self, z_up_i, Nat.add_left_cancel_iff, Nat.left_eq_add, Nat.add_eq_left, reduceCtorEq, Nat.add_one_ne_zero, z_tt, implies_true, zn_0, zn_1, zo_0, zo_1, dX2_get_0, dX2_get_1, dX2_get_4, dX2_get_5, dX2_get_6, dX2_get_9, dX2_get_12, dX2_get_13, dX2_get_14, dX2_get_17, dX2_get_18, dX2_get_21, dX2_get_22, dX2_get_25, dX2_get_26, dX2_get_27, dX2_get_30, dX2_get_32, zb_m6, zf_2_15, zf_2_21, h1, h2]
  refine ⟨fun c1 => ⟨by simp [z_get, c1], rfl⟩, fun c1 => ⟨fun c2 => ?_, fun c2 => ⟨fun c3 => ?_, fun c3 => ?_⟩⟩⟩
  · obtain ⟨j, hj, rfl⟩ := nI_of c1
    have h6 : w.length ≤ j := (nI_leI (by omega) hj).mp c2
    refine ⟨?_, rfl⟩
    rw [z_get_nI hj]
    simp [h6]
  · obtain ⟨j, hj, rfl⟩ := z_ix (by omega) c1 c2
    exact absurd ((nI_leI (by omega) (by omega)).mp c3) (by omega)
  · obtain ⟨j, hj, rfl⟩ := z_ix (by omega) c1 c2
    refine ⟨vp_in_nI (by omega) (by omega), ?_, rfl⟩
    rw [z_get_nI (by omega), nI_clamp (by omega)]
    simp [h5 j hj]
set_option maxRecDepth 100000 in
set_option maxHeartbeats 4000000 in
theorem c_add {l : Launch} {E : zE} {d : Nat} {M : zH} {r cap : Nat} {w : List Int32} (i : Int32) (h : z_row M r cap w) : nX2_add l E d [.ref r, .int i] M (z_i fun v M' => z_fr M M' [r, r + 1] ∧ (w.length < cap → v = 1 ∧ z_row M' r cap (w ++ [i])) ∧ (¬ w.length < cap → v = 0 ∧ M' = M)) := by
  obtain ⟨f, h1, h2, h3, h4, h5⟩ := h
  refine z_cn 2 fun P z C => ?_
  refine z_run C [] 30 ?_
  simp only [z_x, z_n, z_stop, z_mem, z_ldi, z_lda, z_sto, z_s1, z_s2, z_sa, z_sv, z_br, z_bn, z_ob, z_ar, z_aq, z_al, z_rt, z_ra, z_at, z_st, z_K0i, z_K0v, zk_0, zk_1, zk_2, zk_3, z_lv, List.map_cons, List.map_nil, List.length_cons, List.length_nil, List.replicate, List.cons_append, List.nil_append, Nat.reduceAdd, Nat.reduceSub, Nat.reduceBEq, Nat.reduceEqDiff, Nat.reduceLT, Nat.reduceLeDiff, Nat.zero_add, Int.cast_ofNat_Int, Int.reduceAdd, Int.reduceNeg, Int.reduceToNat, Int.reduceLE, Int.zero_add, Int.toNat_zero, Int.add_zero, Int.add_neg_cancel_right, Fin.isValue, Int32.reduceOfInt, ↓reduceIte, Bool.false_eq_true, Bool.or_false, Bool.false_or, Bool.or_true, Bool.true_or, if_true, if_false, true_and, and_true, true_or, or_true, false_or, or_false, eq_self, and_self, z_up_i, Nat.add_left_cancel_iff, Nat.left_eq_add, Nat.add_eq_left, reduceCtorEq, Nat.add_one_ne_zero, z_tt, implies_true, zn_0, zn_1, zo_0, zo_1, dX2_add_0, dX2_add_1, dX2_add_4, dX2_add_7, dX2_add_8, dX2_add_11, dX2_add_12, dX2_add_15, dX2_add_16, dX2_add_19, dX2_add_20, dX2_add_21, dX2_add_22, dX2_add_25, dX2_add_26, dX2_add_29, dX2_add_30, dX2_add_31, dX2_add_32, dX2_add_33, dX2_add_36, dX2_add_37, dX2_add_38, dX2_add_41, dX2_add_42, zf_2_15, zf_2_21, zi_0, zi_1, zt_2_1, h1, h2]
  refine ⟨fun c1 => absurd c1 (nI_pos (by omega)), fun c1 => ⟨fun c2 => ?_, fun c2 => ?_⟩⟩
  · have h6 : w.length < cap := (nI_ltI (by omega) (by omega)).mp c2
    refine ⟨vp_in_nI h6 (by omega), fun q hq => ?_, fun _ => ⟨rfl, ?_⟩, fun hn => absurd h6 hn⟩
    · simp only [List.mem_cons, List.not_mem_nil, or_false, not_or] at hq
      rw [z_up_n hq.1, z_up_n hq.2]
    · refine ⟨upd f w.length i, ?_, ?_, by simp; omega, h4, fun j hj => ?_⟩
      · rw [z_up_s, nI_1]; simp
      · rw [z_up_n (by omega), z_up_s, nI_clamp (by omega)]
      · simp only [List.length_append, List.length_cons, List.length_nil] at hj
        by_cases hjw : j = w.length
        · subst hjw; simp [upd]
        · rw [List.getElem?_append_left (by omega), h5 j (by omega)]; simp [upd, hjw]
  · have h6 : ¬ w.length < cap := fun hh => c2 ((nI_ltI (by omega) (by omega)).mpr hh)
    exact ⟨z_fr.rf, fun hh => absurd hh h6, fun _ => ⟨rfl, rfl⟩⟩
set_option maxRecDepth 100000 in
set_option maxHeartbeats 4000000 in
theorem c_clear {l : Launch} {E : zE} {d : Nat} {M : zH} {r cap : Nat} {w : List Int32} (h : z_row M r cap w) : nX2_clear l E d [.ref r] M (z_v fun M' => z_fr M M' [r, r + 1] ∧ z_row M' r cap []) := by
  obtain ⟨f, h1, h2, h3, h4, h5⟩ := h
  refine z_cn 2 fun P z C => ?_
  refine z_run C [] 30 ?_
  simp only [z_x, z_n, z_stop, z_mem, z_ldi, z_lda, z_sto, z_s1, z_s2, z_sa, z_sv, z_br, z_bn, z_ob, z_ar, z_aq, z_al, z_rt, z_ra, z_at, z_st, z_K0i, z_K0v, zk_0, zk_1, zk_2, zk_3, z_lv, List.map_cons, List.map_nil, List.length_cons, List.length_nil, List.replicate, List.cons_append, List.nil_append, Nat.reduceAdd, Nat.reduceSub, Nat.reduceBEq, Nat.reduceEqDiff, Nat.reduceLT, Nat.reduceLeDiff, Nat.zero_add, Int.cast_ofNat_Int, Int.reduceAdd, Int.reduceNeg, Int.reduceToNat, Int.reduceLE, Int.zero_add, Int.toNat_zero, Int.add_zero, Int.add_neg_cancel_right, Fin.isValue, Int32.reduceOfInt, ↓reduceIte, Bool.false_eq_true, Bool.or_false, Bool.false_or, Bool.or_true, Bool.true_or, if_true, if_false, true_and, and_true, true_or, or_true, false_or, or_false, eq_self, and_self, z_up_i, Nat.add_left_cancel_iff, Nat.left_eq_add, Nat.add_eq_left, reduceCtorEq, Nat.add_one_ne_zero, z_tt, implies_true, zn_0, zn_1, zo_0, zo_1, dX2_clear_0, dX2_clear_1, dX2_clear_2, dX2_clear_5, zf_2_21, zi_0, zt_2_1, h1, h2]
  refine ⟨fun q hq => ?_, f, ?_, ?_, by simp, h4, fun j hj => by simp at hj⟩
  · simp only [List.mem_cons, List.not_mem_nil, or_false, not_or] at hq
    rw [z_up_n hq.1]
  · rw [z_up_s]; rfl
  · rw [z_up_n (by omega)]; exact h2
set_option maxRecDepth 100000 in
set_option maxHeartbeats 4000000 in
theorem c_addAll {l : Launch} {E : zE} {d : Nat} {M : zH} {r o cap cap2 : Nat} {w w2 : List Int32} (h : z_row M r cap w) (ho : z_row M o cap2 w2) (hn : o ≠ r ∧ o ≠ r + 1 ∧ o + 1 ≠ r) (hl : w.length + w2.length ≤ cap) : nX2_addAll l E (d + 1) [.ref r, .ref o] M (z_v fun M' => z_fr M M' [r, r + 1] ∧ z_row M' r cap (w ++ w2)) := by
  refine z_cn 2 fun P z C => ?_
  have hcap := h.le
  have hcap2 := ho.le
  have loop : ∀ (n i : Nat) (M1 : zH), i + n = w2.length → z_fr M M1 [r, r + 1] → z_row M1 r cap (w ++ w2.take i) → P (M1, z, 0, 0) 7 [some (.ref r), some (.ref o), some (.int (nI w2.length)), some (.int (nI i))] [] := by
    intro n
    induction n with
    | zero =>
      intro i M1 hi hf hr
      refine z_run C [] 10 ?_
      simp only [z_x, z_n, z_stop, z_mem, z_ldi, z_lda, z_sto, z_s1, z_s2, z_sa, z_sv, z_br, z_bn, z_ob, z_ar, z_aq, z_al, z_rt, z_ra, z_at, z_st, z_K0i, z_K0v, zk_0, zk_1, zk_2, zk_3, z_lv, List.map_cons, List.map_nil, List.length_cons, List.length_nil, List.replicate, List.cons_append, List.nil_append, Nat.reduceAdd, Nat.reduceSub, Nat.reduceBEq, Nat.reduceEqDiff, Nat.reduceLT, Nat.reduceLeDiff, Nat.zero_add, Int.cast_ofNat_Int, Int.reduceAdd, Int.reduceNeg, Int.reduceToNat, Int.reduceLE, Int.zero_add, Int.toNat_zero, Int.add_zero, Int.add_neg_cancel_right, Fin.isValue, Int32.reduceOfInt, ↓reduceIte, Bool.false_eq_true, Bool.or_false, Bool.false_or, Bool.or_true, Bool.true_or, if_true, if_false, true_and, and_true, true_or, or_true, false_or, or_false, eq_self, and_self, z_up_i, Nat.add_left_cancel_iff, Nat.left_eq_add, Nat.add_eq_left, reduceCtorEq, Nat.add_one_ne_zero, z_tt, implies_true, zn_0, zn_1, zo_0, zo_1, dX2_addAll_0, dX2_addAll_1, dX2_addAll_4, dX2_addAll_5, dX2_addAll_6, dX2_addAll_7, dX2_addAll_8, dX2_addAll_9, dX2_addAll_12, dX2_addAll_13, dX2_addAll_14, dX2_addAll_15, dX2_addAll_18, dX2_addAll_21, dX2_addAll_22, dX2_addAll_25, dX2_addAll_28, zi_0, zi_1]
      refine ⟨fun _ => ⟨hf, ?_⟩, fun c1 => absurd (nI_le (by omega) (by omega)) c1⟩
      rw [List.take_of_length_le (by omega)] at hr
      exact hr
    | succ n ih =>
      intro i M1 hi hf hr
      have ho1 : z_row M1 o cap2 w2 := ho.fr hf (by simp; omega) (by simp; omega)
      refine z_run C [] 10 ?_
      simp only [z_x, z_n, z_stop, z_mem, z_ldi, z_lda, z_sto, z_s1, z_s2, z_sa, z_sv, z_br, z_bn, z_ob, z_ar, z_aq, z_al, z_rt, z_ra, z_at, z_st, z_K0i, z_K0v, zk_0, zk_1, zk_2, zk_3, z_lv, List.map_cons, List.map_nil, List.length_cons, List.length_nil, List.replicate, List.cons_append, List.nil_append, Nat.reduceAdd, Nat.reduceSub, Nat.reduceBEq, Nat.reduceEqDiff, Nat.reduceLT, Nat.reduceLeDiff, Nat.zero_add, Int.cast_ofNat_Int, Int.reduceAdd, Int.reduceNeg, Int.reduceToNat, Int.reduceLE, Int.zero_add, Int.toNat_zero, Int.add_zero, Int.add_neg_cancel_right, Fin.isValue, Int32.reduceOfInt, ↓reduceIte, Bool.false_eq_true, Bool.or_false, Bool.false_or, Bool.or_true, Bool.true_or, if_true, if_false, true_and, and_true, true_or, or_true, false_or, or_false, eq_self, and_self, z_up_i, Nat.add_left_cancel_iff, Nat.left_eq_add, Nat.add_eq_left, reduceCtorEq, Nat.add_one_ne_zero, z_tt, implies_true, zn_0, zn_1, zo_0, zo_1, dX2_addAll_0, dX2_addAll_1, dX2_addAll_4, dX2_addAll_5, dX2_addAll_6, dX2_addAll_7, dX2_addAll_8, dX2_addAll_9, dX2_addAll_12, dX2_addAll_13, dX2_addAll_14, dX2_addAll_15, dX2_addAll_18, dX2_addAll_21, dX2_addAll_22, dX2_addAll_25, dX2_addAll_28, zi_0, zi_1]
      refine ⟨fun c1 => absurd ((nI_leI (by omega) (by omega)).mp c1) (by omega), fun _ => ?_⟩
      refine z_vi C dX2_addAll_15 lk_2_28 (c_get (nI i) ho1) rfl ho1.ob (fun v M2 hv => ?_)
      obtain ⟨rfl, rfl⟩ := hv
      refine z_vi C dX2_addAll_18 lk_2_32 (c_add _ hr) rfl hr.ob (fun v M2 hv => ?_)
      obtain ⟨hf2, hv, -⟩ := hv
      obtain ⟨-, hr2⟩ := hv (by simp; omega)
      refine z_run C [7] 10 ?_
      simp only [z_x, z_n, z_stop, z_mem, z_ldi, z_lda, z_sto, z_s1, z_s2, z_sa, z_sv, z_br, z_bn, z_ob, z_ar, z_aq, z_al, z_rt, z_ra, z_at, z_st, z_K0i, z_K0v, zk_0, zk_1, zk_2, zk_3, z_lv, List.map_cons, List.map_nil, List.length_cons, List.length_nil, List.replicate, List.cons_append, List.nil_append, Nat.reduceAdd, Nat.reduceSub, Nat.reduceBEq, Nat.reduceEqDiff, Nat.reduceLT, Nat.reduceLeDiff, Nat.zero_add, Int.cast_ofNat_Int, Int.reduceAdd, Int.reduceNeg, Int.reduceToNat, Int.reduceLE, Int.zero_add, Int.toNat_zero, Int.add_zero, Int.add_neg_cancel_right, Fin.isValue, Int32.reduceOfInt, ↓reduceIte, Bool.false_eq_true, Bool.or_false, Bool.false_or, Bool.or_true, Bool.true_or, if_true, if_false, true_and, and_true, true_or, or_true, false_or, or_false, eq_self, and_self, z_up_i, Nat.add_left_cancel_iff, Nat.left_eq_add, Nat.add_eq_left, reduceCtorEq, Nat.add_one_ne_zero, z_tt, implies_true, zn_0, zn_1, zo_0, zo_1, dX2_addAll_0, dX2_addAll_1, dX2_addAll_4, dX2_addAll_5, dX2_addAll_6, dX2_addAll_7, dX2_addAll_8, dX2_addAll_9, dX2_addAll_12, dX2_addAll_13, dX2_addAll_14, dX2_addAll_15, dX2_addAll_18, dX2_addAll_21, dX2_addAll_22, dX2_addAll_25, dX2_addAll_28, zi_0, zi_1]
      rw [nI_1]
      refine ih (i + 1) M2 (by omega) (hf.tr hf2) ?_
      rw [z_get_nI (by omega)] at hr2
      have e1 : w2.take (i + 1) = w2.take i ++ [w2.getD i (-6)] := by
        rw [List.take_succ, List.getD_eq_getElem?_getD, List.getElem?_eq_getElem (by omega)]; rfl
      rw [e1, ← List.append_assoc]
      exact hr2
  refine z_run C [] 3 ?_
  simp only [z_x, z_n, z_stop, z_mem, z_ldi, z_lda, z_sto, z_s1, z_s2, z_sa, z_sv, z_br, z_bn, z_ob, z_ar, z_aq, z_al, z_rt, z_ra, z_at, z_st, z_K0i, z_K0v, zk_0, zk_1, zk_2, zk_3, z_lv, List.map_cons, List.map_nil, List.length_cons, List.length_nil, List.replicate, List.cons_append, List.nil_append, Nat.reduceAdd, Nat.reduceSub, Nat.reduceBEq, Nat.reduceEqDiff, Nat.reduceLT, Nat.reduceLeDiff, Nat.zero_add, Int.cast_ofNat_Int, Int.reduceAdd, Int.reduceNeg, Int.reduceToNat, Int.reduceLE, Int.zero_add, Int.toNat_zero, Int.add_zero, Int.add_neg_cancel_right, Fin.isValue, Int32.reduceOfInt, ↓reduceIte, Bool.false_eq_true, Bool.or_false, Bool.false_or, Bool.or_true, Bool.true_or, if_true, if_false, true_and, and_true, true_or, or_true, false_or, or_false, eq_self, and_self, z_up_i, Nat.add_left_cancel_iff, Nat.left_eq_add, Nat.add_eq_left, reduceCtorEq, Nat.add_one_ne_zero, z_tt, implies_true, zn_0, zn_1, zo_0, zo_1, dX2_addAll_0, dX2_addAll_1, dX2_addAll_4, dX2_addAll_5, dX2_addAll_6, dX2_addAll_7, dX2_addAll_8, dX2_addAll_9, dX2_addAll_12, dX2_addAll_13, dX2_addAll_14, dX2_addAll_15, dX2_addAll_18, dX2_addAll_21, dX2_addAll_22, dX2_addAll_25, dX2_addAll_28, zi_0, zi_1]
  refine z_vi C dX2_addAll_1 lk_2_25 (c_size ho) rfl ho.ob (fun v M2 hv => ?_)
  obtain ⟨rfl, rfl⟩ := hv
  refine z_run C [7] 3 ?_
  simp only [z_x, z_n, z_stop, z_mem, z_ldi, z_lda, z_sto, z_s1, z_s2, z_sa, z_sv, z_br, z_bn, z_ob, z_ar, z_aq, z_al, z_rt, z_ra, z_at, z_st, z_K0i, z_K0v, zk_0, zk_1, zk_2, zk_3, z_lv, List.map_cons, List.map_nil, List.length_cons, List.length_nil, List.replicate, List.cons_append, List.nil_append, Nat.reduceAdd, Nat.reduceSub, Nat.reduceBEq, Nat.reduceEqDiff, Nat.reduceLT, Nat.reduceLeDiff, Nat.zero_add, Int.cast_ofNat_Int, Int.reduceAdd, Int.reduceNeg, Int.reduceToNat, Int.reduceLE, Int.zero_add, Int.toNat_zero, Int.add_zero, Int.add_neg_cancel_right, Fin.isValue, Int32.reduceOfInt, ↓reduceIte, Bool.false_eq_true, Bool.or_false, Bool.false_or, Bool.or_true, Bool.true_or, if_true, if_false, true_and, and_true, true_or, or_true, false_or, or_false, eq_self, and_self, z_up_i, Nat.add_left_cancel_iff, Nat.left_eq_add, Nat.add_eq_left, reduceCtorEq, Nat.add_one_ne_zero, z_tt, implies_true, zn_0, zn_1, zo_0, zo_1, dX2_addAll_0, dX2_addAll_1, dX2_addAll_4, dX2_addAll_5, dX2_addAll_6, dX2_addAll_7, dX2_addAll_8, dX2_addAll_9, dX2_addAll_12, dX2_addAll_13, dX2_addAll_14, dX2_addAll_15, dX2_addAll_18, dX2_addAll_21, dX2_addAll_22, dX2_addAll_25, dX2_addAll_28, zi_0, zi_1]
  exact loop w2.length 0 M2 (by omega) z_fr.rf (by simpa using h)

set_option maxRecDepth 100000 in
set_option maxHeartbeats 4000000 in
theorem c_become {l : Launch} {E : zE} {d : Nat} {M : zH} {r o cap cap2 : Nat} {w w2 : List Int32} (h : z_row M r cap w) (ho : z_row M o cap2 w2) (hn : o ≠ r ∧ o ≠ r + 1 ∧ o + 1 ≠ r) (hl : w2.length ≤ cap) : nX2_become l E (d + 2) [.ref r, .ref o] M (z_v fun M' => z_fr M M' [r, r + 1] ∧ z_row M' r cap w2) := by
  refine z_cn 2 fun P z C => ?_
  refine z_run C [] 3 ?_
  simp only [z_x, z_n, z_stop, z_mem, z_ldi, z_lda, z_sto, z_s1, z_s2, z_sa, z_sv, z_br, z_bn, z_ob, z_ar, z_aq, z_al, z_rt, z_ra, z_at, z_st, z_K0i, z_K0v, zk_0, zk_1, zk_2, zk_3, z_lv, List.map_cons, List.map_nil, List.length_cons, List.length_nil, List.replicate, List.cons_append, List.nil_append, Nat.reduceAdd, Nat.reduceSub, Nat.reduceBEq, Nat.reduceEqDiff, Nat.reduceLT, Nat.reduceLeDiff, Nat.zero_add, Int.cast_ofNat_Int, Int.reduceAdd, Int.reduceNeg, Int.reduceToNat, Int.reduceLE, Int.zero_add, Int.toNat_zero, Int.add_zero, Int.add_neg_cancel_right, Fin.isValue, Int32.reduceOfInt, ↓reduceIte, Bool.false_eq_true, Bool.or_false, Bool.false_or, Bool.or_true, Bool.true_or, if_true, if_false, true_and, and_true, true_or, or_true, false_or, or_false, eq_self, and_self, z_up_i, Nat.add_left_cancel_iff, Nat.left_eq_add, Nat.add_eq_left, reduceCtorEq, Nat.add_one_ne_zero, z_tt, implies_true, zn_0, zn_1, zo_0, zo_1, dX2_become_0, dX2_become_1, dX2_become_4, dX2_become_5, dX2_become_6, dX2_become_9]
  refine z_vv C dX2_become_1 lk_2_36 (c_clear h) rfl h.ob (fun M1 hv => ?_)
  obtain ⟨hf, hr⟩ := hv
  have ho1 : z_row M1 o cap2 w2 := ho.fr hf (by simp; omega) (by simp; omega)
  refine z_run C [] 3 ?_
  simp only [z_x, z_n, z_stop, z_mem, z_ldi, z_lda, z_sto, z_s1, z_s2, z_sa, z_sv, z_br, z_bn, z_ob, z_ar, z_aq, z_al, z_rt, z_ra, z_at, z_st, z_K0i, z_K0v, zk_0, zk_1, zk_2, zk_3, z_lv, List.map_cons, List.map_nil, List.length_cons, List.length_nil, List.replicate, List.cons_append, List.nil_append, Nat.reduceAdd, Nat.reduceSub, Nat.reduceBEq, Nat.reduceEqDiff, Nat.reduceLT, Nat.reduceLeDiff, Nat.zero_add, Int.cast_ofNat_Int, Int.reduceAdd, Int.reduceNeg, Int.reduceToNat, Int.reduceLE, Int.zero_add, Int.toNat_zero, Int.add_zero, Int.add_neg_cancel_right, Fin.isValue, Int32.reduceOfInt, ↓reduceIte, Bool.false_eq_true, Bool.or_false, Bool.false_or, Bool.or_true, Bool.true_or, if_true, if_false, true_and, and_true, true_or, or_true, false_or, or_false, eq_self, and_self, z_up_i, Nat.add_left_cancel_iff, Nat.left_eq_add, Nat.add_eq_left, reduceCtorEq, Nat.add_one_ne_zero, z_tt, implies_true, zn_0, zn_1, zo_0, zo_1, dX2_become_0, dX2_become_1, dX2_become_4, dX2_become_5, dX2_become_6, dX2_become_9]
  refine z_vv C dX2_become_6 lk_2_39 (c_addAll hr ho1 hn (by simpa using hl)) rfl hr.ob (fun M2 hv => ?_)
  obtain ⟨hf2, hr2⟩ := hv
  refine z_run C [] 3 ?_
  simp only [z_x, z_n, z_stop, z_mem, z_ldi, z_lda, z_sto, z_s1, z_s2, z_sa, z_sv, z_br, z_bn, z_ob, z_ar, z_aq, z_al, z_rt, z_ra, z_at, z_st, z_K0i, z_K0v, zk_0, zk_1, zk_2, zk_3, z_lv, List.map_cons, List.map_nil, List.length_cons, List.length_nil, List.replicate, List.cons_append, List.nil_append, Nat.reduceAdd, Nat.reduceSub, Nat.reduceBEq, Nat.reduceEqDiff, Nat.reduceLT, Nat.reduceLeDiff, Nat.zero_add, Int.cast_ofNat_Int, Int.reduceAdd, Int.reduceNeg, Int.reduceToNat, Int.reduceLE, Int.zero_add, Int.toNat_zero, Int.add_zero, Int.add_neg_cancel_right, Fin.isValue, Int32.reduceOfInt, ↓reduceIte, Bool.false_eq_true, Bool.or_false, Bool.false_or, Bool.or_true, Bool.true_or, if_true, if_false, true_and, and_true, true_or, or_true, false_or, or_false, eq_self, and_self, z_up_i, Nat.add_left_cancel_iff, Nat.left_eq_add, Nat.add_eq_left, reduceCtorEq, Nat.add_one_ne_zero, z_tt, implies_true, zn_0, zn_1, zo_0, zo_1, dX2_become_0, dX2_become_1, dX2_become_4, dX2_become_5, dX2_become_6, dX2_become_9]
  exact ⟨hf.tr hf2, by simpa using hr2⟩
set_option maxRecDepth 100000 in
set_option maxHeartbeats 4000000 in
theorem c_isLike {l : Launch} {E : zE} {d : Nat} {M : zH} {r o cap cap2 : Nat} {w w2 : List Int32} (h : z_row M r cap w) (ho : z_row M o cap2 w2) : nX2_isLike l E (d + 1) [.ref r, .ref o] M (z_i fun v M' => v = (if w = w2 then 1 else 0) ∧ M' = M) := by
  refine z_cn 2 fun P z C => ?_
  have hcap := h.le
  have hcap2 := ho.le
  have hob := h.ob
  have loop : w.length = w2.length → ∀ (n i : Nat), i + n = w.length → w.take i = w2.take i → P (M, z, 0, 0) 15 [some (.ref r), some (.ref o), some (.int (nI i))] [] := by
    intro hlen n
    induction n with
    | zero =>
      intro i hi ht
      refine z_run C [] 10 ?_
      simp only [z_x, z_n, z_stop, z_mem, z_ldi, z_lda, z_sto, z_s1, z_s2, z_sa, z_sv, z_br, z_bn, z_ob, z_ar, z_aq, z_al, z_rt, z_ra, z_at, z_st, z_K0i, z_K0v, zk_0, zk_1, zk_2, zk_3, z_lv, List.map_cons, List.map_nil, List.length_cons, List.length_nil, List.replicate, List.cons_append, List.nil_append, Nat.reduceAdd, Nat.reduceSub, Nat.reduceBEq, Nat.reduceEqDiff, Nat.reduceLT, Nat.reduceLeDiff, Nat.zero_add, Int.cast_ofNat_Int, Int.reduceAdd, Int.reduceNeg, Int.reduceToNat, Int.reduceLE, Int.zero_add, Int.toNat_zero, Int.add_zero, Int.add_neg_cancel_right, Fin.isValue, Int32.reduceOfInt, ↓reduceIte, Bool.false_eq_true, Bool.or_false, Bool.false_or, Bool.or_true, Bool.true_or, if_true, if_false, true_and, and_true, true_or, or_true, false_or, or_false, eq_self, and_self, z_up_i, Nat.add_left_cancel_iff, Nat.left_eq_add, Nat.add_eq_left, reduceCtorEq, Nat.add_one_ne_zero, z_tt, implies_true, zn_0, zn_1, zo_0, zo_1, dX2_isLike_0, dX2_isLike_1, dX2_isLike_4, dX2_isLike_5, dX2_isLike_8, dX2_isLike_11, dX2_isLike_12, dX2_isLike_13, dX2_isLike_14, dX2_isLike_15, dX2_isLike_16, dX2_isLike_17, dX2_isLike_20, dX2_isLike_23, dX2_isLike_24, dX2_isLike_25, dX2_isLike_28, dX2_isLike_29, dX2_isLike_30, dX2_isLike_33, dX2_isLike_36, dX2_isLike_37, dX2_isLike_38, dX2_isLike_41, dX2_isLike_44, dX2_isLike_45, zf_2_21, zi_0, zi_1, hob]
      refine ⟨fun _ => ?_, fun c1 => absurd (nI_le (by omega) (by omega)) c1⟩
      rw [List.take_of_length_le (by omega), List.take_of_length_le (by omega)] at ht
      exact ⟨by rw [if_pos ht], rfl⟩
    | succ n ih =>
      intro i hi ht
      refine z_run C [] 10 ?_
      simp only [z_x, z_n, z_stop, z_mem, z_ldi, z_lda, z_sto, z_s1, z_s2, z_sa, z_sv, z_br, z_bn, z_ob, z_ar, z_aq, z_al, z_rt, z_ra, z_at, z_st, z_K0i, z_K0v, zk_0, zk_1, zk_2, zk_3, z_lv, List.map_cons, List.map_nil, List.length_cons, List.length_nil, List.replicate, List.cons_append, List.nil_append, Nat.reduceAdd, Nat.reduceSub, Nat.reduceBEq, Nat.reduceEqDiff, Nat.reduceLT, Nat.reduceLeDiff, Nat.zero_add, Int.cast_ofNat_Int, Int.reduceAdd, Int.reduceNeg, Int.reduceToNat, Int.reduceLE, Int.zero_add, Int.toNat_zero, Int.add_zero, Int.add_neg_cancel_right, Fin.isValue, Int32.reduceOfInt, ↓reduceIte, Bool.false_eq_true, Bool.or_false, Bool.false_or, Bool.or_true, Bool.true_or, if_true, if_false, true_and, and_true, true_or, or_true, false_or, or_false, eq_self, and_self, z_up_i, Nat.add_left_cancel_iff, Nat.left_eq_add, Nat.add_eq_left, reduceCtorEq, Nat.add_one_ne_zero, z_tt, implies_true, zn_0, zn_1, zo_0, zo_1, dX2_isLike_0, dX2_isLike_1, dX2_isLike_4, dX2_isLike_5, dX2_isLike_8, dX2_isLike_11, dX2_isLike_12, dX2_isLike_13, dX2_isLike_14, dX2_isLike_15, dX2_isLike_16, dX2_isLike_17, dX2_isLike_20, dX2_isLike_23, dX2_isLike_24, dX2_isLike_25, dX2_isLike_28, dX2_isLike_29, dX2_isLike_30, dX2_isLike_33, dX2_isLike_36, dX2_isLike_37, dX2_isLike_38, dX2_isLike_41, dX2_isLike_44, dX2_isLike_45, zf_2_21, zi_0, zi_1, hob]
      refine ⟨fun c1 => absurd ((nI_leI (by omega) (by omega)).mp c1) (by omega), fun _ => ?_⟩
      refine z_vi C dX2_isLike_25 lk_2_28 (c_get (nI i) h) rfl h.ob (fun v M2 hv => ?_)
      obtain ⟨rfl, rfl⟩ := hv
      refine z_run C [] 3 ?_
      simp only [z_x, z_n, z_stop, z_mem, z_ldi, z_lda, z_sto, z_s1, z_s2, z_sa, z_sv, z_br, z_bn, z_ob, z_ar, z_aq, z_al, z_rt, z_ra, z_at, z_st, z_K0i, z_K0v, zk_0, zk_1, zk_2, zk_3, z_lv, List.map_cons, List.map_nil, List.length_cons, List.length_nil, List.replicate, List.cons_append, List.nil_append, Nat.reduceAdd, Nat.reduceSub, Nat.reduceBEq, Nat.reduceEqDiff, Nat.reduceLT, Nat.reduceLeDiff, Nat.zero_add, Int.cast_ofNat_Int, Int.reduceAdd, Int.reduceNeg, Int.reduceToNat, Int.reduceLE, Int.zero_add, Int.toNat_zero, Int.add_zero, Int.add_neg_cancel_right, Fin.isValue, Int32.reduceOfInt, ↓reduceIte, Bool.false_eq_true, Bool.or_false, Bool.false_or, Bool.or_true, Bool.true_or, if_true, if_false, true_and, and_true, true_or, or_true, false_or, or_false, eq_self, and_self, z_up_i, Nat.add_left_cancel_iff, Nat.left_eq_add, Nat.add_eq_left, reduceCtorEq, Nat.add_one_ne_zero, z_tt, implies_true, zn_0, zn_1, zo_0, zo_1, dX2_isLike_0, dX2_isLike_1, dX2_isLike_4, dX2_isLike_5, dX2_isLike_8, dX2_isLike_11, dX2_isLike_12, dX2_isLike_13, dX2_isLike_14, dX2_isLike_15, dX2_isLike_16, dX2_isLike_17, dX2_isLike_20, dX2_isLike_23, dX2_isLike_24, dX2_isLike_25, dX2_isLike_28, dX2_isLike_29, dX2_isLike_30, dX2_isLike_33, dX2_isLike_36, dX2_isLike_37, dX2_isLike_38, dX2_isLike_41, dX2_isLike_44, dX2_isLike_45, zf_2_21, zi_0, zi_1]
      refine z_vi C dX2_isLike_30 lk_2_28 (c_get (nI i) ho) rfl ho.ob (fun v M2 hv => ?_)
      obtain ⟨rfl, rfl⟩ := hv
      refine z_run C [15] 5 ?_
      simp only [z_x, z_n, z_stop, z_mem, z_ldi, z_lda, z_sto, z_s1, z_s2, z_sa, z_sv, z_br, z_bn, z_ob, z_ar, z_aq, z_al, z_rt, z_ra, z_at, z_st, z_K0i, z_K0v, zk_0, zk_1, zk_2, zk_3, z_lv, List.map_cons, List.map_nil, List.length_cons, List.length_nil, List.replicate, List.cons_append, List.nil_append, Nat.reduceAdd, Nat.reduceSub, Nat.reduceBEq, Nat.reduceEqDiff, Nat.reduceLT, Nat.reduceLeDiff, Nat.zero_add, Int.cast_ofNat_Int, Int.reduceAdd, Int.reduceNeg, Int.reduceToNat, Int.reduceLE, Int.zero_add, Int.toNat_zero, Int.add_zero, Int.add_neg_cancel_right, Fin.isValue, Int32.reduceOfInt, ↓reduceIte, Bool.false_eq_true, Bool.or_false, Bool.false_or, Bool.or_true, Bool.true_or, if_true, if_false, true_and, and_true, true_or, or_true, false_or, or_false, eq_self, and_self, z_up_i, Nat.add_left_cancel_iff, Nat.left_eq_add, Nat.add_eq_left, reduceCtorEq, Nat.add_one_ne_zero, z_tt, implies_true, zn_0, zn_1, zo_0, zo_1, dX2_isLike_0, dX2_isLike_1, dX2_isLike_4, dX2_isLike_5, dX2_isLike_8, dX2_isLike_11, dX2_isLike_12, dX2_isLike_13, dX2_isLike_14, dX2_isLike_15, dX2_isLike_16, dX2_isLike_17, dX2_isLike_20, dX2_isLike_23, dX2_isLike_24, dX2_isLike_25, dX2_isLike_28, dX2_isLike_29, dX2_isLike_30, dX2_isLike_33, dX2_isLike_36, dX2_isLike_37, dX2_isLike_38, dX2_isLike_41, dX2_isLike_44, dX2_isLike_45, zf_2_21, zi_0, zi_1]
      rw [z_get_nI (by omega), z_get_nI (by omega), z_ty_get (by omega), z_ty_get (by omega), nI_1]
      refine ⟨fun c1 => ?_, fun c1 => ?_⟩
      · refine ih (i + 1) (by omega) ?_
        rw [z_take1 (List.getElem?_eq_getElem (by omega)), z_take1 (List.getElem?_eq_getElem (by omega)), ht, c1]
      · refine ⟨?_, rfl⟩
        rw [if_neg]
        intro e
        subst e
        exact c1 rfl
  refine z_run C [] 4 ?_
  simp only [z_x, z_n, z_stop, z_mem, z_ldi, z_lda, z_sto, z_s1, z_s2, z_sa, z_sv, z_br, z_bn, z_ob, z_ar, z_aq, z_al, z_rt, z_ra, z_at, z_st, z_K0i, z_K0v, zk_0, zk_1, zk_2, zk_3, z_lv, List.map_cons, List.map_nil, List.length_cons, List.length_nil, List.replicate, List.cons_append, List.nil_append, Nat.reduceAdd, Nat.reduceSub, Nat.reduceBEq, Nat.reduceEqDiff, Nat.reduceLT, Nat.reduceLeDiff, Nat.zero_add, Int.cast_ofNat_Int, Int.reduceAdd, Int.reduceNeg, Int.reduceToNat, Int.reduceLE, Int.zero_add, Int.toNat_zero, Int.add_zero, Int.add_neg_cancel_right, Fin.isValue, Int32.reduceOfInt, ↓reduceIte, Bool.false_eq_true, Bool.or_false, Bool.false_or, Bool.or_true, Bool.true_or, if_true, if_false, true_and, and_true, true_or, or_true, false_or, or_false, eq_self, and_self, z_up_i, Nat.add_left_cancel_iff, Nat.left_eq_add, Nat.add_eq_left, reduceCtorEq, Nat.add_one_ne_zero, z_tt, implies_true, zn_0, zn_1, zo_0, zo_1, dX2_isLike_0, dX2_isLike_1, dX2_isLike_4, dX2_isLike_5, dX2_isLike_8, dX2_isLike_11, dX2_isLike_12, dX2_isLike_13, dX2_isLike_14, dX2_isLike_15, dX2_isLike_16, dX2_isLike_17, dX2_isLike_20, dX2_isLike_23, dX2_isLike_24, dX2_isLike_25, dX2_isLike_28, dX2_isLike_29, dX2_isLike_30, dX2_isLike_33, dX2_isLike_36, dX2_isLike_37, dX2_isLike_38, dX2_isLike_41, dX2_isLike_44, dX2_isLike_45, zf_2_21, zi_0, zi_1, hob]
  refine z_vi C dX2_isLike_5 lk_2_25 (c_size ho) rfl ho.ob (fun v M2 hv => ?_)
  obtain ⟨rfl, rfl⟩ := hv
  refine z_run C [15] 5 ?_
  simp only [z_x, z_n, z_stop, z_mem, z_ldi, z_lda, z_sto, z_s1, z_s2, z_sa, z_sv, z_br, z_bn, z_ob, z_ar, z_aq, z_al, z_rt, z_ra, z_at, z_st, z_K0i, z_K0v, zk_0, zk_1, zk_2, zk_3, z_lv, List.map_cons, List.map_nil, List.length_cons, List.length_nil, List.replicate, List.cons_append, List.nil_append, Nat.reduceAdd, Nat.reduceSub, Nat.reduceBEq, Nat.reduceEqDiff, Nat.reduceLT, Nat.reduceLeDiff, Nat.zero_add, Int.cast_ofNat_Int, Int.reduceAdd, Int.reduceNeg, Int.reduceToNat, Int.reduceLE, Int.zero_add, Int.toNat_zero, Int.add_zero, Int.add_neg_cancel_right, Fin.isValue, Int32.reduceOfInt, ↓reduceIte, Bool.false_eq_true, Bool.or_false, Bool.false_or, Bool.or_true, Bool.true_or, if_true, if_false, true_and, and_true, true_or, or_true, false_or, or_false, eq_self, and_self, z_up_i, Nat.add_left_cancel_iff, Nat.left_eq_add, Nat.add_eq_left, reduceCtorEq, Nat.add_one_ne_zero, z_tt, implies_true, zn_0, zn_1, zo_0, zo_1, dX2_isLike_0, dX2_isLike_1, dX2_isLike_4, dX2_isLike_5, dX2_isLike_8, dX2_isLike_11, dX2_isLike_12, dX2_isLike_13, dX2_isLike_14, dX2_isLike_15, dX2_isLike_16, dX2_isLike_17, dX2_isLike_20, dX2_isLike_23, dX2_isLike_24, dX2_isLike_25, dX2_isLike_28, dX2_isLike_29, dX2_isLike_30, dX2_isLike_33, dX2_isLike_36, dX2_isLike_37, dX2_isLike_38, dX2_isLike_41, dX2_isLike_44, dX2_isLike_45, zf_2_21, zi_0, zi_1]
  refine ⟨fun c1 => ?_, fun c1 => ?_⟩
  · exact loop ((nI_eq (by omega) (by omega)).mp c1) w.length 0 (by omega) (by simp)
  · refine ⟨?_, rfl⟩
    rw [if_neg]
    intro e
    subst e
    exact c1 rfl

set_option maxRecDepth 100000 in
set_option maxHeartbeats 4000000 in
theorem c_comesAgainAfter {l : Launch} {E : zE} {d : Nat} {M : zH} {r cap : Nat} {w : List Int32} (k : Nat) (hk : k ≤ w.length) (h : z_row M r cap w) : nX2_comesAgainAfter l E (d + 1) [.ref r, .int (nI k)] M (z_i fun v M' => (v = 0 ∨ v = 1) ∧ (v = 1 ↔ ∀ i, k ≤ i → i < w.length → w[i]? = w[i - k]?) ∧ M' = M) := by
  refine z_cn 2 fun P z C => ?_
  have hcap := h.le
  have hob := h.ob
  have loop : ∀ (n i : Nat), i + n = w.length → k ≤ i → (∀ j, k ≤ j → j < i → w[j]? = w[j - k]?) → P (M, z, 0, 0) 2 [some (.ref r), some (.int (nI k)), some (.int (nI i))] [] := by
    intro n
    induction n with
    | zero =>
      intro i hi hki ht
      refine z_run C [] 10 ?_
      simp only [z_x, z_n, z_stop, z_mem, z_ldi, z_lda, z_sto, z_s1, z_s2, z_sa, z_sv, z_br, z_bn, z_ob, z_ar, z_aq, z_al, z_rt, z_ra, z_at, z_st, z_K0i, z_K0v, zk_0, zk_1, zk_2, zk_3, z_lv, List.map_cons, List.map_nil, List.length_cons, List.length_nil, List.replicate, List.cons_append, List.nil_append, Nat.reduceAdd, Nat.reduceSub, Nat.reduceBEq, Nat.reduceEqDiff, Nat.reduceLT, Nat.reduceLeDiff, Nat.zero_add, Int.cast_ofNat_Int, Int.reduceAdd, Int.reduceNeg, Int.reduceToNat, Int.reduceLE, Int.zero_add, Int.toNat_zero, Int.add_zero, Int.add_neg_cancel_right, Fin.isValue, Int32.reduceOfInt, ↓reduceIte, Bool.false_eq_true, Bool.or_false, Bool.false_or, Bool.or_true, Bool.true_or, if_true, if_false, true_and, and_true, true_or, or_true, false_or, or_false, eq_self, and_self, z_up_i, Nat.add_left_cancel_iff, Nat.left_eq_add, Nat.add_eq_left, reduceCtorEq, Nat.add_one_ne_zero, z_tt, implies_true, zn_0, zn_1, zo_0, zo_1, dX2_comesAgainAfter_0, dX2_comesAgainAfter_1, dX2_comesAgainAfter_2, dX2_comesAgainAfter_3, dX2_comesAgainAfter_4, dX2_comesAgainAfter_7, dX2_comesAgainAfter_10, dX2_comesAgainAfter_11, dX2_comesAgainAfter_12, dX2_comesAgainAfter_15, dX2_comesAgainAfter_16, dX2_comesAgainAfter_17, dX2_comesAgainAfter_18, dX2_comesAgainAfter_19, dX2_comesAgainAfter_22, dX2_comesAgainAfter_25, dX2_comesAgainAfter_26, dX2_comesAgainAfter_27, dX2_comesAgainAfter_30, dX2_comesAgainAfter_33, dX2_comesAgainAfter_34, zf_2_21, zi_0, zi_1, hob]
      refine ⟨fun _ => ⟨Or.inr rfl, ⟨fun _ => ?_, fun _ => rfl⟩, rfl⟩, fun c1 => absurd (nI_le (by omega) (by omega)) c1⟩
      intro j h1 h2
      exact ht j h1 (by omega)
    | succ n ih =>
      intro i hi hki ht
      refine z_run C [] 10 ?_
      simp only [z_x, z_n, z_stop, z_mem, z_ldi, z_lda, z_sto, z_s1, z_s2, z_sa, z_sv, z_br, z_bn, z_ob, z_ar, z_aq, z_al, z_rt, z_ra, z_at, z_st, z_K0i, z_K0v, zk_0, zk_1, zk_2, zk_3, z_lv, List.map_cons, List.map_nil, List.length_cons, List.length_nil, List.replicate, List.cons_append, List.nil_append, Nat.reduceAdd, Nat.reduceSub, Nat.reduceBEq, Nat.reduceEqDiff, Nat.reduceLT, Nat.reduceLeDiff, Nat.zero_add, Int.cast_ofNat_Int, Int.reduceAdd, Int.reduceNeg, Int.reduceToNat, Int.reduceLE, Int.zero_add, Int.toNat_zero, Int.add_zero, Int.add_neg_cancel_right, Fin.isValue, Int32.reduceOfInt, ↓reduceIte, Bool.false_eq_true, Bool.or_false, Bool.false_or, Bool.or_true, Bool.true_or, if_true, if_false, true_and, and_true, true_or, or_true, false_or, or_false, eq_self, and_self, z_up_i, Nat.add_left_cancel_iff, Nat.left_eq_add, Nat.add_eq_left, reduceCtorEq, Nat.add_one_ne_zero, z_tt, implies_true, zn_0, zn_1, zo_0, zo_1, dX2_comesAgainAfter_0, dX2_comesAgainAfter_1, dX2_comesAgainAfter_2, dX2_comesAgainAfter_3, dX2_comesAgainAfter_4, dX2_comesAgainAfter_7, dX2_comesAgainAfter_10, dX2_comesAgainAfter_11, dX2_comesAgainAfter_12, dX2_comesAgainAfter_15, dX2_comesAgainAfter_16, dX2_comesAgainAfter_17, dX2_comesAgainAfter_18, dX2_comesAgainAfter_19, dX2_comesAgainAfter_22, dX2_comesAgainAfter_25, dX2_comesAgainAfter_26, dX2_comesAgainAfter_27, dX2_comesAgainAfter_30, dX2_comesAgainAfter_33, dX2_comesAgainAfter_34, zf_2_21, zi_0, zi_1, hob]
      refine ⟨fun c1 => absurd ((nI_leI (by omega) (by omega)).mp c1) (by omega), fun _ => ?_⟩
      refine z_vi C dX2_comesAgainAfter_12 lk_2_28 (c_get (nI i) h) rfl h.ob (fun v M2 hv => ?_)
      obtain ⟨rfl, rfl⟩ := hv
      refine z_run C [] 4 ?_
      simp only [z_x, z_n, z_stop, z_mem, z_ldi, z_lda, z_sto, z_s1, z_s2, z_sa, z_sv, z_br, z_bn, z_ob, z_ar, z_aq, z_al, z_rt, z_ra, z_at, z_st, z_K0i, z_K0v, zk_0, zk_1, zk_2, zk_3, z_lv, List.map_cons, List.map_nil, List.length_cons, List.length_nil, List.replicate, List.cons_append, List.nil_append, Nat.reduceAdd, Nat.reduceSub, Nat.reduceBEq, Nat.reduceEqDiff, Nat.reduceLT, Nat.reduceLeDiff, Nat.zero_add, Int.cast_ofNat_Int, Int.reduceAdd, Int.reduceNeg, Int.reduceToNat, Int.reduceLE, Int.zero_add, Int.toNat_zero, Int.add_zero, Int.add_neg_cancel_right, Fin.isValue, Int32.reduceOfInt, ↓reduceIte, Bool.false_eq_true, Bool.or_false, Bool.false_or, Bool.or_true, Bool.true_or, if_true, if_false, true_and, and_true, true_or, or_true, false_or, or_false, eq_self, and_self, z_up_i, Nat.add_left_cancel_iff, Nat.left_eq_add, Nat.add_eq_left, reduceCtorEq, Nat.add_one_ne_zero, z_tt, implies_true, zn_0, zn_1, zo_0, zo_1, dX2_comesAgainAfter_0, dX2_comesAgainAfter_1, dX2_comesAgainAfter_2, dX2_comesAgainAfter_3, dX2_comesAgainAfter_4, dX2_comesAgainAfter_7, dX2_comesAgainAfter_10, dX2_comesAgainAfter_11, dX2_comesAgainAfter_12, dX2_comesAgainAfter_15, dX2_comesAgainAfter_16, dX2_comesAgainAfter_17, dX2_comesAgainAfter_18, dX2_comesAgainAfter_19, dX2_comesAgainAfter_22, dX2_comesAgainAfter_25, dX2_comesAgainAfter_26, dX2_comesAgainAfter_27, dX2_comesAgainAfter_30, dX2_comesAgainAfter_33, dX2_comesAgainAfter_34, zf_2_21, zi_0, zi_1]
      rw [pk_sub hki]
      refine z_vi C dX2_comesAgainAfter_19 lk_2_28 (c_get (nI (i - k)) h) rfl h.ob (fun v M2 hv => ?_)
      obtain ⟨rfl, rfl⟩ := hv
      refine z_run C [2] 5 ?_
      simp only [z_x, z_n, z_stop, z_mem, z_ldi, z_lda, z_sto, z_s1, z_s2, z_sa, z_sv, z_br, z_bn, z_ob, z_ar, z_aq, z_al, z_rt, z_ra, z_at, z_st, z_K0i, z_K0v, zk_0, zk_1, zk_2, zk_3, z_lv, List.map_cons, List.map_nil, List.length_cons, List.length_nil, List.replicate, List.cons_append, List.nil_append, Nat.reduceAdd, Nat.reduceSub, Nat.reduceBEq, Nat.reduceEqDiff, Nat.reduceLT, Nat.reduceLeDiff, Nat.zero_add, Int.cast_ofNat_Int, Int.reduceAdd, Int.reduceNeg, Int.reduceToNat, Int.reduceLE, Int.zero_add, Int.toNat_zero, Int.add_zero, Int.add_neg_cancel_right, Fin.isValue, Int32.reduceOfInt, ↓reduceIte, Bool.false_eq_true, Bool.or_false, Bool.false_or, Bool.or_true, Bool.true_or, if_true, if_false, true_and, and_true, true_or, or_true, false_or, or_false, eq_self, and_self, z_up_i, Nat.add_left_cancel_iff, Nat.left_eq_add, Nat.add_eq_left, reduceCtorEq, Nat.add_one_ne_zero, z_tt, implies_true, zn_0, zn_1, zo_0, zo_1, dX2_comesAgainAfter_0, dX2_comesAgainAfter_1, dX2_comesAgainAfter_2, dX2_comesAgainAfter_3, dX2_comesAgainAfter_4, dX2_comesAgainAfter_7, dX2_comesAgainAfter_10, dX2_comesAgainAfter_11, dX2_comesAgainAfter_12, dX2_comesAgainAfter_15, dX2_comesAgainAfter_16, dX2_comesAgainAfter_17, dX2_comesAgainAfter_18, dX2_comesAgainAfter_19, dX2_comesAgainAfter_22, dX2_comesAgainAfter_25, dX2_comesAgainAfter_26, dX2_comesAgainAfter_27, dX2_comesAgainAfter_30, dX2_comesAgainAfter_33, dX2_comesAgainAfter_34, zf_2_21, zi_0, zi_1]
      rw [z_get_nI (by omega), z_get_nI (by omega), z_ty_get (by omega), z_ty_get (by omega), nI_1]
      refine ⟨fun c1 => ?_, fun c1 => ?_⟩
      · refine ih (i + 1) (by omega) (by omega) (fun j h1 h2 => ?_)
        by_cases hji : j = i
        · subst hji
          rw [List.getElem?_eq_getElem (by omega), List.getElem?_eq_getElem (by omega), c1]
        · exact ht j h1 (by omega)
      · refine ⟨Or.inl rfl, ⟨fun hc => absurd hc (by decide), fun hh => ?_⟩, rfl⟩
        have h7 := hh i hki (by omega)
        rw [List.getElem?_eq_getElem (by omega), List.getElem?_eq_getElem (by omega)] at h7
        exact absurd (Option.some.inj h7) c1
  refine z_run C [2] 3 ?_
  simp only [z_x, z_n, z_stop, z_mem, z_ldi, z_lda, z_sto, z_s1, z_s2, z_sa, z_sv, z_br, z_bn, z_ob, z_ar, z_aq, z_al, z_rt, z_ra, z_at, z_st, z_K0i, z_K0v, zk_0, zk_1, zk_2, zk_3, z_lv, List.map_cons, List.map_nil, List.length_cons, List.length_nil, List.replicate, List.cons_append, List.nil_append, Nat.reduceAdd, Nat.reduceSub, Nat.reduceBEq, Nat.reduceEqDiff, Nat.reduceLT, Nat.reduceLeDiff, Nat.zero_add, Int.cast_ofNat_Int, Int.reduceAdd, Int.reduceNeg, Int.reduceToNat, Int.reduceLE, Int.zero_add, Int.toNat_zero, Int.add_zero, Int.add_neg_cancel_right, Fin.isValue, Int32.reduceOfInt, ↓reduceIte, Bool.false_eq_true, Bool.or_false, Bool.false_or, Bool.or_true, Bool.true_or, if_true, if_false, true_and, and_true, true_or, or_true, false_or, or_false, eq_self, and_self, z_up_i, Nat.add_left_cancel_iff, Nat.left_eq_add, Nat.add_eq_left, reduceCtorEq, Nat.add_one_ne_zero, z_tt, implies_true, zn_0, zn_1, zo_0, zo_1, dX2_comesAgainAfter_0, dX2_comesAgainAfter_1, dX2_comesAgainAfter_2, dX2_comesAgainAfter_3, dX2_comesAgainAfter_4, dX2_comesAgainAfter_7, dX2_comesAgainAfter_10, dX2_comesAgainAfter_11, dX2_comesAgainAfter_12, dX2_comesAgainAfter_15, dX2_comesAgainAfter_16, dX2_comesAgainAfter_17, dX2_comesAgainAfter_18, dX2_comesAgainAfter_19, dX2_comesAgainAfter_22, dX2_comesAgainAfter_25, dX2_comesAgainAfter_26, dX2_comesAgainAfter_27, dX2_comesAgainAfter_30, dX2_comesAgainAfter_33, dX2_comesAgainAfter_34, zf_2_21, zi_0, zi_1]
  exact loop (w.length - k) k (by omega) (by omega) (fun j h1 h2 => by omega)

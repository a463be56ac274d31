set_option maxRecDepth 100000 in
set_option maxHeartbeats 8000000 in
theorem d_work {l : Launch} {E : zE} {d y : Nat} {M : zH} {pad : List Nat} {wk : Nat → List Nat} {im : Nat → Nat → List Nat} {kept : Nat} {told : Int32} (h : z_md M y pad wk im kept told) (i : Int32) : nX6_work l E (d + 2) [.ref y, .int i] M (z_i fun v M' => v = f_work pad i ∧ z_fp M M' (z_mA y) ∧ z_md M' y (p_work pad i) (w_work pad wk i) im kept (t_work pad told i)) := by
  refine z_cn 6 fun P z C => ?_
  obtain ⟨⟨lm, fm, sm, ho⟩, hmc, hs, hi⟩ := id h
  obtain ⟨⟨f, hf, hst⟩, hc2, hc3, hpl, ⟨p, hp1, hp2⟩⟩ := id hmc
  refine z_run C [] 1 ?_
  simp only [z_x, z_n, z_stop, z_mem, z_ldi, z_lda, z_sto, z_s1, z_s2, z_sa, z_sv, z_br, z_bn, z_ob, z_ar, z_aq, z_al, z_rt, z_ra, z_at, z_st, z_K0i, z_K0v, zk_0, zk_1, zk_2, zk_3, z_lv, List.map_cons, List.map_nil, List.length_cons, List.length_nil, List.replicate, List.cons_append, List.nil_append, Nat.reduceAdd, Nat.reduceSub, Nat.reduceBEq, Nat.reduceEqDiff, Nat.reduceLT, Nat.reduceLeDiff, Nat.zero_add, Int.cast_ofNat_Int, Int.reduceAdd, Int.reduceNeg, Int.reduceToNat, Int.reduceLE, Int.zero_add, Int.toNat_zero, Int.add_zero, Int.add_neg_cancel_right, Fin.isValue, Int32.reduceOfInt, ↓reduceIte, Bool.false_eq_true, Bool.or_false, Bool.false_or, Bool.or_true, Bool.true_or, if_true, if_false, true_and, and_true, true_or, or_true, false_or, or_false, eq_self, and_self, z_up_i, Nat.add_left_cancel_iff, Nat.left_eq_add, Nat.add_eq_left, reduceCtorEq, Nat.add_one_ne_zero, z_tt, implies_true, zn_0, zn_1, zo_0, zo_1, dX6_work_0, dX6_work_1, dX6_work_4, dX6_work_7, dX6_work_8, dX6_work_9, dX6_work_10, dX6_work_13, dX6_work_14, dX6_work_15, dX6_work_18, dX6_work_19, dX6_work_20, dX6_work_23, dX6_work_25, dX6_work_26, dX6_work_27, dX6_work_30, dX6_work_31, dX6_work_32, dX6_work_35, dX6_work_37, dX6_work_38, dX6_work_39, dX6_work_40, dX6_work_43, dX6_work_44, dX6_work_45, dX6_work_46, dX6_work_49, zb_m4, zb_m7, zf_6_23, zf_6_61, zi_0, zi_m1, zt_6_4, zt_6_5]
  refine z_si C dX6_work_1 lk_6_71 (d_isWork i) rfl (fun v M2 hv => ?_)
  obtain ⟨hv, rfl⟩ := hv
  rcases hv with ⟨rfl, k, hk, rfl⟩ | ⟨rfl, hb⟩
  rotate_left
  · refine z_run C [] 5 ?_
    simp only [z_x, z_n, z_stop, z_mem, z_ldi, z_lda, z_sto, z_s1, z_s2, z_sa, z_sv, z_br, z_bn, z_ob, z_ar, z_aq, z_al, z_rt, z_ra, z_at, z_st, z_K0i, z_K0v, zk_0, zk_1, zk_2, zk_3, z_lv, List.map_cons, List.map_nil, List.length_cons, List.length_nil, List.replicate, List.cons_append, List.nil_append, Nat.reduceAdd, Nat.reduceSub, Nat.reduceBEq, Nat.reduceEqDiff, Nat.reduceLT, Nat.reduceLeDiff, Nat.zero_add, Int.cast_ofNat_Int, Int.reduceAdd, Int.reduceNeg, Int.reduceToNat, Int.reduceLE, Int.zero_add, Int.toNat_zero, Int.add_zero, Int.add_neg_cancel_right, Fin.isValue, Int32.reduceOfInt, ↓reduceIte, Bool.false_eq_true, Bool.or_false, Bool.false_or, Bool.or_true, Bool.true_or, if_true, if_false, true_and, and_true, true_or, or_true, false_or, or_false, eq_self, and_self, z_up_i, Nat.add_left_cancel_iff, Nat.left_eq_add, Nat.add_eq_left, reduceCtorEq, Nat.add_one_ne_zero, z_tt, implies_true, zn_0, zn_1, zo_0, zo_1, dX6_work_0, dX6_work_1, dX6_work_4, dX6_work_7, dX6_work_8, dX6_work_9, dX6_work_10, dX6_work_13, dX6_work_14, dX6_work_15, dX6_work_18, dX6_work_19, dX6_work_20, dX6_work_23, dX6_work_25, dX6_work_26, dX6_work_27, dX6_work_30, dX6_work_31, dX6_work_32, dX6_work_35, dX6_work_37, dX6_work_38, dX6_work_39, dX6_work_40, dX6_work_43, dX6_work_44, dX6_work_45, dX6_work_46, dX6_work_49, zb_m4, zb_m7, zf_6_23, zf_6_61, zi_0, zi_m1, zt_6_4, zt_6_5]
    refine ⟨fun _ => ⟨by rw [f_work, f_w_bad hb], z_fp.rf, ?_⟩, fun c => absurd trivial c⟩
    rw [p_work, if_neg (fun q => q.1 hb), w_work, if_neg (fun q => q.1 hb), t_work, if_neg (fun q => q.1 hb)]
    exact h
  have hnb := f_ok hk
  rw [f_work, f_w_ok hk] at C
  refine z_run C [] 5 ?_
  simp only [z_x, z_n, z_stop, z_mem, z_ldi, z_lda, z_sto, z_s1, z_s2, z_sa, z_sv, z_br, z_bn, z_ob, z_ar, z_aq, z_al, z_rt, z_ra, z_at, z_st, z_K0i, z_K0v, zk_0, zk_1, zk_2, zk_3, z_lv, List.map_cons, List.map_nil, List.length_cons, List.length_nil, List.replicate, List.cons_append, List.nil_append, Nat.reduceAdd, Nat.reduceSub, Nat.reduceBEq, Nat.reduceEqDiff, Nat.reduceLT, Nat.reduceLeDiff, Nat.zero_add, Int.cast_ofNat_Int, Int.reduceAdd, Int.reduceNeg, Int.reduceToNat, Int.reduceLE, Int.zero_add, Int.toNat_zero, Int.add_zero, Int.add_neg_cancel_right, Fin.isValue, Int32.reduceOfInt, ↓reduceIte, Bool.false_eq_true, Bool.or_false, Bool.false_or, Bool.or_true, Bool.true_or, if_true, if_false, true_and, and_true, true_or, or_true, false_or, or_false, eq_self, and_self, z_up_i, Nat.add_left_cancel_iff, Nat.left_eq_add, Nat.add_eq_left, reduceCtorEq, Nat.add_one_ne_zero, z_tt, implies_true, zn_0, zn_1, zo_0, zo_1, dX6_work_0, dX6_work_1, dX6_work_4, dX6_work_7, dX6_work_8, dX6_work_9, dX6_work_10, dX6_work_13, dX6_work_14, dX6_work_15, dX6_work_18, dX6_work_19, dX6_work_20, dX6_work_23, dX6_work_25, dX6_work_26, dX6_work_27, dX6_work_30, dX6_work_31, dX6_work_32, dX6_work_35, dX6_work_37, dX6_work_38, dX6_work_39, dX6_work_40, dX6_work_43, dX6_work_44, dX6_work_45, dX6_work_46, dX6_work_49, zb_m4, zb_m7, zf_6_23, zf_6_61, zi_0, zi_m1, zt_6_4, zt_6_5]
  refine ⟨fun c => absurd c (by decide), fun _ => ?_⟩
  refine z_vi C dX6_work_10 lk_6_75 (d_fault h) rfl ho (fun v M3 hv => ?_)
  obtain ⟨rfl, rfl⟩ := hv
  have hfl : f_fault pad = -6 ∨ ∃ q, q ≤ 0 + pad.length ∧ f_fault pad = nI q := (m_fl_wf pad 0 0 false (by omega)).2
  have ho' := ho
  unfold z_mo at ho'
  by_cases c1 : f_fault pad = -6
  · obtain ⟨hwf, hst15⟩ := m_stp_ok c1 hpl
    have et : t_work pad told (nI k) = told := by rw [t_work, if_neg (fun q => q.2 c1)]
    rw [c1]
    refine z_run C [] 6 ?_
    simp only [z_x, z_n, z_stop, z_mem, z_ldi, z_lda, z_sto, z_s1, z_s2, z_sa, z_sv, z_br, z_bn, z_ob, z_ar, z_aq, z_al, z_rt, z_ra, z_at, z_st, z_K0i, z_K0v, zk_0, zk_1, zk_2, zk_3, z_lv, List.map_cons, List.map_nil, List.length_cons, List.length_nil, List.replicate, List.cons_append, List.nil_append, Nat.reduceAdd, Nat.reduceSub, Nat.reduceBEq, Nat.reduceEqDiff, Nat.reduceLT, Nat.reduceLeDiff, Nat.zero_add, Int.cast_ofNat_Int, Int.reduceAdd, Int.reduceNeg, Int.reduceToNat, Int.reduceLE, Int.zero_add, Int.toNat_zero, Int.add_zero, Int.add_neg_cancel_right, Fin.isValue, Int32.reduceOfInt, ↓reduceIte, Bool.false_eq_true, Bool.or_false, Bool.false_or, Bool.or_true, Bool.true_or, if_true, if_false, true_and, and_true, true_or, or_true, false_or, or_false, eq_self, and_self, z_up_i, Nat.add_left_cancel_iff, Nat.left_eq_add, Nat.add_eq_left, reduceCtorEq, Nat.add_one_ne_zero, z_tt, implies_true, zn_0, zn_1, zo_0, zo_1, dX6_work_0, dX6_work_1, dX6_work_4, dX6_work_7, dX6_work_8, dX6_work_9, dX6_work_10, dX6_work_13, dX6_work_14, dX6_work_15, dX6_work_18, dX6_work_19, dX6_work_20, dX6_work_23, dX6_work_25, dX6_work_26, dX6_work_27, dX6_work_30, dX6_work_31, dX6_work_32, dX6_work_35, dX6_work_37, dX6_work_38, dX6_work_39, dX6_work_40, dX6_work_43, dX6_work_44, dX6_work_45, dX6_work_46, dX6_work_49, zb_m4, zb_m7, zf_6_23, zf_6_61, zi_0, zi_m1, zt_6_4, zt_6_5]
    refine ⟨fun _ => ?_, fun c => absurd (by decide) c⟩
    refine z_vi C dX6_work_27 lk_6_79 (d_unfold ho hpl hp1 hp2 (fun c hc => by have := hi.1 c hc; omega) hs hwf) rfl ho (fun v M4 hv => ?_)
    obtain ⟨w, B, T, ⟨u1, u2, u3, u4, ⟨m, u6, u7⟩⟩, hv⟩ := hv
    have ho4 : z_mo M4 y (nI pad.length) told lm fm sm := (u1 _ (by omega)).trans ho
    rcases hv with ⟨hv1, rfl, rfl⟩ | ⟨hv1, rfl⟩
    · have ew : b_work pad (nI k) := ⟨hnb, c1, hv1⟩
      have ho4' := ho4
      unfold z_mo at ho4'
      refine z_run C [] 10 ?_
      simp only [z_x, z_n, z_stop, z_mem, z_ldi, z_lda, z_sto, z_s1, z_s2, z_sa, z_sv, z_br, z_bn, z_ob, z_ar, z_aq, z_al, z_rt, z_ra, z_at, z_st, z_K0i, z_K0v, zk_0, zk_1, zk_2, zk_3, z_lv, List.map_cons, List.map_nil, List.length_cons, List.length_nil, List.replicate, List.cons_append, List.nil_append, Nat.reduceAdd, Nat.reduceSub, Nat.reduceBEq, Nat.reduceEqDiff, Nat.reduceLT, Nat.reduceLeDiff, Nat.zero_add, Int.cast_ofNat_Int, Int.reduceAdd, Int.reduceNeg, Int.reduceToNat, Int.reduceLE, Int.zero_add, Int.toNat_zero, Int.add_zero, Int.add_neg_cancel_right, Fin.isValue, Int32.reduceOfInt, ↓reduceIte, Bool.false_eq_true, Bool.or_false, Bool.false_or, Bool.or_true, Bool.true_or, if_true, if_false, true_and, and_true, true_or, or_true, false_or, or_false, eq_self, and_self, z_up_i, Nat.add_left_cancel_iff, Nat.left_eq_add, Nat.add_eq_left, reduceCtorEq, Nat.add_one_ne_zero, z_tt, implies_true, zn_0, zn_1, zo_0, zo_1, dX6_work_0, dX6_work_1, dX6_work_4, dX6_work_7, dX6_work_8, dX6_work_9, dX6_work_10, dX6_work_13, dX6_work_14, dX6_work_15, dX6_work_18, dX6_work_19, dX6_work_20, dX6_work_23, dX6_work_25, dX6_work_26, dX6_work_27, dX6_work_30, dX6_work_31, dX6_work_32, dX6_work_35, dX6_work_37, dX6_work_38, dX6_work_39, dX6_work_40, dX6_work_43, dX6_work_44, dX6_work_45, dX6_work_46, dX6_work_49, zb_m4, zb_m7, zf_6_23, zf_6_61, zi_0, zi_m1, zt_6_4, zt_6_5, ho4']
      refine ⟨fun _ => ?_, fun c => absurd (nI_pos' (by omega)) c⟩
      generalize hM5 : z_up M4 y _ = M5
      have hf5 : z_fp M4 M5 (fun q => q = y) := fun q hq => by rw [← hM5, z_up_n hq]
      have ho5 : z_mo M5 y (nI 0) told lm fm sm := by unfold z_mo; rw [← hM5, z_up_s]; rfl
      have hf1 : z_ia M5 (y + 1) 244 f := (hf5 _ (by omega)).trans ((u1 _ (by omega)).trans hf)
      have h75 : z_ia M5 (y + 7) 60 m := (hf5 _ (by omega)).trans u6
      refine z_vi C dX6_work_46 lk_6_82 (d_take ho5 hf1 hst h75 hk hv1 u7) rfl ho5 (fun v M6 hv => ?_)
      obtain ⟨rfl, x1, f6, x2, x3⟩ := hv
      refine z_run C [] 2 ?_
      simp only [z_x, z_n, z_stop, z_mem, z_ldi, z_lda, z_sto, z_s1, z_s2, z_sa, z_sv, z_br, z_bn, z_ob, z_ar, z_aq, z_al, z_rt, z_ra, z_at, z_st, z_K0i, z_K0v, zk_0, zk_1, zk_2, zk_3, z_lv, List.map_cons, List.map_nil, List.length_cons, List.length_nil, List.replicate, List.cons_append, List.nil_append, Nat.reduceAdd, Nat.reduceSub, Nat.reduceBEq, Nat.reduceEqDiff, Nat.reduceLT, Nat.reduceLeDiff, Nat.zero_add, Int.cast_ofNat_Int, Int.reduceAdd, Int.reduceNeg, Int.reduceToNat, Int.reduceLE, Int.zero_add, Int.toNat_zero, Int.add_zero, Int.add_neg_cancel_right, Fin.isValue, Int32.reduceOfInt, ↓reduceIte, Bool.false_eq_true, Bool.or_false, Bool.false_or, Bool.or_true, Bool.true_or, if_true, if_false, true_and, and_true, true_or, or_true, false_or, or_false, eq_self, and_self, z_up_i, Nat.add_left_cancel_iff, Nat.left_eq_add, Nat.add_eq_left, reduceCtorEq, Nat.add_one_ne_zero, z_tt, implies_true, zn_0, zn_1, zo_0, zo_1, dX6_work_0, dX6_work_1, dX6_work_4, dX6_work_7, dX6_work_8, dX6_work_9, dX6_work_10, dX6_work_13, dX6_work_14, dX6_work_15, dX6_work_18, dX6_work_19, dX6_work_20, dX6_work_23, dX6_work_25, dX6_work_26, dX6_work_27, dX6_work_30, dX6_work_31, dX6_work_32, dX6_work_35, dX6_work_37, dX6_work_38, dX6_work_39, dX6_work_40, dX6_work_43, dX6_work_44, dX6_work_45, dX6_work_46, dX6_work_49, zb_m4, zb_m7, zf_6_23, zf_6_61, zi_0, zi_m1, zt_6_4, zt_6_5]
      have hall : z_fp M3 M6 (fun q => q = y ∨ q = y + 1 ∨ q = y + 5 ∨ q = y + 6 ∨ q = y + 7) := ((u1.sub (fun q hq => by omega)).tr (hf5.sub (fun q hq => by omega))).tr (x1.sub (fun q hq => by omega))
      have hkp : z_kp M3 M6 y := (u2.tr (z_kp.fp hf5 (fun q _ _ => by omega))).tr (z_kp.fp x1 (fun q _ _ => by omega))
      refine ⟨?_, hall.sub (fun q hq => by unfold z_mA; omega), ?_⟩
      · rw [if_neg (fun q => q c1), if_neg (Nat.not_lt.mpr hv1)]
      · rw [p_work, if_pos ew, w_work, if_pos ew, et, f_cl hk]
        have hi5 := hi.set (k := k) hst15
        refine ⟨⟨lm, fm, sm, (x1 _ (by omega)).trans ho5⟩, ⟨⟨f6, x2, x3⟩, ?_, ?_, by simp, p, (hall _ (by omega)).trans hp1, fun i hi => by simp at hi⟩, hs.kp hkp, fun c hc => by simp at hc, hi5.2⟩
        · obtain ⟨g, g1, g2⟩ := hc2; exact ⟨g, (hall _ (by omega)).trans g1, g2⟩
        · obtain ⟨g, g1, g2⟩ := hc3; exact ⟨g, (hall _ (by omega)).trans g1, g2⟩
    · have ew : ¬ b_work pad (nI k) := fun q => absurd q.2.2 (Nat.not_le.mpr hv1)
      have hq : z_mq M3 M4 y (nI pad.length) told := ⟨u1.sub (fun q hq => by omega), u2, _, _, _, ho4⟩
      refine z_run C [] 6 ?_
      simp only [z_x, z_n, z_stop, z_mem, z_ldi, z_lda, z_sto, z_s1, z_s2, z_sa, z_sv, z_br, z_bn, z_ob, z_ar, z_aq, z_al, z_rt, z_ra, z_at, z_st, z_K0i, z_K0v, zk_0, zk_1, zk_2, zk_3, z_lv, List.map_cons, List.map_nil, List.length_cons, List.length_nil, List.replicate, List.cons_append, List.nil_append, Nat.reduceAdd, Nat.reduceSub, Nat.reduceBEq, Nat.reduceEqDiff, Nat.reduceLT, Nat.reduceLeDiff, Nat.zero_add, Int.cast_ofNat_Int, Int.reduceAdd, Int.reduceNeg, Int.reduceToNat, Int.reduceLE, Int.zero_add, Int.toNat_zero, Int.add_zero, Int.add_neg_cancel_right, Fin.isValue, Int32.reduceOfInt, ↓reduceIte, Bool.false_eq_true, Bool.or_false, Bool.false_or, Bool.or_true, Bool.true_or, if_true, if_false, true_and, and_true, true_or, or_true, false_or, or_false, eq_self, and_self, z_up_i, Nat.add_left_cancel_iff, Nat.left_eq_add, Nat.add_eq_left, reduceCtorEq, Nat.add_one_ne_zero, z_tt, implies_true, zn_0, zn_1, zo_0, zo_1, dX6_work_0, dX6_work_1, dX6_work_4, dX6_work_7, dX6_work_8, dX6_work_9, dX6_work_10, dX6_work_13, dX6_work_14, dX6_work_15, dX6_work_18, dX6_work_19, dX6_work_20, dX6_work_23, dX6_work_25, dX6_work_26, dX6_work_27, dX6_work_30, dX6_work_31, dX6_work_32, dX6_work_35, dX6_work_37, dX6_work_38, dX6_work_39, dX6_work_40, dX6_work_43, dX6_work_44, dX6_work_45, dX6_work_46, dX6_work_49, zb_m4, zb_m7, zf_6_23, zf_6_61, zi_0, zi_m1, zt_6_4, zt_6_5]
      refine ⟨fun c => absurd c (by decide), fun _ => ⟨?_, hq.A, ?_⟩⟩
      · rw [if_neg (fun q => q c1), if_pos hv1]
      · rw [p_work, if_neg ew, w_work, if_neg ew, et]
        exact h.q hq
  · have ew : ¬ b_work pad (nI k) := fun q => c1 q.2.1
    have et : t_work pad told (nI k) = f_fault pad := by rw [t_work, if_pos ⟨hnb, c1⟩]
    obtain ⟨q, hq1, hq2⟩ := hfl.resolve_left c1
    have hpos : ¬ f_fault pad < 0 := by rw [hq2]; exact nI_pos (by omega)
    refine z_run C [] 10 ?_
    simp only [z_x, z_n, z_stop, z_mem, z_ldi, z_lda, z_sto, z_s1, z_s2, z_sa, z_sv, z_br, z_bn, z_ob, z_ar, z_aq, z_al, z_rt, z_ra, z_at, z_st, z_K0i, z_K0v, zk_0, zk_1, zk_2, zk_3, z_lv, List.map_cons, List.map_nil, List.length_cons, List.length_nil, List.replicate, List.cons_append, List.nil_append, Nat.reduceAdd, Nat.reduceSub, Nat.reduceBEq, Nat.reduceEqDiff, Nat.reduceLT, Nat.reduceLeDiff, Nat.zero_add, Int.cast_ofNat_Int, Int.reduceAdd, Int.reduceNeg, Int.reduceToNat, Int.reduceLE, Int.zero_add, Int.toNat_zero, Int.add_zero, Int.add_neg_cancel_right, Fin.isValue, Int32.reduceOfInt, ↓reduceIte, Bool.false_eq_true, Bool.or_false, Bool.false_or, Bool.or_true, Bool.true_or, if_true, if_false, true_and, and_true, true_or, or_true, false_or, or_false, eq_self, and_self, z_up_i, Nat.add_left_cancel_iff, Nat.left_eq_add, Nat.add_eq_left, reduceCtorEq, Nat.add_one_ne_zero, z_tt, implies_true, zn_0, zn_1, zo_0, zo_1, dX6_work_0, dX6_work_1, dX6_work_4, dX6_work_7, dX6_work_8, dX6_work_9, dX6_work_10, dX6_work_13, dX6_work_14, dX6_work_15, dX6_work_18, dX6_work_19, dX6_work_20, dX6_work_23, dX6_work_25, dX6_work_26, dX6_work_27, dX6_work_30, dX6_work_31, dX6_work_32, dX6_work_35, dX6_work_37, dX6_work_38, dX6_work_39, dX6_work_40, dX6_work_43, dX6_work_44, dX6_work_45, dX6_work_46, dX6_work_49, zb_m4, zb_m7, zf_6_23, zf_6_61, zi_0, zi_m1, zt_6_4, zt_6_5, ho']
    refine ⟨fun c => absurd c hpos, fun _ => ?_⟩
    generalize hM5 : z_up M3 y _ = M5
    have hf5 : z_fp M3 M5 (fun q => q = y) := fun q hq => by rw [← hM5, z_up_n hq]
    refine ⟨by rw [if_pos c1], hf5.sub (fun q hq => by unfold z_mA; omega), ?_⟩
    rw [p_work, if_neg ew, w_work, if_neg ew, et]
    exact ⟨⟨lm, fm, sm, by unfold z_mo; rw [← hM5, z_up_s]⟩, hmc.fp hf5 (fun q _ _ => by omega), hs.kp (z_kp.fp hf5 (fun q _ _ => by omega)), hi⟩

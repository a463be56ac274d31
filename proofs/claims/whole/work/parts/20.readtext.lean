set_option maxRecDepth 100000 in
set_option maxHeartbeats 4000000 in
theorem c_readTextS {l : Launch} {E : zE} {D dd b : Nat} {pad : List Nat} (hRP : dd < 3 → ∀ {M : zH} {i s t : Nat} {w0 f1 r : List Nat}, i < pad.length → s < 3 → z_rst M b pad w0 s 0 → m_wf (pad.drop (i + 1)) (dd + 1) false → m_dn (pad.drop (i + 1)) = (f1, 41 :: t :: r) → (49 ≤ t ∧ t ≤ 57) → m_flatok f1 → nX1_readPart l E (D + 4) [.ref (b + 46), .int (nI i), .int (nI dd)] M (z_i fun v M' => z_rp M M' b pad w0 s (m_rep (t - 48) f1) (∃ j, j ≤ pad.length ∧ v = nI j ∧ pad.drop j = r))) (hdd : dd ≤ 3) : z_RT l E (D + 5) dd b pad := by
  intro M i0 s w0 hi0 hs h hw0
  refine z_cn 1 fun P z C => ?_
  have hlen := h.len
  have fin1 : 60 < w0.length + (m_app (m_dn (pad.drop i0)).1 s).length → ∀ (M1 : zH) (w1 : List Nat) (s1 : Nat), z_fp M M1 (z_rA b) → z_rst M1 b pad w1 s1 1 → ∀ v3 : Int32, P (M1, z, 0, 0) 2 [some (.ref (b + 46)), some (.int (nI i0)), some (.int (nI dd)), some (.int v3)] [] := by
    intro hbig M1 w1 s1 hf hst v3
    obtain ⟨g1, g2, g3⟩ := id hst
    refine z_run C [] 3 ?_
    simp only [z_x, z_n, z_stop, z_mem, z_ldi, z_lda, z_sto, z_s1, z_s2, z_sa, z_sv, z_br, z_bn, z_ob, z_ar, z_aq, z_al, z_rt, z_ra, z_at, z_st, z_K0i, z_K0v, zk_0, zk_1, zk_2, zk_3, z_lv, List.map_cons, List.map_nil, List.length_cons, List.length_nil, List.replicate, List.cons_append, List.nil_append, Nat.reduceAdd, Nat.reduceSub, Nat.reduceBEq, Nat.reduceEqDiff, Nat.reduceLT, Nat.reduceLeDiff, Nat.zero_add, Int.cast_ofNat_Int, Int.reduceAdd, Int.reduceNeg, Int.reduceToNat, Int.reduceLE, Int.zero_add, Int.toNat_zero, Int.add_zero, Int.add_neg_cancel_right, Fin.isValue, Int32.reduceOfInt, ↓reduceIte, Bool.false_eq_true, Bool.or_false, Bool.false_or, Bool.or_true, Bool.true_or, if_true, if_false, true_and, and_true, true_or, or_true, false_or, or_false, eq_self, and_self, z_up_i, Nat.add_left_cancel_iff, Nat.left_eq_add, Nat.add_eq_left, reduceCtorEq, Nat.add_one_ne_zero, z_tt, implies_true, zn_0, zn_1, zo_0, zo_1, dX1_readText_0, dX1_readText_1, dX1_readText_2, dX1_readText_3, dX1_readText_4, dX1_readText_7, dX1_readText_10, dX1_readText_13, dX1_readText_14, dX1_readText_17, dX1_readText_20, dX1_readText_21, dX1_readText_24, dX1_readText_25, dX1_readText_28, dX1_readText_30, dX1_readText_33, dX1_readText_34, dX1_readText_37, dX1_readText_38, dX1_readText_41, dX1_readText_43, dX1_readText_46, dX1_readText_47, dX1_readText_48, dX1_readText_49, dX1_readText_50, dX1_readText_51, dX1_readText_52, dX1_readText_55, dX1_readText_58, dX1_readText_59, dX1_readText_62, dX1_readText_63, dX1_readText_64, dX1_readText_67, dX1_readText_68, dX1_readText_71, dX1_readText_74, dX1_readText_77, dX1_readText_80, dX1_readText_81, zb_40, zb_41, zf_1_22, zf_1_9, zi_1, g1]
    refine z_vi C dX1_readText_7 lk_1_26 (c_size g2) rfl g2.ob (fun v M2 hv => ?_)
    obtain ⟨rfl, rfl⟩ := hv
    refine z_run C [] 5 ?_
    simp only [z_x, z_n, z_stop, z_mem, z_ldi, z_lda, z_sto, z_s1, z_s2, z_sa, z_sv, z_br, z_bn, z_ob, z_ar, z_aq, z_al, z_rt, z_ra, z_at, z_st, z_K0i, z_K0v, zk_0, zk_1, zk_2, zk_3, z_lv, List.map_cons, List.map_nil, List.length_cons, List.length_nil, List.replicate, List.cons_append, List.nil_append, Nat.reduceAdd, Nat.reduceSub, Nat.reduceBEq, Nat.reduceEqDiff, Nat.reduceLT, Nat.reduceLeDiff, Nat.zero_add, Int.cast_ofNat_Int, Int.reduceAdd, Int.reduceNeg, Int.reduceToNat, Int.reduceLE, Int.zero_add, Int.toNat_zero, Int.add_zero, Int.add_neg_cancel_right, Fin.isValue, Int32.reduceOfInt, ↓reduceIte, Bool.false_eq_true, Bool.or_false, Bool.false_or, Bool.or_true, Bool.true_or, if_true, if_false, true_and, and_true, true_or, or_true, false_or, or_false, eq_self, and_self, z_up_i, Nat.add_left_cancel_iff, Nat.left_eq_add, Nat.add_eq_left, reduceCtorEq, Nat.add_one_ne_zero, z_tt, implies_true, zn_0, zn_1, zo_0, zo_1, dX1_readText_0, dX1_readText_1, dX1_readText_2, dX1_readText_3, dX1_readText_4, dX1_readText_7, dX1_readText_10, dX1_readText_13, dX1_readText_14, dX1_readText_17, dX1_readText_20, dX1_readText_21, dX1_readText_24, dX1_readText_25, dX1_readText_28, dX1_readText_30, dX1_readText_33, dX1_readText_34, dX1_readText_37, dX1_readText_38, dX1_readText_41, dX1_readText_43, dX1_readText_46, dX1_readText_47, dX1_readText_48, dX1_readText_49, dX1_readText_50, dX1_readText_51, dX1_readText_52, dX1_readText_55, dX1_readText_58, dX1_readText_59, dX1_readText_62, dX1_readText_63, dX1_readText_64, dX1_readText_67, dX1_readText_68, dX1_readText_71, dX1_readText_74, dX1_readText_77, dX1_readText_80, dX1_readText_81, zb_40, zb_41, zf_1_22, zf_1_9, zi_1, g1]
    refine ⟨fun _ => ⟨hf, Or.inr ⟨hbig, w1, s1, hst⟩⟩, fun _ => ⟨fun c => absurd c (by decide), fun _ => ?_⟩⟩
    refine z_run C [] 3 ?_
    simp only [z_x, z_n, z_stop, z_mem, z_ldi, z_lda, z_sto, z_s1, z_s2, z_sa, z_sv, z_br, z_bn, z_ob, z_ar, z_aq, z_al, z_rt, z_ra, z_at, z_st, z_K0i, z_K0v, zk_0, zk_1, zk_2, zk_3, z_lv, List.map_cons, List.map_nil, List.length_cons, List.length_nil, List.replicate, List.cons_append, List.nil_append, Nat.reduceAdd, Nat.reduceSub, Nat.reduceBEq, Nat.reduceEqDiff, Nat.reduceLT, Nat.reduceLeDiff, Nat.zero_add, Int.cast_ofNat_Int, Int.reduceAdd, Int.reduceNeg, Int.reduceToNat, Int.reduceLE, Int.zero_add, Int.toNat_zero, Int.add_zero, Int.add_neg_cancel_right, Fin.isValue, Int32.reduceOfInt, ↓reduceIte, Bool.false_eq_true, Bool.or_false, Bool.false_or, Bool.or_true, Bool.true_or, if_true, if_false, true_and, and_true, true_or, or_true, false_or, or_false, eq_self, and_self, z_up_i, Nat.add_left_cancel_iff, Nat.left_eq_add, Nat.add_eq_left, reduceCtorEq, Nat.add_one_ne_zero, z_tt, implies_true, zn_0, zn_1, zo_0, zo_1, dX1_readText_0, dX1_readText_1, dX1_readText_2, dX1_readText_3, dX1_readText_4, dX1_readText_7, dX1_readText_10, dX1_readText_13, dX1_readText_14, dX1_readText_17, dX1_readText_20, dX1_readText_21, dX1_readText_24, dX1_readText_25, dX1_readText_28, dX1_readText_30, dX1_readText_33, dX1_readText_34, dX1_readText_37, dX1_readText_38, dX1_readText_41, dX1_readText_43, dX1_readText_46, dX1_readText_47, dX1_readText_48, dX1_readText_49, dX1_readText_50, dX1_readText_51, dX1_readText_52, dX1_readText_55, dX1_readText_58, dX1_readText_59, dX1_readText_62, dX1_readText_63, dX1_readText_64, dX1_readText_67, dX1_readText_68, dX1_readText_71, dX1_readText_74, dX1_readText_77, dX1_readText_80, dX1_readText_81, zb_40, zb_41, zf_1_22, zf_1_9, zi_1]
    exact ⟨hf, Or.inr ⟨hbig, w1, s1, hst⟩⟩
  have loop : ∀ (n i : Nat) (M1 : zH) (g : List Nat), pad.length - i ≤ n → i ≤ pad.length → m_flatok g → (m_dn (pad.drop i0)).1 = g ++ (m_dn (pad.drop i)).1 → (m_dn (pad.drop i0)).2 = (m_dn (pad.drop i)).2 → z_fp M M1 (z_rA b) → w0.length + (m_app g s).length ≤ 60 → z_rst M1 b pad (w0 ++ m_app g s) (m_spt g s) 0 → m_wf (pad.drop i) dd false → P (M1, z, 0, 0) 2 [some (.ref (b + 46)), some (.int (nI i0)), some (.int (nI dd)), some (.int (nI i))] [] := by
    intro n
    induction n with
    | zero =>
      intro i M1 g hn hi hgo hd1 hd2 hf hfit hst hw
      obtain ⟨g1, g2, g3⟩ := id hst
      have ei : pad.drop i = [] := List.drop_of_length_le (by omega)
      rw [ei, m_dn_nil] at hd1 hd2
      simp only [List.append_nil] at hd1
      refine z_run C [] 3 ?_
      simp only [z_x, z_n, z_stop, z_mem, z_ldi, z_lda, z_sto, z_s1, z_s2, z_sa, z_sv, z_br, z_bn, z_ob, z_ar, z_aq, z_al, z_rt, z_ra, z_at, z_st, z_K0i, z_K0v, zk_0, zk_1, zk_2, zk_3, z_lv, List.map_cons, List.map_nil, List.length_cons, List.length_nil, List.replicate, List.cons_append, List.nil_append, Nat.reduceAdd, Nat.reduceSub, Nat.reduceBEq, Nat.reduceEqDiff, Nat.reduceLT, Nat.reduceLeDiff, Nat.zero_add, Int.cast_ofNat_Int, Int.reduceAdd, Int.reduceNeg, Int.reduceToNat, Int.reduceLE, Int.zero_add, Int.toNat_zero, Int.add_zero, Int.add_neg_cancel_right, Fin.isValue, Int32.reduceOfInt, ↓reduceIte, Bool.false_eq_true, Bool.or_false, Bool.false_or, Bool.or_true, Bool.true_or, if_true, if_false, true_and, and_true, true_or, or_true, false_or, or_false, eq_self, and_self, z_up_i, Nat.add_left_cancel_iff, Nat.left_eq_add, Nat.add_eq_left, reduceCtorEq, Nat.add_one_ne_zero, z_tt, implies_true, zn_0, zn_1, zo_0, zo_1, dX1_readText_0, dX1_readText_1, dX1_readText_2, dX1_readText_3, dX1_readText_4, dX1_readText_7, dX1_readText_10, dX1_readText_13, dX1_readText_14, dX1_readText_17, dX1_readText_20, dX1_readText_21, dX1_readText_24, dX1_readText_25, dX1_readText_28, dX1_readText_30, dX1_readText_33, dX1_readText_34, dX1_readText_37, dX1_readText_38, dX1_readText_41, dX1_readText_43, dX1_readText_46, dX1_readText_47, dX1_readText_48, dX1_readText_49, dX1_readText_50, dX1_readText_51, dX1_readText_52, dX1_readText_55, dX1_readText_58, dX1_readText_59, dX1_readText_62, dX1_readText_63, dX1_readText_64, dX1_readText_67, dX1_readText_68, dX1_readText_71, dX1_readText_74, dX1_readText_77, dX1_readText_80, dX1_readText_81, zb_40, zb_41, zf_1_22, zf_1_9, zi_1, g1]
      refine z_vi C dX1_readText_7 lk_1_26 (c_size g2) rfl g2.ob (fun v M2 hv => ?_)
      obtain ⟨rfl, rfl⟩ := hv
      simp only [List.length_map]
      refine z_run C [] 5 ?_
      simp only [z_x, z_n, z_stop, z_mem, z_ldi, z_lda, z_sto, z_s1, z_s2, z_sa, z_sv, z_br, z_bn, z_ob, z_ar, z_aq, z_al, z_rt, z_ra, z_at, z_st, z_K0i, z_K0v, zk_0, zk_1, zk_2, zk_3, z_lv, List.map_cons, List.map_nil, List.length_cons, List.length_nil, List.replicate, List.cons_append, List.nil_append, Nat.reduceAdd, Nat.reduceSub, Nat.reduceBEq, Nat.reduceEqDiff, Nat.reduceLT, Nat.reduceLeDiff, Nat.zero_add, Int.cast_ofNat_Int, Int.reduceAdd, Int.reduceNeg, Int.reduceToNat, Int.reduceLE, Int.zero_add, Int.toNat_zero, Int.add_zero, Int.add_neg_cancel_right, Fin.isValue, Int32.reduceOfInt, ↓reduceIte, Bool.false_eq_true, Bool.or_false, Bool.false_or, Bool.or_true, Bool.true_or, if_true, if_false, true_and, and_true, true_or, or_true, false_or, or_false, eq_self, and_self, z_up_i, Nat.add_left_cancel_iff, Nat.left_eq_add, Nat.add_eq_left, reduceCtorEq, Nat.add_one_ne_zero, z_tt, implies_true, zn_0, zn_1, zo_0, zo_1, dX1_readText_0, dX1_readText_1, dX1_readText_2, dX1_readText_3, dX1_readText_4, dX1_readText_7, dX1_readText_10, dX1_readText_13, dX1_readText_14, dX1_readText_17, dX1_readText_20, dX1_readText_21, dX1_readText_24, dX1_readText_25, dX1_readText_28, dX1_readText_30, dX1_readText_33, dX1_readText_34, dX1_readText_37, dX1_readText_38, dX1_readText_41, dX1_readText_43, dX1_readText_46, dX1_readText_47, dX1_readText_48, dX1_readText_49, dX1_readText_50, dX1_readText_51, dX1_readText_52, dX1_readText_55, dX1_readText_58, dX1_readText_59, dX1_readText_62, dX1_readText_63, dX1_readText_64, dX1_readText_67, dX1_readText_68, dX1_readText_71, dX1_readText_74, dX1_readText_77, dX1_readText_80, dX1_readText_81, zb_40, zb_41, zf_1_22, zf_1_9, zi_1, g1]
      refine ⟨fun _ => ⟨hf, Or.inl ⟨by rw [hd1]; exact hfit, by rw [hd1]; exact hst, i, hi, rfl, by rw [hd2, ei]⟩⟩, fun c1 => absurd (nI_le (by omega) (by omega)) c1⟩
    | succ n ih =>
      intro i M1 g hn hi hgo hd1 hd2 hf hfit hst hw
      by_cases hend : i = pad.length
      · exact ih i M1 g (by omega) hi hgo hd1 hd2 hf hfit hst hw
      obtain ⟨g1, g2, g3⟩ := id hst
      have hdr : pad.drop i = pad.getD i 0 :: pad.drop (i + 1) := by
        rw [List.drop_eq_getElem_cons (by omega)]; simp [show i < pad.length by omega]
      have hgI : z_get (pad.map nI) (nI i) = nI (pad.getD i 0) := z_getN (by omega) (by omega)
      generalize pad.getD i 0 = c at hdr hgI
      rw [hdr] at hw
      obtain ⟨hok, hw1⟩ := hw
      have hc128 : c < 128 := by
        simp only [m_ok] at hok
        simp at hok
        split at hok
        · omega
        · split at hok
          · omega
          · unfold m_isS m_isK at hok; omega
      refine z_run C [] 3 ?_
      simp only [z_x, z_n, z_stop, z_mem, z_ldi, z_lda, z_sto, z_s1, z_s2, z_sa, z_sv, z_br, z_bn, z_ob, z_ar, z_aq, z_al, z_rt, z_ra, z_at, z_st, z_K0i, z_K0v, zk_0, zk_1, zk_2, zk_3, z_lv, List.map_cons, List.map_nil, List.length_cons, List.length_nil, List.replicate, List.cons_append, List.nil_append, Nat.reduceAdd, Nat.reduceSub, Nat.reduceBEq, Nat.reduceEqDiff, Nat.reduceLT, Nat.reduceLeDiff, Nat.zero_add, Int.cast_ofNat_Int, Int.reduceAdd, Int.reduceNeg, Int.reduceToNat, Int.reduceLE, Int.zero_add, Int.toNat_zero, Int.add_zero, Int.add_neg_cancel_right, Fin.isValue, Int32.reduceOfInt, ↓reduceIte, Bool.false_eq_true, Bool.or_false, Bool.false_or, Bool.or_true, Bool.true_or, if_true, if_false, true_and, and_true, true_or, or_true, false_or, or_false, eq_self, and_self, z_up_i, Nat.add_left_cancel_iff, Nat.left_eq_add, Nat.add_eq_left, reduceCtorEq, Nat.add_one_ne_zero, z_tt, implies_true, zn_0, zn_1, zo_0, zo_1, dX1_readText_0, dX1_readText_1, dX1_readText_2, dX1_readText_3, dX1_readText_4, dX1_readText_7, dX1_readText_10, dX1_readText_13, dX1_readText_14, dX1_readText_17, dX1_readText_20, dX1_readText_21, dX1_readText_24, dX1_readText_25, dX1_readText_28, dX1_readText_30, dX1_readText_33, dX1_readText_34, dX1_readText_37, dX1_readText_38, dX1_readText_41, dX1_readText_43, dX1_readText_46, dX1_readText_47, dX1_readText_48, dX1_readText_49, dX1_readText_50, dX1_readText_51, dX1_readText_52, dX1_readText_55, dX1_readText_58, dX1_readText_59, dX1_readText_62, dX1_readText_63, dX1_readText_64, dX1_readText_67, dX1_readText_68, dX1_readText_71, dX1_readText_74, dX1_readText_77, dX1_readText_80, dX1_readText_81, zb_40, zb_41, zf_1_22, zf_1_9, zi_1, g1]
      refine z_vi C dX1_readText_7 lk_1_26 (c_size g2) rfl g2.ob (fun v M2 hv => ?_)
      obtain ⟨rfl, rfl⟩ := hv
      simp only [List.length_map]
      refine z_run C [] 6 ?_
      simp only [z_x, z_n, z_stop, z_mem, z_ldi, z_lda, z_sto, z_s1, z_s2, z_sa, z_sv, z_br, z_bn, z_ob, z_ar, z_aq, z_al, z_rt, z_ra, z_at, z_st, z_K0i, z_K0v, zk_0, zk_1, zk_2, zk_3, z_lv, List.map_cons, List.map_nil, List.length_cons, List.length_nil, List.replicate, List.cons_append, List.nil_append, Nat.reduceAdd, Nat.reduceSub, Nat.reduceBEq, Nat.reduceEqDiff, Nat.reduceLT, Nat.reduceLeDiff, Nat.zero_add, Int.cast_ofNat_Int, Int.reduceAdd, Int.reduceNeg, Int.reduceToNat, Int.reduceLE, Int.zero_add, Int.toNat_zero, Int.add_zero, Int.add_neg_cancel_right, Fin.isValue, Int32.reduceOfInt, ↓reduceIte, Bool.false_eq_true, Bool.or_false, Bool.false_or, Bool.or_true, Bool.true_or, if_true, if_false, true_and, and_true, true_or, or_true, false_or, or_false, eq_self, and_self, z_up_i, Nat.add_left_cancel_iff, Nat.left_eq_add, Nat.add_eq_left, reduceCtorEq, Nat.add_one_ne_zero, z_tt, implies_true, zn_0, zn_1, zo_0, zo_1, dX1_readText_0, dX1_readText_1, dX1_readText_2, dX1_readText_3, dX1_readText_4, dX1_readText_7, dX1_readText_10, dX1_readText_13, dX1_readText_14, dX1_readText_17, dX1_readText_20, dX1_readText_21, dX1_readText_24, dX1_readText_25, dX1_readText_28, dX1_readText_30, dX1_readText_33, dX1_readText_34, dX1_readText_37, dX1_readText_38, dX1_readText_41, dX1_readText_43, dX1_readText_46, dX1_readText_47, dX1_readText_48, dX1_readText_49, dX1_readText_50, dX1_readText_51, dX1_readText_52, dX1_readText_55, dX1_readText_58, dX1_readText_59, dX1_readText_62, dX1_readText_63, dX1_readText_64, dX1_readText_67, dX1_readText_68, dX1_readText_71, dX1_readText_74, dX1_readText_77, dX1_readText_80, dX1_readText_81, zb_40, zb_41, zf_1_22, zf_1_9, zi_1, g1]
      refine ⟨fun c1 => absurd ((nI_leI (by omega) (by omega)).mp c1) (by omega), fun _ => ⟨fun _ => ?_, fun c => absurd rfl c⟩⟩
      refine z_run C [] 3 ?_
      simp only [z_x, z_n, z_stop, z_mem, z_ldi, z_lda, z_sto, z_s1, z_s2, z_sa, z_sv, z_br, z_bn, z_ob, z_ar, z_aq, z_al, z_rt, z_ra, z_at, z_st, z_K0i, z_K0v, zk_0, zk_1, zk_2, zk_3, z_lv, List.map_cons, List.map_nil, List.length_cons, List.length_nil, List.replicate, List.cons_append, List.nil_append, Nat.reduceAdd, Nat.reduceSub, Nat.reduceBEq, Nat.reduceEqDiff, Nat.reduceLT, Nat.reduceLeDiff, Nat.zero_add, Int.cast_ofNat_Int, Int.reduceAdd, Int.reduceNeg, Int.reduceToNat, Int.reduceLE, Int.zero_add, Int.toNat_zero, Int.add_zero, Int.add_neg_cancel_right, Fin.isValue, Int32.reduceOfInt, ↓reduceIte, Bool.false_eq_true, Bool.or_false, Bool.false_or, Bool.or_true, Bool.true_or, if_true, if_false, true_and, and_true, true_or, or_true, false_or, or_false, eq_self, and_self, z_up_i, Nat.add_left_cancel_iff, Nat.left_eq_add, Nat.add_eq_left, reduceCtorEq, Nat.add_one_ne_zero, z_tt, implies_true, zn_0, zn_1, zo_0, zo_1, dX1_readText_0, dX1_readText_1, dX1_readText_2, dX1_readText_3, dX1_readText_4, dX1_readText_7, dX1_readText_10, dX1_readText_13, dX1_readText_14, dX1_readText_17, dX1_readText_20, dX1_readText_21, dX1_readText_24, dX1_readText_25, dX1_readText_28, dX1_readText_30, dX1_readText_33, dX1_readText_34, dX1_readText_37, dX1_readText_38, dX1_readText_41, dX1_readText_43, dX1_readText_46, dX1_readText_47, dX1_readText_48, dX1_readText_49, dX1_readText_50, dX1_readText_51, dX1_readText_52, dX1_readText_55, dX1_readText_58, dX1_readText_59, dX1_readText_62, dX1_readText_63, dX1_readText_64, dX1_readText_67, dX1_readText_68, dX1_readText_71, dX1_readText_74, dX1_readText_77, dX1_readText_80, dX1_readText_81, zb_40, zb_41, zf_1_22, zf_1_9, zi_1, g1]
      refine z_vi C dX1_readText_25 lk_1_32 (c_get (nI i) g2) rfl g2.ob (fun v M2 hv => ?_)
      obtain ⟨rfl, rfl⟩ := hv
      rw [hgI]
      refine z_run C [] 6 ?_
      simp only [z_x, z_n, z_stop, z_mem, z_ldi, z_lda, z_sto, z_s1, z_s2, z_sa, z_sv, z_br, z_bn, z_ob, z_ar, z_aq, z_al, z_rt, z_ra, z_at, z_st, z_K0i, z_K0v, zk_0, zk_1, zk_2, zk_3, z_lv, List.map_cons, List.map_nil, List.length_cons, List.length_nil, List.replicate, List.cons_append, List.nil_append, Nat.reduceAdd, Nat.reduceSub, Nat.reduceBEq, Nat.reduceEqDiff, Nat.reduceLT, Nat.reduceLeDiff, Nat.zero_add, Int.cast_ofNat_Int, Int.reduceAdd, Int.reduceNeg, Int.reduceToNat, Int.reduceLE, Int.zero_add, Int.toNat_zero, Int.add_zero, Int.add_neg_cancel_right, Fin.isValue, Int32.reduceOfInt, ↓reduceIte, Bool.false_eq_true, Bool.or_false, Bool.false_or, Bool.or_true, Bool.true_or, if_true, if_false, true_and, and_true, true_or, or_true, false_or, or_false, eq_self, and_self, z_up_i, Nat.add_left_cancel_iff, Nat.left_eq_add, Nat.add_eq_left, reduceCtorEq, Nat.add_one_ne_zero, z_tt, implies_true, zn_0, zn_1, zo_0, zo_1, dX1_readText_0, dX1_readText_1, dX1_readText_2, dX1_readText_3, dX1_readText_4, dX1_readText_7, dX1_readText_10, dX1_readText_13, dX1_readText_14, dX1_readText_17, dX1_readText_20, dX1_readText_21, dX1_readText_24, dX1_readText_25, dX1_readText_28, dX1_readText_30, dX1_readText_33, dX1_readText_34, dX1_readText_37, dX1_readText_38, dX1_readText_41, dX1_readText_43, dX1_readText_46, dX1_readText_47, dX1_readText_48, dX1_readText_49, dX1_readText_50, dX1_readText_51, dX1_readText_52, dX1_readText_55, dX1_readText_58, dX1_readText_59, dX1_readText_62, dX1_readText_63, dX1_readText_64, dX1_readText_67, dX1_readText_68, dX1_readText_71, dX1_readText_74, dX1_readText_77, dX1_readText_80, dX1_readText_81, zb_40, zb_41, zf_1_22, zf_1_9, zi_1, g1]
      rw [show (nI c = 41) = (c = 41) from propext (z_eqn 41 (by omega) (by omega))]
      refine ⟨fun c1 => ?_, fun c1 => ?_⟩
      · subst c1
        rw [hdr, m_dn_close] at hd1 hd2
        simp only [List.append_nil] at hd1
        exact ⟨hf, Or.inl ⟨by rw [hd1]; exact hfit, by rw [hd1]; exact hst, i, hi, rfl, by rw [hd2, hdr]⟩⟩
      · refine z_vi C dX1_readText_38 lk_1_32 (c_get (nI i) g2) rfl g2.ob (fun v M2 hv => ?_)
        obtain ⟨rfl, rfl⟩ := hv
        rw [hgI]
        refine z_run C [] 8 ?_
        simp only [z_x, z_n, z_stop, z_mem, z_ldi, z_lda, z_sto, z_s1, z_s2, z_sa, z_sv, z_br, z_bn, z_ob, z_ar, z_aq, z_al, z_rt, z_ra, z_at, z_st, z_K0i, z_K0v, zk_0, zk_1, zk_2, zk_3, z_lv, List.map_cons, List.map_nil, List.length_cons, List.length_nil, List.replicate, List.cons_append, List.nil_append, Nat.reduceAdd, Nat.reduceSub, Nat.reduceBEq, Nat.reduceEqDiff, Nat.reduceLT, Nat.reduceLeDiff, Nat.zero_add, Int.cast_ofNat_Int, Int.reduceAdd, Int.reduceNeg, Int.reduceToNat, Int.reduceLE, Int.zero_add, Int.toNat_zero, Int.add_zero, Int.add_neg_cancel_right, Fin.isValue, Int32.reduceOfInt, ↓reduceIte, Bool.false_eq_true, Bool.or_false, Bool.false_or, Bool.or_true, Bool.true_or, if_true, if_false, true_and, and_true, true_or, or_true, false_or, or_false, eq_self, and_self, z_up_i, Nat.add_left_cancel_iff, Nat.left_eq_add, Nat.add_eq_left, reduceCtorEq, Nat.add_one_ne_zero, z_tt, implies_true, zn_0, zn_1, zo_0, zo_1, dX1_readText_0, dX1_readText_1, dX1_readText_2, dX1_readText_3, dX1_readText_4, dX1_readText_7, dX1_readText_10, dX1_readText_13, dX1_readText_14, dX1_readText_17, dX1_readText_20, dX1_readText_21, dX1_readText_24, dX1_readText_25, dX1_readText_28, dX1_readText_30, dX1_readText_33, dX1_readText_34, dX1_readText_37, dX1_readText_38, dX1_readText_41, dX1_readText_43, dX1_readText_46, dX1_readText_47, dX1_readText_48, dX1_readText_49, dX1_readText_50, dX1_readText_51, dX1_readText_52, dX1_readText_55, dX1_readText_58, dX1_readText_59, dX1_readText_62, dX1_readText_63, dX1_readText_64, dX1_readText_67, dX1_readText_68, dX1_readText_71, dX1_readText_74, dX1_readText_77, dX1_readText_80, dX1_readText_81, zb_40, zb_41, zf_1_22, zf_1_9, zi_1, g1]
        rw [show (nI c = 40) = (c = 40) from propext (z_eqn 40 (by omega) (by omega))]
        refine ⟨fun c2 => ?_, fun c2 => ?_⟩
        · subst c2
          simp [m_ok, m_opn] at hok hw1
          obtain ⟨i1, i2⟩ := m_dn_wf pad.length (pad.drop (i + 1)) (dd + 1) (by rw [List.length_drop]; omega) hw1
          rcases i2 with ⟨i2, -⟩ | ⟨-, t, r, e1, e2, e3, e4, p2, e5⟩
          · omega
          have e6 : m_dn (pad.drop (i + 1)) = ((m_dn (pad.drop (i + 1))).1, 41 :: t :: r) := by rw [← e1]
          simp only [Nat.add_sub_cancel] at e4
          refine z_vi C dX1_readText_52 lk_1_58 (hRP hok (by omega) (m_app_lt g s hs hgo).2 hst hw1 e6 ⟨e2, e3⟩ i1) rfl g1 (fun v M3 hv => ?_)
          obtain ⟨hf3, hv⟩ := hv
          refine z_mx C dX1_readText_55 lk_1_61 ?_
          refine z_run C [2] 3 ?_
          simp only [z_x, z_n, z_stop, z_mem, z_ldi, z_lda, z_sto, z_s1, z_s2, z_sa, z_sv, z_br, z_bn, z_ob, z_ar, z_aq, z_al, z_rt, z_ra, z_at, z_st, z_K0i, z_K0v, zk_0, zk_1, zk_2, zk_3, z_lv, List.map_cons, List.map_nil, List.length_cons, List.length_nil, List.replicate, List.cons_append, List.nil_append, Nat.reduceAdd, Nat.reduceSub, Nat.reduceBEq, Nat.reduceEqDiff, Nat.reduceLT, Nat.reduceLeDiff, Nat.zero_add, Int.cast_ofNat_Int, Int.reduceAdd, Int.reduceNeg, Int.reduceToNat, Int.reduceLE, Int.zero_add, Int.toNat_zero, Int.add_zero, Int.add_neg_cancel_right, Fin.isValue, Int32.reduceOfInt, ↓reduceIte, Bool.false_eq_true, Bool.or_false, Bool.false_or, Bool.or_true, Bool.true_or, if_true, if_false, true_and, and_true, true_or, or_true, false_or, or_false, eq_self, and_self, z_up_i, Nat.add_left_cancel_iff, Nat.left_eq_add, Nat.add_eq_left, reduceCtorEq, Nat.add_one_ne_zero, z_tt, implies_true, zn_0, zn_1, zo_0, zo_1, dX1_readText_0, dX1_readText_1, dX1_readText_2, dX1_readText_3, dX1_readText_4, dX1_readText_7, dX1_readText_10, dX1_readText_13, dX1_readText_14, dX1_readText_17, dX1_readText_20, dX1_readText_21, dX1_readText_24, dX1_readText_25, dX1_readText_28, dX1_readText_30, dX1_readText_33, dX1_readText_34, dX1_readText_37, dX1_readText_38, dX1_readText_41, dX1_readText_43, dX1_readText_46, dX1_readText_47, dX1_readText_48, dX1_readText_49, dX1_readText_50, dX1_readText_51, dX1_readText_52, dX1_readText_55, dX1_readText_58, dX1_readText_59, dX1_readText_62, dX1_readText_63, dX1_readText_64, dX1_readText_67, dX1_readText_68, dX1_readText_71, dX1_readText_74, dX1_readText_77, dX1_readText_80, dX1_readText_81, zb_40, zb_41, zf_1_22, zf_1_9, zi_1]
          rw [hdr, m_dn_open _ e6] at hd1 hd2
          dsimp only at hd1 hd2
          rcases hv with ⟨hv1, hv2, j, hj1, rfl, hj2⟩ | ⟨hv1, w2, s2, hv2⟩
          · have hij : i + 1 < j := by
              have l1 := congrArg List.length hj2
              have l2 := congrArg List.length e5
              simp only [List.length_drop, List.length_append, List.length_cons] at l1 l2
              omega
            rw [nI_1, show (if nI (i + 1) < nI j then nI j else nI (i + 1)) = nI j from by rw [if_pos (nI_lt hij (by omega))]]
            refine ih j M3 (g ++ m_rep (t - 48) (m_dn (pad.drop (i + 1))).1) (by omega) hj1 ?_ ?_ ?_ (hf.tr hf3) ?_ ?_ (by rw [hj2]; exact e4)
            · intro a ha
              rcases List.mem_append.mp ha with ha | ha
              · exact hgo a ha
              · exact m_flatok_rep i1 _ a ha
            · rw [hd1, hj2, List.append_assoc]
            · rw [hd2, hj2]
            · rw [m_app_app]; simp only [List.length_append] at hv1 ⊢; omega
            · rw [m_app_app, m_spt_app, ← List.append_assoc]; exact hv2
          · refine fin1 ?_ M3 w2 s2 (hf.tr hf3) hv2 _
            rw [hd1, ← List.append_assoc, m_app_app, m_app_app]
            simp only [List.length_append] at hv1 ⊢
            omega
        · refine z_vi C dX1_readText_68 lk_1_32 (c_get (nI i) g2) rfl g2.ob (fun v M2 hv => ?_)
          obtain ⟨rfl, rfl⟩ := hv
          rw [hgI]
          simp [m_ok, m_opn, c1, c2] at hok hw1
          rw [show (c == 41) = false from by simp [c1]] at hw1
          refine z_vv C dX1_readText_71 lk_1_66 (c_readSign c hok hst) rfl g1 (fun M3 hv => ?_)
          obtain ⟨hf3, hv⟩ := hv
          refine z_run C [2] 3 ?_
          simp only [z_x, z_n, z_stop, z_mem, z_ldi, z_lda, z_sto, z_s1, z_s2, z_sa, z_sv, z_br, z_bn, z_ob, z_ar, z_aq, z_al, z_rt, z_ra, z_at, z_st, z_K0i, z_K0v, zk_0, zk_1, zk_2, zk_3, z_lv, List.map_cons, List.map_nil, List.length_cons, List.length_nil, List.replicate, List.cons_append, List.nil_append, Nat.reduceAdd, Nat.reduceSub, Nat.reduceBEq, Nat.reduceEqDiff, Nat.reduceLT, Nat.reduceLeDiff, Nat.zero_add, Int.cast_ofNat_Int, Int.reduceAdd, Int.reduceNeg, Int.reduceToNat, Int.reduceLE, Int.zero_add, Int.toNat_zero, Int.add_zero, Int.add_neg_cancel_right, Fin.isValue, Int32.reduceOfInt, ↓reduceIte, Bool.false_eq_true, Bool.or_false, Bool.false_or, Bool.or_true, Bool.true_or, if_true, if_false, true_and, and_true, true_or, or_true, false_or, or_false, eq_self, and_self, z_up_i, Nat.add_left_cancel_iff, Nat.left_eq_add, Nat.add_eq_left, reduceCtorEq, Nat.add_one_ne_zero, z_tt, implies_true, zn_0, zn_1, zo_0, zo_1, dX1_readText_0, dX1_readText_1, dX1_readText_2, dX1_readText_3, dX1_readText_4, dX1_readText_7, dX1_readText_10, dX1_readText_13, dX1_readText_14, dX1_readText_17, dX1_readText_20, dX1_readText_21, dX1_readText_24, dX1_readText_25, dX1_readText_28, dX1_readText_30, dX1_readText_33, dX1_readText_34, dX1_readText_37, dX1_readText_38, dX1_readText_41, dX1_readText_43, dX1_readText_46, dX1_readText_47, dX1_readText_48, dX1_readText_49, dX1_readText_50, dX1_readText_51, dX1_readText_52, dX1_readText_55, dX1_readText_58, dX1_readText_59, dX1_readText_62, dX1_readText_63, dX1_readText_64, dX1_readText_67, dX1_readText_68, dX1_readText_71, dX1_readText_74, dX1_readText_77, dX1_readText_80, dX1_readText_81, zb_40, zb_41, zf_1_22, zf_1_9, zi_1]
          rw [nI_1]
          rw [hdr, m_dn_basic _ c1 c2] at hd1 hd2
          dsimp only at hd1 hd2
          have e7 : g ++ c :: (m_dn (pad.drop (i + 1))).1 = (g ++ [c]) ++ (m_dn (pad.drop (i + 1))).1 := by simp
          rcases hv with ⟨hv1, hv2, -⟩ | ⟨hv1, w2, s2, hv2⟩
          · refine ih (i + 1) M3 (g ++ [c]) (by omega) (by omega) ?_ (by rw [hd1, e7]) hd2 (hf.tr hf3) ?_ ?_ hw1
            · intro a ha
              rcases List.mem_append.mp ha with ha | ha
              · exact hgo a ha
              · rw [List.mem_singleton.mp ha]; exact hok
            · rw [m_app_app]; simp only [List.length_append] at hv1 ⊢; omega
            · rw [m_app_app, m_spt_app, ← List.append_assoc]; exact hv2
          · refine fin1 ?_ M3 w2 s2 (hf.tr hf3) hv2 _
            rw [hd1, e7, m_app_app, m_app_app]
            simp only [List.length_append] at hv1 ⊢
            omega
  refine z_run C [2] 3 ?_
  simp only [z_x, z_n, z_stop, z_mem, z_ldi, z_lda, z_sto, z_s1, z_s2, z_sa, z_sv, z_br, z_bn, z_ob, z_ar, z_aq, z_al, z_rt, z_ra, z_at, z_st, z_K0i, z_K0v, zk_0, zk_1, zk_2, zk_3, z_lv, List.map_cons, List.map_nil, List.length_cons, List.length_nil, List.replicate, List.cons_append, List.nil_append, Nat.reduceAdd, Nat.reduceSub, Nat.reduceBEq, Nat.reduceEqDiff, Nat.reduceLT, Nat.reduceLeDiff, Nat.zero_add, Int.cast_ofNat_Int, Int.reduceAdd, Int.reduceNeg, Int.reduceToNat, Int.reduceLE, Int.zero_add, Int.toNat_zero, Int.add_zero, Int.add_neg_cancel_right, Fin.isValue, Int32.reduceOfInt, ↓reduceIte, Bool.false_eq_true, Bool.or_false, Bool.false_or, Bool.or_true, Bool.true_or, if_true, if_false, true_and, and_true, true_or, or_true, false_or, or_false, eq_self, and_self, z_up_i, Nat.add_left_cancel_iff, Nat.left_eq_add, Nat.add_eq_left, reduceCtorEq, Nat.add_one_ne_zero, z_tt, implies_true, zn_0, zn_1, zo_0, zo_1, dX1_readText_0, dX1_readText_1, dX1_readText_2, dX1_readText_3, dX1_readText_4, dX1_readText_7, dX1_readText_10, dX1_readText_13, dX1_readText_14, dX1_readText_17, dX1_readText_20, dX1_readText_21, dX1_readText_24, dX1_readText_25, dX1_readText_28, dX1_readText_30, dX1_readText_33, dX1_readText_34, dX1_readText_37, dX1_readText_38, dX1_readText_41, dX1_readText_43, dX1_readText_46, dX1_readText_47, dX1_readText_48, dX1_readText_49, dX1_readText_50, dX1_readText_51, dX1_readText_52, dX1_readText_55, dX1_readText_58, dX1_readText_59, dX1_readText_62, dX1_readText_63, dX1_readText_64, dX1_readText_67, dX1_readText_68, dX1_readText_71, dX1_readText_74, dX1_readText_77, dX1_readText_80, dX1_readText_81, zb_40, zb_41, zf_1_22, zf_1_9, zi_1]
  refine loop pad.length i0 M [] (by omega) hi0 (fun a ha => by simp at ha) (by simp) rfl z_fp.rf ?_ ?_ hw0
  · simp [m_app]; omega
  · simpa [m_app, m_spt] using h
theorem c_readText {l : Launch} {E : zE} {d b : Nat} {pad : List Nat} : ∀ k dd, dd + k = 3 → z_RT l E (d + 5 + 2 * k) dd b pad
  | 0, dd, h => c_readTextS (D := d) (fun h2 => absurd h2 (by omega)) (by omega)
  | k + 1, dd, h => by
    have ih := c_readText (l := l) (E := E) (d := d) (b := b) (pad := pad) k (dd + 1) (by omega)
    rw [show d + 5 + 2 * (k + 1) = (d + 2 + 2 * k) + 5 by omega]
    rw [show d + 5 + 2 * k = (d + 4 + 2 * k) + 1 by omega] at ih
    refine c_readTextS (D := d + 2 + 2 * k) (fun hdd M i s t w0 f1 r h1 h2 h3 h4 h5 h6 h7 => ?_) (by omega)
    rw [show d + 2 + 2 * k + 4 = (d + 4 + 2 * k) + 2 by omega]
    exact c_readPart ih hdd h1 h2 h3 h4 h5 h6 h7
set_option maxRecDepth 100000 in
set_option maxHeartbeats 4000000 in
/-- all steps of a pad without fault: whether there is room for them -/
theorem c_readSteps {l : Launch} {E : zE} {d b : Nat} {M : zH} {pad w0 : List Nat} {s tm : Nat} (h : z_rst M b pad w0 s tm) (hw : m_wf pad 0 false) : nX1_readSteps l E (d + 12) [.ref (b + 46)] M (z_i fun v M' => z_fp M M' (z_rA b) ∧ (((m_app (m_dn pad).1 0).length ≤ 60 ∧ v = 1 ∧ ∃ s1, z_rst M' b pad (m_app (m_dn pad).1 0) s1 0) ∨ (60 < (m_app (m_dn pad).1 0).length ∧ v = 0 ∧ ∃ w1 s1, z_rst M' b pad w1 s1 1))) := by
  refine z_cn 1 fun P z C => ?_
  obtain ⟨h1, h2, h3⟩ := id h
  refine z_run C [] 3 ?_
  simp only [z_x, z_n, z_stop, z_mem, z_ldi, z_lda, z_sto, z_s1, z_s2, z_sa, z_sv, z_br, z_bn, z_ob, z_ar, z_aq, z_al, z_rt, z_ra, z_at, z_st, z_K0i, z_K0v, zk_0, zk_1, zk_2, zk_3, z_lv, List.map_cons, List.map_nil, List.length_cons, List.length_nil, List.replicate, List.cons_append, List.nil_append, Nat.reduceAdd, Nat.reduceSub, Nat.reduceBEq, Nat.reduceEqDiff, Nat.reduceLT, Nat.reduceLeDiff, Nat.zero_add, Int.cast_ofNat_Int, Int.reduceAdd, Int.reduceNeg, Int.reduceToNat, Int.reduceLE, Int.zero_add, Int.toNat_zero, Int.add_zero, Int.add_neg_cancel_right, Fin.isValue, Int32.reduceOfInt, ↓reduceIte, Bool.false_eq_true, Bool.or_false, Bool.false_or, Bool.or_true, Bool.true_or, if_true, if_false, true_and, and_true, true_or, or_true, false_or, or_false, eq_self, and_self, z_up_i, Nat.add_left_cancel_iff, Nat.left_eq_add, Nat.add_eq_left, reduceCtorEq, Nat.add_one_ne_zero, z_tt, implies_true, zn_0, zn_1, zo_0, zo_1, dX1_readSteps_0, dX1_readSteps_1, dX1_readSteps_4, dX1_readSteps_7, dX1_readSteps_8, dX1_readSteps_9, dX1_readSteps_12, dX1_readSteps_13, dX1_readSteps_14, dX1_readSteps_17, dX1_readSteps_18, dX1_readSteps_19, dX1_readSteps_20, dX1_readSteps_23, dX1_readSteps_24, dX1_readSteps_25, dX1_readSteps_28, dX1_readSteps_31, dX1_readSteps_32, dX1_readSteps_35, dX1_readSteps_36, zf_1_15, zf_1_18, zf_1_22, zi_0, zi_1, zt_1_2, zt_1_3, h1]
  refine z_vv C dX1_readSteps_4 lk_1_51 (c_clear h3) rfl h3.ob (fun M2 hv => ?_)
  obtain ⟨hf, hr⟩ := hv
  have hf2 : z_fp M M2 (z_rA b) := hf.p (Or.inl rfl) (Or.inr (Or.inl rfl))
  have g1 : M2 (b + 46) = some (.inr (1, [.ref (b + 1), .ref (b + 3), .int (nI s), .int (nI tm)])) := (hf _ (by simp)).trans h1
  have g2 := h2.fr hf (by simp) (by simp)
  refine z_run C [] 12 ?_
  simp only [z_x, z_n, z_stop, z_mem, z_ldi, z_lda, z_sto, z_s1, z_s2, z_sa, z_sv, z_br, z_bn, z_ob, z_ar, z_aq, z_al, z_rt, z_ra, z_at, z_st, z_K0i, z_K0v, zk_0, zk_1, zk_2, zk_3, z_lv, List.map_cons, List.map_nil, List.length_cons, List.length_nil, List.replicate, List.cons_append, List.nil_append, Nat.reduceAdd, Nat.reduceSub, Nat.reduceBEq, Nat.reduceEqDiff, Nat.reduceLT, Nat.reduceLeDiff, Nat.zero_add, Int.cast_ofNat_Int, Int.reduceAdd, Int.reduceNeg, Int.reduceToNat, Int.reduceLE, Int.zero_add, Int.toNat_zero, Int.add_zero, Int.add_neg_cancel_right, Fin.isValue, Int32.reduceOfInt, ↓reduceIte, Bool.false_eq_true, Bool.or_false, Bool.false_or, Bool.or_true, Bool.true_or, if_true, if_false, true_and, and_true, true_or, or_true, false_or, or_false, eq_self, and_self, z_up_i, Nat.add_left_cancel_iff, Nat.left_eq_add, Nat.add_eq_left, reduceCtorEq, Nat.add_one_ne_zero, z_tt, implies_true, zn_0, zn_1, zo_0, zo_1, dX1_readSteps_0, dX1_readSteps_1, dX1_readSteps_4, dX1_readSteps_7, dX1_readSteps_8, dX1_readSteps_9, dX1_readSteps_12, dX1_readSteps_13, dX1_readSteps_14, dX1_readSteps_17, dX1_readSteps_18, dX1_readSteps_19, dX1_readSteps_20, dX1_readSteps_23, dX1_readSteps_24, dX1_readSteps_25, dX1_readSteps_28, dX1_readSteps_31, dX1_readSteps_32, dX1_readSteps_35, dX1_readSteps_36, zf_1_15, zf_1_18, zf_1_22, zi_0, zi_1, zt_1_2, zt_1_3, g1]
  generalize hM3 : z_up (z_up M2 (b + 46) _) (b + 46) _ = M3
  have hf3 : z_fp M M3 (z_rA b) := hf2.tr (fun q hq => by
    have hq2 : q ≠ b + 46 := fun e => hq (Or.inr (Or.inr e))
    rw [← hM3, z_up_n hq2, z_up_n hq2])
  have g13 : M3 (b + 46) = some (.inr (1, [.ref (b + 1), .ref (b + 3), .int (nI 0), .int (nI 0)])) := by rw [← hM3, z_up_s]; rfl
  have hst : z_rst M3 b pad [] 0 0 := by
    refine ⟨g13, ?_, ?_⟩
    · obtain ⟨f, a1, a2, a3⟩ := g2
      exact ⟨f, by rw [← hM3, z_up_n (by omega), z_up_n (by omega)]; exact a1, by rw [← hM3, z_up_n (by omega), z_up_n (by omega)]; exact a2, a3⟩
    · obtain ⟨f, a1, a2, a3⟩ := hr
      exact ⟨f, by rw [← hM3, z_up_n (by omega), z_up_n (by omega)]; exact a1, by rw [← hM3, z_up_n (by omega), z_up_n (by omega)]; exact a2, a3⟩
  refine z_vi C dX1_readSteps_20 lk_1_54 (c_readText (d := d) 3 0 rfl M3 0 0 [] (by omega) (by omega) hst hw) rfl g13 (fun v M4 hv => ?_)
  obtain ⟨hf4, hv⟩ := hv
  simp only [List.drop_zero, List.length_nil, Nat.zero_add, List.nil_append] at hv
  rcases hv with ⟨hv1, hv2, -⟩ | ⟨hv1, w2, s2, hv2⟩
  · have k1 := hv2.1
    refine z_run C [] 8 ?_
    simp only [z_x, z_n, z_stop, z_mem, z_ldi, z_lda, z_sto, z_s1, z_s2, z_sa, z_sv, z_br, z_bn, z_ob, z_ar, z_aq, z_al, z_rt, z_ra, z_at, z_st, z_K0i, z_K0v, zk_0, zk_1, zk_2, zk_3, z_lv, List.map_cons, List.map_nil, List.length_cons, List.length_nil, List.replicate, List.cons_append, List.nil_append, Nat.reduceAdd, Nat.reduceSub, Nat.reduceBEq, Nat.reduceEqDiff, Nat.reduceLT, Nat.reduceLeDiff, Nat.zero_add, Int.cast_ofNat_Int, Int.reduceAdd, Int.reduceNeg, Int.reduceToNat, Int.reduceLE, Int.zero_add, Int.toNat_zero, Int.add_zero, Int.add_neg_cancel_right, Fin.isValue, Int32.reduceOfInt, ↓reduceIte, Bool.false_eq_true, Bool.or_false, Bool.false_or, Bool.or_true, Bool.true_or, if_true, if_false, true_and, and_true, true_or, or_true, false_or, or_false, eq_self, and_self, z_up_i, Nat.add_left_cancel_iff, Nat.left_eq_add, Nat.add_eq_left, reduceCtorEq, Nat.add_one_ne_zero, z_tt, implies_true, zn_0, zn_1, zo_0, zo_1, dX1_readSteps_0, dX1_readSteps_1, dX1_readSteps_4, dX1_readSteps_7, dX1_readSteps_8, dX1_readSteps_9, dX1_readSteps_12, dX1_readSteps_13, dX1_readSteps_14, dX1_readSteps_17, dX1_readSteps_18, dX1_readSteps_19, dX1_readSteps_20, dX1_readSteps_23, dX1_readSteps_24, dX1_readSteps_25, dX1_readSteps_28, dX1_readSteps_31, dX1_readSteps_32, dX1_readSteps_35, dX1_readSteps_36, zf_1_15, zf_1_18, zf_1_22, zi_0, zi_1, zt_1_2, zt_1_3, k1]
    refine ⟨fun _ => ⟨hf3.tr hf4, Or.inl ⟨hv1, rfl, _, hv2⟩⟩, fun c => absurd rfl c⟩
  · have k1 := hv2.1
    refine z_run C [] 8 ?_
    simp only [z_x, z_n, z_stop, z_mem, z_ldi, z_lda, z_sto, z_s1, z_s2, z_sa, z_sv, z_br, z_bn, z_ob, z_ar, z_aq, z_al, z_rt, z_ra, z_at, z_st, z_K0i, z_K0v, zk_0, zk_1, zk_2, zk_3, z_lv, List.map_cons, List.map_nil, List.length_cons, List.length_nil, List.replicate, List.cons_append, List.nil_append, Nat.reduceAdd, Nat.reduceSub, Nat.reduceBEq, Nat.reduceEqDiff, Nat.reduceLT, Nat.reduceLeDiff, Nat.zero_add, Int.cast_ofNat_Int, Int.reduceAdd, Int.reduceNeg, Int.reduceToNat, Int.reduceLE, Int.zero_add, Int.toNat_zero, Int.add_zero, Int.add_neg_cancel_right, Fin.isValue, Int32.reduceOfInt, ↓reduceIte, Bool.false_eq_true, Bool.or_false, Bool.false_or, Bool.or_true, Bool.true_or, if_true, if_false, true_and, and_true, true_or, or_true, false_or, or_false, eq_self, and_self, z_up_i, Nat.add_left_cancel_iff, Nat.left_eq_add, Nat.add_eq_left, reduceCtorEq, Nat.add_one_ne_zero, z_tt, implies_true, zn_0, zn_1, zo_0, zo_1, dX1_readSteps_0, dX1_readSteps_1, dX1_readSteps_4, dX1_readSteps_7, dX1_readSteps_8, dX1_readSteps_9, dX1_readSteps_12, dX1_readSteps_13, dX1_readSteps_14, dX1_readSteps_17, dX1_readSteps_18, dX1_readSteps_19, dX1_readSteps_20, dX1_readSteps_23, dX1_readSteps_24, dX1_readSteps_25, dX1_readSteps_28, dX1_readSteps_31, dX1_readSteps_32, dX1_readSteps_35, dX1_readSteps_36, zf_1_15, zf_1_18, zf_1_22, zi_0, zi_1, zt_1_2, zt_1_3, k1]
    refine ⟨fun c => absurd c (by decide), fun _ => ⟨hf3.tr hf4, Or.inr ⟨hv1, rfl, w2, s2, hv2⟩⟩⟩

/-! THE READER -/
def z_rst (M : zH) (b : Nat) (pad w0 : List Nat) (s tm : Nat) : Prop := M (b + 46) = some (.inr (1, [.int (nI s), .int (nI tm)])) ∧ z_row M (b + 1) 40 (pad.map nI) ∧ z_row M (b + 3) 60 (w0.map nI)
def z_rA (b : Nat) : Nat → Prop := fun q => q = b + 3 ∨ q = b + 4 ∨ q = b + 46
theorem z_rst.len {M : zH} {b : Nat} {pad w0 : List Nat} {s tm : Nat} (h : z_rst M b pad w0 s tm) : pad.length ≤ 40 ∧ w0.length ≤ 60 := by
  have h1 := h.2.1.le.1
  have h2 := h.2.2.le.1
  simp only [List.length_map] at h1 h2
  exact ⟨h1, h2⟩
set_option maxRecDepth 100000 in
set_option maxHeartbeats 4000000 in
theorem c_isSpot {l : Launch} {E : zE} {d : Nat} {M : zH} (c : Nat) (hc : c < 2 ^ 31) : nX1_isSpot l E d [.int (nI c)] M (z_i fun v M' => ((v = 1 ∧ m_isS c) ∨ (v = 0 ∧ ¬ m_isS c)) ∧ M' = M) := by
  refine z_cn 1 fun P z C => ?_
  refine z_run C [] 12 ?_
  simp only [z_x, z_n, z_stop, z_mem, z_ldi, z_lda, z_sto, z_s1, z_s2, z_sa, z_sv, z_br, z_bn, z_ob, z_ar, z_aq, z_al, z_rt, z_ra, z_at, z_st, z_K0i, z_K0v, zk_0, zk_1, zk_2, zk_3, z_lv, List.map_cons, List.map_nil, List.length_cons, List.length_nil, List.replicate, List.cons_append, List.nil_append, Nat.reduceAdd, Nat.reduceSub, Nat.reduceBEq, Nat.reduceEqDiff, Nat.reduceLT, Nat.reduceLeDiff, Nat.zero_add, Int.cast_ofNat_Int, Int.reduceAdd, Int.reduceNeg, Int.reduceToNat, Int.reduceLE, Int.zero_add, Int.toNat_zero, Int.add_zero, Int.add_neg_cancel_right, Fin.isValue, Int32.reduceOfInt, ↓reduceIte, Bool.false_eq_true, Bool.or_false, Bool.false_or, Bool.or_true, Bool.true_or, if_true, if_false, true_and, and_true, true_or, or_true, false_or, or_false, eq_self, and_self, z_up_i, Nat.add_left_cancel_iff, Nat.left_eq_add, Nat.add_eq_left, reduceCtorEq, Nat.add_one_ne_zero, z_tt, implies_true, zn_0, zn_1, zo_0, zo_1, dX1_isSpot_0, dX1_isSpot_1, dX1_isSpot_3, dX1_isSpot_6, dX1_isSpot_7, dX1_isSpot_9, dX1_isSpot_12, dX1_isSpot_13, dX1_isSpot_16, dX1_isSpot_17, zb_48, zb_51, zi_0, zi_1]
  rw [show (48 : Int32) = nI 48 from rfl, show (51 : Int32) = nI 51 from rfl, nI_ltI hc (by omega), nI_leI (by omega) hc]
  refine ⟨fun c1 => ⟨Or.inr ⟨rfl, fun h => ?_⟩, rfl⟩, fun c1 => ⟨fun c2 => ⟨Or.inr ⟨rfl, fun h => ?_⟩, rfl⟩, fun c2 => ⟨Or.inl ⟨rfl, ?_⟩, rfl⟩⟩⟩ <;> unfold m_isS at * <;> omega
set_option maxRecDepth 100000 in
set_option maxHeartbeats 4000000 in
theorem c_canStand {l : Launch} {E : zE} {d : Nat} {M : zH} (c o : Nat) (due : Bool) (hc : c < 128) (ho : o < 100) : nX1_canStand l E (d + 4) [.int (nI c), .int (nI o), .int (nI (if due = true then 1 else 0))] M (z_i fun v M' => ((v = 1 ∧ m_ok c o due) ∨ (v = 0 ∧ ¬ m_ok c o due)) ∧ M' = M) := by
  refine z_cn 1 fun P z C => ?_
  have e49 : (49 : Int32) = nI 49 := rfl
  have e57 : (57 : Int32) = nI 57 := rfl
  have e40 : (40 : Int32) = nI 40 := rfl
  have e41 : (41 : Int32) = nI 41 := rfl
  have e3 : (3 : Int32) = nI 3 := rfl
  have hi2 : ∀ c, c < 128 → ((nI c).toUInt32 % 65536).toInt32 = nI c := by decide
  refine z_run C [] 20 ?_
  simp only [z_x, z_n, z_stop, z_mem, z_ldi, z_lda, z_sto, z_s1, z_s2, z_sa, z_sv, z_br, z_bn, z_ob, z_ar, z_aq, z_al, z_rt, z_ra, z_at, z_st, z_K0i, z_K0v, zk_0, zk_1, zk_2, zk_3, z_lv, List.map_cons, List.map_nil, List.length_cons, List.length_nil, List.replicate, List.cons_append, List.nil_append, Nat.reduceAdd, Nat.reduceSub, Nat.reduceBEq, Nat.reduceEqDiff, Nat.reduceLT, Nat.reduceLeDiff, Nat.zero_add, Int.cast_ofNat_Int, Int.reduceAdd, Int.reduceNeg, Int.reduceToNat, Int.reduceLE, Int.zero_add, Int.toNat_zero, Int.add_zero, Int.add_neg_cancel_right, Fin.isValue, Int32.reduceOfInt, ↓reduceIte, Bool.false_eq_true, Bool.or_false, Bool.false_or, Bool.or_true, Bool.true_or, if_true, if_false, true_and, and_true, true_or, or_true, false_or, or_false, eq_self, and_self, z_up_i, Nat.add_left_cancel_iff, Nat.left_eq_add, Nat.add_eq_left, reduceCtorEq, Nat.add_one_ne_zero, z_tt, implies_true, zn_0, zn_1, zo_0, zo_1, dX1_canStand_0, dX1_canStand_1, dX1_canStand_4, dX1_canStand_5, dX1_canStand_7, dX1_canStand_10, dX1_canStand_11, dX1_canStand_13, dX1_canStand_16, dX1_canStand_17, dX1_canStand_20, dX1_canStand_21, dX1_canStand_22, dX1_canStand_23, dX1_canStand_25, dX1_canStand_28, dX1_canStand_29, dX1_canStand_30, dX1_canStand_33, dX1_canStand_34, dX1_canStand_37, dX1_canStand_38, dX1_canStand_39, dX1_canStand_40, dX1_canStand_42, dX1_canStand_45, dX1_canStand_46, dX1_canStand_49, dX1_canStand_50, dX1_canStand_53, dX1_canStand_54, dX1_canStand_55, dX1_canStand_56, dX1_canStand_59, dX1_canStand_62, dX1_canStand_64, dX1_canStand_65, dX1_canStand_66, dX1_canStand_69, dX1_canStand_72, dX1_canStand_73, dX1_canStand_76, dX1_canStand_77, zb_40, zb_41, zb_49, zb_57, zi_0, zi_1, zi_3]
  rw [e49, e57, e40, e41, e3, nI_ltI (by omega) (by omega), nI_ltI (by omega) (by omega), nI_eq (by omega) (by omega), nI_eq (by omega) (by omega), nI_leI (by omega) (by omega), show (nI o ≤ 0) = (o ≤ 0) from propext (nI_leI (b := 0) (by omega) (by omega))]
  cases due
  · refine ⟨fun _ => ?_, fun c => absurd rfl c⟩
    refine ⟨fun c1 => ⟨fun c2 => ⟨Or.inr ⟨rfl, ?_⟩, rfl⟩, fun c2 => ⟨Or.inl ⟨rfl, ?_⟩, rfl⟩⟩, fun c1 => ⟨fun c2 => ⟨fun c3 => ⟨Or.inr ⟨rfl, ?_⟩, rfl⟩, fun c3 => ⟨Or.inl ⟨rfl, ?_⟩, rfl⟩⟩, fun c2 => ?_⟩⟩
    · simp [m_ok, c1]; omega
    · simp [m_ok, c1]; omega
    · simp [m_ok, c1, c2]; omega
    · simp [m_ok, c1, c2]; omega
    · have hok : m_ok c o false = (m_isS c ∨ m_isK c) := by simp [m_ok, c1, c2]
      refine z_si C dX1_canStand_56 lk_1_33 (c_isSpot c (by omega)) rfl (fun v M2 hv => ?_)
      obtain ⟨hv, rfl⟩ := hv
      refine z_run C [] 3 ?_
      simp only [z_x, z_n, z_stop, z_mem, z_ldi, z_lda, z_sto, z_s1, z_s2, z_sa, z_sv, z_br, z_bn, z_ob, z_ar, z_aq, z_al, z_rt, z_ra, z_at, z_st, z_K0i, z_K0v, zk_0, zk_1, zk_2, zk_3, z_lv, List.map_cons, List.map_nil, List.length_cons, List.length_nil, List.replicate, List.cons_append, List.nil_append, Nat.reduceAdd, Nat.reduceSub, Nat.reduceBEq, Nat.reduceEqDiff, Nat.reduceLT, Nat.reduceLeDiff, Nat.zero_add, Int.cast_ofNat_Int, Int.reduceAdd, Int.reduceNeg, Int.reduceToNat, Int.reduceLE, Int.zero_add, Int.toNat_zero, Int.add_zero, Int.add_neg_cancel_right, Fin.isValue, Int32.reduceOfInt, ↓reduceIte, Bool.false_eq_true, Bool.or_false, Bool.false_or, Bool.or_true, Bool.true_or, if_true, if_false, true_and, and_true, true_or, or_true, false_or, or_false, eq_self, and_self, z_up_i, Nat.add_left_cancel_iff, Nat.left_eq_add, Nat.add_eq_left, reduceCtorEq, Nat.add_one_ne_zero, z_tt, implies_true, zn_0, zn_1, zo_0, zo_1, dX1_canStand_0, dX1_canStand_1, dX1_canStand_4, dX1_canStand_5, dX1_canStand_7, dX1_canStand_10, dX1_canStand_11, dX1_canStand_13, dX1_canStand_16, dX1_canStand_17, dX1_canStand_20, dX1_canStand_21, dX1_canStand_22, dX1_canStand_23, dX1_canStand_25, dX1_canStand_28, dX1_canStand_29, dX1_canStand_30, dX1_canStand_33, dX1_canStand_34, dX1_canStand_37, dX1_canStand_38, dX1_canStand_39, dX1_canStand_40, dX1_canStand_42, dX1_canStand_45, dX1_canStand_46, dX1_canStand_49, dX1_canStand_50, dX1_canStand_53, dX1_canStand_54, dX1_canStand_55, dX1_canStand_56, dX1_canStand_59, dX1_canStand_62, dX1_canStand_64, dX1_canStand_65, dX1_canStand_66, dX1_canStand_69, dX1_canStand_72, dX1_canStand_73, dX1_canStand_76, dX1_canStand_77, zb_40, zb_41, zb_49, zb_57, zi_0, zi_1, zi_3]
      rcases hv with ⟨rfl, hS⟩ | ⟨rfl, hS⟩
      · refine ⟨fun c => absurd c (by decide), fun _ => ?_⟩
        refine z_run C [] 3 ?_
        simp only [z_x, z_n, z_stop, z_mem, z_ldi, z_lda, z_sto, z_s1, z_s2, z_sa, z_sv, z_br, z_bn, z_ob, z_ar, z_aq, z_al, z_rt, z_ra, z_at, z_st, z_K0i, z_K0v, zk_0, zk_1, zk_2, zk_3, z_lv, List.map_cons, List.map_nil, List.length_cons, List.length_nil, List.replicate, List.cons_append, List.nil_append, Nat.reduceAdd, Nat.reduceSub, Nat.reduceBEq, Nat.reduceEqDiff, Nat.reduceLT, Nat.reduceLeDiff, Nat.zero_add, Int.cast_ofNat_Int, Int.reduceAdd, Int.reduceNeg, Int.reduceToNat, Int.reduceLE, Int.zero_add, Int.toNat_zero, Int.add_zero, Int.add_neg_cancel_right, Fin.isValue, Int32.reduceOfInt, ↓reduceIte, Bool.false_eq_true, Bool.or_false, Bool.false_or, Bool.or_true, Bool.true_or, if_true, if_false, true_and, and_true, true_or, or_true, false_or, or_false, eq_self, and_self, z_up_i, Nat.add_left_cancel_iff, Nat.left_eq_add, Nat.add_eq_left, reduceCtorEq, Nat.add_one_ne_zero, z_tt, implies_true, zn_0, zn_1, zo_0, zo_1, dX1_canStand_0, dX1_canStand_1, dX1_canStand_4, dX1_canStand_5, dX1_canStand_7, dX1_canStand_10, dX1_canStand_11, dX1_canStand_13, dX1_canStand_16, dX1_canStand_17, dX1_canStand_20, dX1_canStand_21, dX1_canStand_22, dX1_canStand_23, dX1_canStand_25, dX1_canStand_28, dX1_canStand_29, dX1_canStand_30, dX1_canStand_33, dX1_canStand_34, dX1_canStand_37, dX1_canStand_38, dX1_canStand_39, dX1_canStand_40, dX1_canStand_42, dX1_canStand_45, dX1_canStand_46, dX1_canStand_49, dX1_canStand_50, dX1_canStand_53, dX1_canStand_54, dX1_canStand_55, dX1_canStand_56, dX1_canStand_59, dX1_canStand_62, dX1_canStand_64, dX1_canStand_65, dX1_canStand_66, dX1_canStand_69, dX1_canStand_72, dX1_canStand_73, dX1_canStand_76, dX1_canStand_77, zb_40, zb_41, zb_49, zb_57, zi_0, zi_1, zi_3]
        rw [hok]
        exact ⟨Or.inl ⟨rfl, Or.inl hS⟩, rfl⟩
      · refine ⟨fun _ => ?_, fun c => absurd rfl c⟩
        refine z_ldcR C dX1_canStand_62 ?_
        refine z_run C [] 2 ?_
        simp only [z_x, z_n, z_stop, z_mem, z_ldi, z_lda, z_sto, z_s1, z_s2, z_sa, z_sv, z_br, z_bn, z_ob, z_ar, z_aq, z_al, z_rt, z_ra, z_at, z_st, z_K0i, z_K0v, zk_0, zk_1, zk_2, zk_3, z_lv, List.map_cons, List.map_nil, List.length_cons, List.length_nil, List.replicate, List.cons_append, List.nil_append, Nat.reduceAdd, Nat.reduceSub, Nat.reduceBEq, Nat.reduceEqDiff, Nat.reduceLT, Nat.reduceLeDiff, Nat.zero_add, Int.cast_ofNat_Int, Int.reduceAdd, Int.reduceNeg, Int.reduceToNat, Int.reduceLE, Int.zero_add, Int.toNat_zero, Int.add_zero, Int.add_neg_cancel_right, Fin.isValue, Int32.reduceOfInt, ↓reduceIte, Bool.false_eq_true, Bool.or_false, Bool.false_or, Bool.or_true, Bool.true_or, if_true, if_false, true_and, and_true, true_or, or_true, false_or, or_false, eq_self, and_self, z_up_i, Nat.add_left_cancel_iff, Nat.left_eq_add, Nat.add_eq_left, reduceCtorEq, Nat.add_one_ne_zero, z_tt, implies_true, zn_0, zn_1, zo_0, zo_1, dX1_canStand_0, dX1_canStand_1, dX1_canStand_4, dX1_canStand_5, dX1_canStand_7, dX1_canStand_10, dX1_canStand_11, dX1_canStand_13, dX1_canStand_16, dX1_canStand_17, dX1_canStand_20, dX1_canStand_21, dX1_canStand_22, dX1_canStand_23, dX1_canStand_25, dX1_canStand_28, dX1_canStand_29, dX1_canStand_30, dX1_canStand_33, dX1_canStand_34, dX1_canStand_37, dX1_canStand_38, dX1_canStand_39, dX1_canStand_40, dX1_canStand_42, dX1_canStand_45, dX1_canStand_46, dX1_canStand_49, dX1_canStand_50, dX1_canStand_53, dX1_canStand_54, dX1_canStand_55, dX1_canStand_56, dX1_canStand_59, dX1_canStand_62, dX1_canStand_64, dX1_canStand_65, dX1_canStand_66, dX1_canStand_69, dX1_canStand_72, dX1_canStand_73, dX1_canStand_76, dX1_canStand_77, zb_40, zb_41, zb_49, zb_57, zi_0, zi_1, zi_3]
        rw [hi2 c hc]
        refine z_ti (i := 0) C (by omega) dX1_canStand_66 lk_1_39 (c_indexOf (by omega) hc) rfl (fun v M2 hv => ?_)
        obtain ⟨rfl, rfl⟩ := hv
        refine z_run C [] 6 ?_
        simp only [z_x, z_n, z_stop, z_mem, z_ldi, z_lda, z_sto, z_s1, z_s2, z_sa, z_sv, z_br, z_bn, z_ob, z_ar, z_aq, z_al, z_rt, z_ra, z_at, z_st, z_K0i, z_K0v, zk_0, zk_1, zk_2, zk_3, z_lv, List.map_cons, List.map_nil, List.length_cons, List.length_nil, List.replicate, List.cons_append, List.nil_append, Nat.reduceAdd, Nat.reduceSub, Nat.reduceBEq, Nat.reduceEqDiff, Nat.reduceLT, Nat.reduceLeDiff, Nat.zero_add, Int.cast_ofNat_Int, Int.reduceAdd, Int.reduceNeg, Int.reduceToNat, Int.reduceLE, Int.zero_add, Int.toNat_zero, Int.add_zero, Int.add_neg_cancel_right, Fin.isValue, Int32.reduceOfInt, ↓reduceIte, Bool.false_eq_true, Bool.or_false, Bool.false_or, Bool.or_true, Bool.true_or, if_true, if_false, true_and, and_true, true_or, or_true, false_or, or_false, eq_self, and_self, z_up_i, Nat.add_left_cancel_iff, Nat.left_eq_add, Nat.add_eq_left, reduceCtorEq, Nat.add_one_ne_zero, z_tt, implies_true, zn_0, zn_1, zo_0, zo_1, dX1_canStand_0, dX1_canStand_1, dX1_canStand_4, dX1_canStand_5, dX1_canStand_7, dX1_canStand_10, dX1_canStand_11, dX1_canStand_13, dX1_canStand_16, dX1_canStand_17, dX1_canStand_20, dX1_canStand_21, dX1_canStand_22, dX1_canStand_23, dX1_canStand_25, dX1_canStand_28, dX1_canStand_29, dX1_canStand_30, dX1_canStand_33, dX1_canStand_34, dX1_canStand_37, dX1_canStand_38, dX1_canStand_39, dX1_canStand_40, dX1_canStand_42, dX1_canStand_45, dX1_canStand_46, dX1_canStand_49, dX1_canStand_50, dX1_canStand_53, dX1_canStand_54, dX1_canStand_55, dX1_canStand_56, dX1_canStand_59, dX1_canStand_62, dX1_canStand_64, dX1_canStand_65, dX1_canStand_66, dX1_canStand_69, dX1_canStand_72, dX1_canStand_73, dX1_canStand_76, dX1_canStand_77, zb_40, zb_41, zb_49, zb_57, zi_0, zi_1, zi_3]
        rw [hok]
        by_cases hk : m_isK c
        · obtain ⟨k1, k2⟩ := m_kI_k hk
          rw [k1]
          exact ⟨fun c => absurd c (nI_pos (by omega)), fun _ => ⟨Or.inl ⟨rfl, Or.inr hk⟩, rfl⟩⟩
        · rw [m_kI_n hk]
          exact ⟨fun _ => ⟨Or.inr ⟨rfl, fun h => h.elim hS hk⟩, rfl⟩, fun c => absurd (by decide) c⟩
  · refine ⟨fun c => absurd c (by decide), fun _ => ?_⟩
    refine ⟨fun c1 => ⟨Or.inr ⟨rfl, ?_⟩, rfl⟩, fun c1 => ⟨fun c2 => ⟨Or.inr ⟨rfl, ?_⟩, rfl⟩, fun c2 => ⟨Or.inl ⟨rfl, ?_⟩, rfl⟩⟩⟩ <;> simp [m_ok] <;> omega
noncomputable def m_fl : List Nat → Nat → Nat → Bool → Int32
  | [], i, o, due => @ite _ (0 < o ∨ due = true) (Classical.propDecidable _) (nI i) (-6)
  | c :: l, i, o, due => @ite _ (m_ok c o due) (Classical.propDecidable _) (m_fl l (i + 1) (m_opn c o) (c == 41)) (nI i)
theorem m_fl_nil (i o : Nat) (due : Bool) : m_fl [] i o due = @ite _ (0 < o ∨ due = true) (Classical.propDecidable _) (nI i) (-6) := by rw [m_fl]
theorem m_fl_cons (c : Nat) (l : List Nat) (i o : Nat) (due : Bool) : m_fl (c :: l) i o due = @ite _ (m_ok c o due) (Classical.propDecidable _) (m_fl l (i + 1) (m_opn c o) (c == 41)) (nI i) := by rw [m_fl]
theorem m_fl_wf : ∀ (l : List Nat) (i o : Nat) (due : Bool), i + l.length < 2 ^ 30 → (m_fl l i o due = -6 ↔ m_wf l o due) ∧ (m_fl l i o due = -6 ∨ ∃ k, k ≤ i + l.length ∧ m_fl l i o due = nI k)
  | [], i, o, due, h => by
    have hn : ∀ k : Nat, k < 2 ^ 30 → ¬ nI k = -6 := fun k hk e => by
      have h1 := congrArg Int32.toInt e
      rw [nI_toInt (by omega)] at h1
      have h2 : (-6 : Int32).toInt = -6 := by decide
      omega
    unfold m_fl m_wf
    by_cases h1 : 0 < o ∨ due = true
    · rw [if_pos h1]
      simp only [List.length_nil, Nat.add_zero] at h ⊢
      refine ⟨⟨fun e => absurd e (hn i h), fun e => ?_⟩, Or.inr ⟨i, by omega, rfl⟩⟩
      rcases h1 with h1 | h1
      · omega
      · rw [e.2] at h1; cases h1
    · rw [if_neg h1]
      simp only [not_or] at h1
      refine ⟨⟨fun _ => ⟨by omega, by cases due; rfl; exact absurd rfl h1.2⟩, fun _ => rfl⟩, Or.inl rfl⟩
  | c :: l, i, o, due, h => by
    have hn : ∀ k : Nat, k < 2 ^ 30 → ¬ nI k = -6 := fun k hk e => by
      have h1 := congrArg Int32.toInt e
      rw [nI_toInt (by omega)] at h1
      have h2 : (-6 : Int32).toInt = -6 := by decide
      omega
    simp only [List.length_cons] at h
    obtain ⟨g1, g2⟩ := m_fl_wf l (i + 1) (m_opn c o) (c == 41) (by omega)
    unfold m_fl m_wf
    by_cases h1 : m_ok c o due
    · rw [if_pos h1]
      refine ⟨⟨fun e => ⟨h1, g1.mp e⟩, fun e => g1.mpr e.2⟩, ?_⟩
      rcases g2 with g2 | ⟨k, k1, k2⟩
      · exact Or.inl g2
      · exact Or.inr ⟨k, by simp only [List.length_cons]; omega, k2⟩
    · rw [if_neg h1]
      exact ⟨⟨fun e => absurd e (hn i (by omega)), fun e => absurd e.1 h1⟩, Or.inr ⟨i, by omega, rfl⟩⟩
set_option maxRecDepth 100000 in
set_option maxHeartbeats 4000000 in
theorem c_faultPlace {l : Launch} {E : zE} {d : Nat} {M : zH} {p : Nat} {pad : List Nat} (hr : z_row M p 40 (pad.map nI)) (hs : ∀ c ∈ pad, c < 128) : nX1_faultPlace l E (d + 5) [.ref p] M (z_i fun v M' => v = m_fl pad 0 0 false ∧ M' = M) := by
  refine z_cn 1 fun P z C => ?_
  have hcap := hr.le
  simp only [List.length_map] at hcap
  have loop : ∀ (n i o : Nat) (due : Bool), i + n = pad.length → o ≤ i → m_fl pad 0 0 false = m_fl (pad.drop i) i o due → ∀ u, P (M, z, 0, 0) 6 [some (.ref p), some (.int (nI o)), some (.int (nI (if due = true then 1 else 0))), some (.int (nI i)), u] [] := by
    intro n
    induction n with
    | zero =>
      intro i o due hi ho hm u
      refine z_run C [] 5 ?_
      simp only [z_x, z_n, z_stop, z_mem, z_ldi, z_lda, z_sto, z_s1, z_s2, z_sa, z_sv, z_br, z_bn, z_ob, z_ar, z_aq, z_al, z_rt, z_ra, z_at, z_st, z_K0i, z_K0v, zk_0, zk_1, zk_2, zk_3, z_lv, List.map_cons, List.map_nil, List.length_cons, List.length_nil, List.replicate, List.cons_append, List.nil_append, Nat.reduceAdd, Nat.reduceSub, Nat.reduceBEq, Nat.reduceEqDiff, Nat.reduceLT, Nat.reduceLeDiff, Nat.zero_add, Int.cast_ofNat_Int, Int.reduceAdd, Int.reduceNeg, Int.reduceToNat, Int.reduceLE, Int.zero_add, Int.toNat_zero, Int.add_zero, Int.add_neg_cancel_right, Fin.isValue, Int32.reduceOfInt, ↓reduceIte, Bool.false_eq_true, Bool.or_false, Bool.false_or, Bool.or_true, Bool.true_or, if_true, if_false, true_and, and_true, true_or, or_true, false_or, or_false, eq_self, and_self, z_up_i, Nat.add_left_cancel_iff, Nat.left_eq_add, Nat.add_eq_left, reduceCtorEq, Nat.add_one_ne_zero, z_tt, implies_true, zn_0, zn_1, zo_0, zo_1, dX1_faultPlace_0, dX1_faultPlace_1, dX1_faultPlace_2, dX1_faultPlace_3, dX1_faultPlace_4, dX1_faultPlace_5, dX1_faultPlace_6, dX1_faultPlace_7, dX1_faultPlace_8, dX1_faultPlace_11, dX1_faultPlace_14, dX1_faultPlace_15, dX1_faultPlace_16, dX1_faultPlace_19, dX1_faultPlace_21, dX1_faultPlace_23, dX1_faultPlace_24, dX1_faultPlace_25, dX1_faultPlace_28, dX1_faultPlace_31, dX1_faultPlace_32, dX1_faultPlace_33, dX1_faultPlace_35, dX1_faultPlace_37, dX1_faultPlace_40, dX1_faultPlace_41, dX1_faultPlace_44, dX1_faultPlace_45, dX1_faultPlace_46, dX1_faultPlace_48, dX1_faultPlace_50, dX1_faultPlace_53, dX1_faultPlace_56, dX1_faultPlace_59, dX1_faultPlace_60, dX1_faultPlace_63, dX1_faultPlace_66, dX1_faultPlace_69, dX1_faultPlace_72, dX1_faultPlace_73, dX1_faultPlace_76, dX1_faultPlace_77, dX1_faultPlace_80, dX1_faultPlace_81, dX1_faultPlace_84, dX1_faultPlace_87, dX1_faultPlace_89, zb_40, zb_41, zb_m6, zi_0, zi_1, zi_m1]
      refine z_vi C dX1_faultPlace_8 lk_1_19 (c_size hr) rfl hr.ob (fun v M2 hv => ?_)
      obtain ⟨rfl, rfl⟩ := hv
      simp only [List.length_map]
      rw [List.drop_of_length_le (by omega)] at hm
      refine z_run C [] 10 ?_
      simp only [z_x, z_n, z_stop, z_mem, z_ldi, z_lda, z_sto, z_s1, z_s2, z_sa, z_sv, z_br, z_bn, z_ob, z_ar, z_aq, z_al, z_rt, z_ra, z_at, z_st, z_K0i, z_K0v, zk_0, zk_1, zk_2, zk_3, z_lv, List.map_cons, List.map_nil, List.length_cons, List.length_nil, List.replicate, List.cons_append, List.nil_append, Nat.reduceAdd, Nat.reduceSub, Nat.reduceBEq, Nat.reduceEqDiff, Nat.reduceLT, Nat.reduceLeDiff, Nat.zero_add, Int.cast_ofNat_Int, Int.reduceAdd, Int.reduceNeg, Int.reduceToNat, Int.reduceLE, Int.zero_add, Int.toNat_zero, Int.add_zero, Int.add_neg_cancel_right, Fin.isValue, Int32.reduceOfInt, ↓reduceIte, Bool.false_eq_true, Bool.or_false, Bool.false_or, Bool.or_true, Bool.true_or, if_true, if_false, true_and, and_true, true_or, or_true, false_or, or_false, eq_self, and_self, z_up_i, Nat.add_left_cancel_iff, Nat.left_eq_add, Nat.add_eq_left, reduceCtorEq, Nat.add_one_ne_zero, z_tt, implies_true, zn_0, zn_1, zo_0, zo_1, dX1_faultPlace_0, dX1_faultPlace_1, dX1_faultPlace_2, dX1_faultPlace_3, dX1_faultPlace_4, dX1_faultPlace_5, dX1_faultPlace_6, dX1_faultPlace_7, dX1_faultPlace_8, dX1_faultPlace_11, dX1_faultPlace_14, dX1_faultPlace_15, dX1_faultPlace_16, dX1_faultPlace_19, dX1_faultPlace_21, dX1_faultPlace_23, dX1_faultPlace_24, dX1_faultPlace_25, dX1_faultPlace_28, dX1_faultPlace_31, dX1_faultPlace_32, dX1_faultPlace_33, dX1_faultPlace_35, dX1_faultPlace_37, dX1_faultPlace_40, dX1_faultPlace_41, dX1_faultPlace_44, dX1_faultPlace_45, dX1_faultPlace_46, dX1_faultPlace_48, dX1_faultPlace_50, dX1_faultPlace_53, dX1_faultPlace_56, dX1_faultPlace_59, dX1_faultPlace_60, dX1_faultPlace_63, dX1_faultPlace_66, dX1_faultPlace_69, dX1_faultPlace_72, dX1_faultPlace_73, dX1_faultPlace_76, dX1_faultPlace_77, dX1_faultPlace_80, dX1_faultPlace_81, dX1_faultPlace_84, dX1_faultPlace_87, dX1_faultPlace_89, zb_40, zb_41, zb_m6, zi_0, zi_1, zi_m1]
      refine ⟨fun _ => ?_, fun c1 => absurd (nI_le (by omega) (by omega)) c1⟩
      rw [m_fl_nil] at hm
      rw [show (0 < nI o) = (0 < o) from propext (nI_ltI (a := 0) (by omega) (by omega))]
      refine ⟨fun c1 => ?_, fun c1 => ?_⟩
      · rw [if_pos (Or.inl c1)] at hm
        refine z_vi C dX1_faultPlace_81 lk_1_19 (c_size hr) rfl hr.ob (fun v M2 hv => ?_)
        obtain ⟨rfl, rfl⟩ := hv
        refine z_run C [] 3 ?_
        simp only [z_x, z_n, z_stop, z_mem, z_ldi, z_lda, z_sto, z_s1, z_s2, z_sa, z_sv, z_br, z_bn, z_ob, z_ar, z_aq, z_al, z_rt, z_ra, z_at, z_st, z_K0i, z_K0v, zk_0, zk_1, zk_2, zk_3, z_lv, List.map_cons, List.map_nil, List.length_cons, List.length_nil, List.replicate, List.cons_append, List.nil_append, Nat.reduceAdd, Nat.reduceSub, Nat.reduceBEq, Nat.reduceEqDiff, Nat.reduceLT, Nat.reduceLeDiff, Nat.zero_add, Int.cast_ofNat_Int, Int.reduceAdd, Int.reduceNeg, Int.reduceToNat, Int.reduceLE, Int.zero_add, Int.toNat_zero, Int.add_zero, Int.add_neg_cancel_right, Fin.isValue, Int32.reduceOfInt, ↓reduceIte, Bool.false_eq_true, Bool.or_false, Bool.false_or, Bool.or_true, Bool.true_or, if_true, if_false, true_and, and_true, true_or, or_true, false_or, or_false, eq_self, and_self, z_up_i, Nat.add_left_cancel_iff, Nat.left_eq_add, Nat.add_eq_left, reduceCtorEq, Nat.add_one_ne_zero, z_tt, implies_true, zn_0, zn_1, zo_0, zo_1, dX1_faultPlace_0, dX1_faultPlace_1, dX1_faultPlace_2, dX1_faultPlace_3, dX1_faultPlace_4, dX1_faultPlace_5, dX1_faultPlace_6, dX1_faultPlace_7, dX1_faultPlace_8, dX1_faultPlace_11, dX1_faultPlace_14, dX1_faultPlace_15, dX1_faultPlace_16, dX1_faultPlace_19, dX1_faultPlace_21, dX1_faultPlace_23, dX1_faultPlace_24, dX1_faultPlace_25, dX1_faultPlace_28, dX1_faultPlace_31, dX1_faultPlace_32, dX1_faultPlace_33, dX1_faultPlace_35, dX1_faultPlace_37, dX1_faultPlace_40, dX1_faultPlace_41, dX1_faultPlace_44, dX1_faultPlace_45, dX1_faultPlace_46, dX1_faultPlace_48, dX1_faultPlace_50, dX1_faultPlace_53, dX1_faultPlace_56, dX1_faultPlace_59, dX1_faultPlace_60, dX1_faultPlace_63, dX1_faultPlace_66, dX1_faultPlace_69, dX1_faultPlace_72, dX1_faultPlace_73, dX1_faultPlace_76, dX1_faultPlace_77, dX1_faultPlace_80, dX1_faultPlace_81, dX1_faultPlace_84, dX1_faultPlace_87, dX1_faultPlace_89, zb_40, zb_41, zb_m6, zi_0, zi_1, zi_m1]
        exact ⟨by rw [hm]; simp only [List.length_map]; rw [show i = pad.length by omega], rfl⟩
      · cases due
        · refine ⟨fun _ => ?_, fun c => absurd rfl c⟩
          rw [if_neg (by rintro (h | h); exact c1 h; cases h)] at hm
          exact ⟨hm.symm, rfl⟩
        · refine ⟨fun c => absurd c (by decide), fun _ => ?_⟩
          rw [if_pos (Or.inr rfl)] at hm
          refine z_vi C dX1_faultPlace_81 lk_1_19 (c_size hr) rfl hr.ob (fun v M2 hv => ?_)
          obtain ⟨rfl, rfl⟩ := hv
          refine z_run C [] 3 ?_
          simp only [z_x, z_n, z_stop, z_mem, z_ldi, z_lda, z_sto, z_s1, z_s2, z_sa, z_sv, z_br, z_bn, z_ob, z_ar, z_aq, z_al, z_rt, z_ra, z_at, z_st, z_K0i, z_K0v, zk_0, zk_1, zk_2, zk_3, z_lv, List.map_cons, List.map_nil, List.length_cons, List.length_nil, List.replicate, List.cons_append, List.nil_append, Nat.reduceAdd, Nat.reduceSub, Nat.reduceBEq, Nat.reduceEqDiff, Nat.reduceLT, Nat.reduceLeDiff, Nat.zero_add, Int.cast_ofNat_Int, Int.reduceAdd, Int.reduceNeg, Int.reduceToNat, Int.reduceLE, Int.zero_add, Int.toNat_zero, Int.add_zero, Int.add_neg_cancel_right, Fin.isValue, Int32.reduceOfInt, ↓reduceIte, Bool.false_eq_true, Bool.or_false, Bool.false_or, Bool.or_true, Bool.true_or, if_true, if_false, true_and, and_true, true_or, or_true, false_or, or_false, eq_self, and_self, z_up_i, Nat.add_left_cancel_iff, Nat.left_eq_add, Nat.add_eq_left, reduceCtorEq, Nat.add_one_ne_zero, z_tt, implies_true, zn_0, zn_1, zo_0, zo_1, dX1_faultPlace_0, dX1_faultPlace_1, dX1_faultPlace_2, dX1_faultPlace_3, dX1_faultPlace_4, dX1_faultPlace_5, dX1_faultPlace_6, dX1_faultPlace_7, dX1_faultPlace_8, dX1_faultPlace_11, dX1_faultPlace_14, dX1_faultPlace_15, dX1_faultPlace_16, dX1_faultPlace_19, dX1_faultPlace_21, dX1_faultPlace_23, dX1_faultPlace_24, dX1_faultPlace_25, dX1_faultPlace_28, dX1_faultPlace_31, dX1_faultPlace_32, dX1_faultPlace_33, dX1_faultPlace_35, dX1_faultPlace_37, dX1_faultPlace_40, dX1_faultPlace_41, dX1_faultPlace_44, dX1_faultPlace_45, dX1_faultPlace_46, dX1_faultPlace_48, dX1_faultPlace_50, dX1_faultPlace_53, dX1_faultPlace_56, dX1_faultPlace_59, dX1_faultPlace_60, dX1_faultPlace_63, dX1_faultPlace_66, dX1_faultPlace_69, dX1_faultPlace_72, dX1_faultPlace_73, dX1_faultPlace_76, dX1_faultPlace_77, dX1_faultPlace_80, dX1_faultPlace_81, dX1_faultPlace_84, dX1_faultPlace_87, dX1_faultPlace_89, zb_40, zb_41, zb_m6, zi_0, zi_1, zi_m1]
          exact ⟨by rw [hm]; simp only [List.length_map]; rw [show i = pad.length by omega], rfl⟩
    | succ n ih =>
      intro i o due hi ho hm u
      refine z_run C [] 5 ?_
      simp only [z_x, z_n, z_stop, z_mem, z_ldi, z_lda, z_sto, z_s1, z_s2, z_sa, z_sv, z_br, z_bn, z_ob, z_ar, z_aq, z_al, z_rt, z_ra, z_at, z_st, z_K0i, z_K0v, zk_0, zk_1, zk_2, zk_3, z_lv, List.map_cons, List.map_nil, List.length_cons, List.length_nil, List.replicate, List.cons_append, List.nil_append, Nat.reduceAdd, Nat.reduceSub, Nat.reduceBEq, Nat.reduceEqDiff, Nat.reduceLT, Nat.reduceLeDiff, Nat.zero_add, Int.cast_ofNat_Int, Int.reduceAdd, Int.reduceNeg, Int.reduceToNat, Int.reduceLE, Int.zero_add, Int.toNat_zero, Int.add_zero, Int.add_neg_cancel_right, Fin.isValue, Int32.reduceOfInt, ↓reduceIte, Bool.false_eq_true, Bool.or_false, Bool.false_or, Bool.or_true, Bool.true_or, if_true, if_false, true_and, and_true, true_or, or_true, false_or, or_false, eq_self, and_self, z_up_i, Nat.add_left_cancel_iff, Nat.left_eq_add, Nat.add_eq_left, reduceCtorEq, Nat.add_one_ne_zero, z_tt, implies_true, zn_0, zn_1, zo_0, zo_1, dX1_faultPlace_0, dX1_faultPlace_1, dX1_faultPlace_2, dX1_faultPlace_3, dX1_faultPlace_4, dX1_faultPlace_5, dX1_faultPlace_6, dX1_faultPlace_7, dX1_faultPlace_8, dX1_faultPlace_11, dX1_faultPlace_14, dX1_faultPlace_15, dX1_faultPlace_16, dX1_faultPlace_19, dX1_faultPlace_21, dX1_faultPlace_23, dX1_faultPlace_24, dX1_faultPlace_25, dX1_faultPlace_28, dX1_faultPlace_31, dX1_faultPlace_32, dX1_faultPlace_33, dX1_faultPlace_35, dX1_faultPlace_37, dX1_faultPlace_40, dX1_faultPlace_41, dX1_faultPlace_44, dX1_faultPlace_45, dX1_faultPlace_46, dX1_faultPlace_48, dX1_faultPlace_50, dX1_faultPlace_53, dX1_faultPlace_56, dX1_faultPlace_59, dX1_faultPlace_60, dX1_faultPlace_63, dX1_faultPlace_66, dX1_faultPlace_69, dX1_faultPlace_72, dX1_faultPlace_73, dX1_faultPlace_76, dX1_faultPlace_77, dX1_faultPlace_80, dX1_faultPlace_81, dX1_faultPlace_84, dX1_faultPlace_87, dX1_faultPlace_89, zb_40, zb_41, zb_m6, zi_0, zi_1, zi_m1]
      refine z_vi C dX1_faultPlace_8 lk_1_19 (c_size hr) rfl hr.ob (fun v M2 hv => ?_)
      obtain ⟨rfl, rfl⟩ := hv
      simp only [List.length_map]
      refine z_run C [] 5 ?_
      simp only [z_x, z_n, z_stop, z_mem, z_ldi, z_lda, z_sto, z_s1, z_s2, z_sa, z_sv, z_br, z_bn, z_ob, z_ar, z_aq, z_al, z_rt, z_ra, z_at, z_st, z_K0i, z_K0v, zk_0, zk_1, zk_2, zk_3, z_lv, List.map_cons, List.map_nil, List.length_cons, List.length_nil, List.replicate, List.cons_append, List.nil_append, Nat.reduceAdd, Nat.reduceSub, Nat.reduceBEq, Nat.reduceEqDiff, Nat.reduceLT, Nat.reduceLeDiff, Nat.zero_add, Int.cast_ofNat_Int, Int.reduceAdd, Int.reduceNeg, Int.reduceToNat, Int.reduceLE, Int.zero_add, Int.toNat_zero, Int.add_zero, Int.add_neg_cancel_right, Fin.isValue, Int32.reduceOfInt, ↓reduceIte, Bool.false_eq_true, Bool.or_false, Bool.false_or, Bool.or_true, Bool.true_or, if_true, if_false, true_and, and_true, true_or, or_true, false_or, or_false, eq_self, and_self, z_up_i, Nat.add_left_cancel_iff, Nat.left_eq_add, Nat.add_eq_left, reduceCtorEq, Nat.add_one_ne_zero, z_tt, implies_true, zn_0, zn_1, zo_0, zo_1, dX1_faultPlace_0, dX1_faultPlace_1, dX1_faultPlace_2, dX1_faultPlace_3, dX1_faultPlace_4, dX1_faultPlace_5, dX1_faultPlace_6, dX1_faultPlace_7, dX1_faultPlace_8, dX1_faultPlace_11, dX1_faultPlace_14, dX1_faultPlace_15, dX1_faultPlace_16, dX1_faultPlace_19, dX1_faultPlace_21, dX1_faultPlace_23, dX1_faultPlace_24, dX1_faultPlace_25, dX1_faultPlace_28, dX1_faultPlace_31, dX1_faultPlace_32, dX1_faultPlace_33, dX1_faultPlace_35, dX1_faultPlace_37, dX1_faultPlace_40, dX1_faultPlace_41, dX1_faultPlace_44, dX1_faultPlace_45, dX1_faultPlace_46, dX1_faultPlace_48, dX1_faultPlace_50, dX1_faultPlace_53, dX1_faultPlace_56, dX1_faultPlace_59, dX1_faultPlace_60, dX1_faultPlace_63, dX1_faultPlace_66, dX1_faultPlace_69, dX1_faultPlace_72, dX1_faultPlace_73, dX1_faultPlace_76, dX1_faultPlace_77, dX1_faultPlace_80, dX1_faultPlace_81, dX1_faultPlace_84, dX1_faultPlace_87, dX1_faultPlace_89, zb_40, zb_41, zb_m6, zi_0, zi_1, zi_m1]
      refine ⟨fun c1 => absurd ((nI_leI (by omega) (by omega)).mp c1) (by omega), fun _ => ?_⟩
      refine z_vi C dX1_faultPlace_16 lk_1_25 (c_get (nI i) hr) rfl hr.ob (fun v M2 hv => ?_)
      obtain ⟨rfl, rfl⟩ := hv
      rw [z_getN (by omega) (by omega)]
      have hg : pad[i]? = some (pad.getD i 0) := by simp [show i < pad.length by omega]
      have hlt := hs _ (List.mem_of_getElem? hg)
      have hdr : pad.drop i = pad.getD i 0 :: pad.drop (i + 1) := by
        rw [List.drop_eq_getElem_cons (by omega)]; simp [show i < pad.length by omega]
      generalize pad.getD i 0 = c at hg hlt hdr
      rw [hdr, m_fl_cons] at hm
      refine z_run C [] 5 ?_
      simp only [z_x, z_n, z_stop, z_mem, z_ldi, z_lda, z_sto, z_s1, z_s2, z_sa, z_sv, z_br, z_bn, z_ob, z_ar, z_aq, z_al, z_rt, z_ra, z_at, z_st, z_K0i, z_K0v, zk_0, zk_1, zk_2, zk_3, z_lv, List.map_cons, List.map_nil, List.length_cons, List.length_nil, List.replicate, List.cons_append, List.nil_append, Nat.reduceAdd, Nat.reduceSub, Nat.reduceBEq, Nat.reduceEqDiff, Nat.reduceLT, Nat.reduceLeDiff, Nat.zero_add, Int.cast_ofNat_Int, Int.reduceAdd, Int.reduceNeg, Int.reduceToNat, Int.reduceLE, Int.zero_add, Int.toNat_zero, Int.add_zero, Int.add_neg_cancel_right, Fin.isValue, Int32.reduceOfInt, ↓reduceIte, Bool.false_eq_true, Bool.or_false, Bool.false_or, Bool.or_true, Bool.true_or, if_true, if_false, true_and, and_true, true_or, or_true, false_or, or_false, eq_self, and_self, z_up_i, Nat.add_left_cancel_iff, Nat.left_eq_add, Nat.add_eq_left, reduceCtorEq, Nat.add_one_ne_zero, z_tt, implies_true, zn_0, zn_1, zo_0, zo_1, dX1_faultPlace_0, dX1_faultPlace_1, dX1_faultPlace_2, dX1_faultPlace_3, dX1_faultPlace_4, dX1_faultPlace_5, dX1_faultPlace_6, dX1_faultPlace_7, dX1_faultPlace_8, dX1_faultPlace_11, dX1_faultPlace_14, dX1_faultPlace_15, dX1_faultPlace_16, dX1_faultPlace_19, dX1_faultPlace_21, dX1_faultPlace_23, dX1_faultPlace_24, dX1_faultPlace_25, dX1_faultPlace_28, dX1_faultPlace_31, dX1_faultPlace_32, dX1_faultPlace_33, dX1_faultPlace_35, dX1_faultPlace_37, dX1_faultPlace_40, dX1_faultPlace_41, dX1_faultPlace_44, dX1_faultPlace_45, dX1_faultPlace_46, dX1_faultPlace_48, dX1_faultPlace_50, dX1_faultPlace_53, dX1_faultPlace_56, dX1_faultPlace_59, dX1_faultPlace_60, dX1_faultPlace_63, dX1_faultPlace_66, dX1_faultPlace_69, dX1_faultPlace_72, dX1_faultPlace_73, dX1_faultPlace_76, dX1_faultPlace_77, dX1_faultPlace_80, dX1_faultPlace_81, dX1_faultPlace_84, dX1_faultPlace_87, dX1_faultPlace_89, zb_40, zb_41, zb_m6, zi_0, zi_1, zi_m1]
      refine z_si C dX1_faultPlace_25 lk_1_29 (c_canStand c o due hlt (by omega)) rfl (fun v M2 hv => ?_)
      obtain ⟨hv, rfl⟩ := hv
      rcases hv with ⟨rfl, hok⟩ | ⟨rfl, hok⟩
      · rw [if_pos hok] at hm
        refine z_run C [6] 20 ?_
        simp only [z_x, z_n, z_stop, z_mem, z_ldi, z_lda, z_sto, z_s1, z_s2, z_sa, z_sv, z_br, z_bn, z_ob, z_ar, z_aq, z_al, z_rt, z_ra, z_at, z_st, z_K0i, z_K0v, zk_0, zk_1, zk_2, zk_3, z_lv, List.map_cons, List.map_nil, List.length_cons, List.length_nil, List.replicate, List.cons_append, List.nil_append, Nat.reduceAdd, Nat.reduceSub, Nat.reduceBEq, Nat.reduceEqDiff, Nat.reduceLT, Nat.reduceLeDiff, Nat.zero_add, Int.cast_ofNat_Int, Int.reduceAdd, Int.reduceNeg, Int.reduceToNat, Int.reduceLE, Int.zero_add, Int.toNat_zero, Int.add_zero, Int.add_neg_cancel_right, Fin.isValue, Int32.reduceOfInt, ↓reduceIte, Bool.false_eq_true, Bool.or_false, Bool.false_or, Bool.or_true, Bool.true_or, if_true, if_false, true_and, and_true, true_or, or_true, false_or, or_false, eq_self, and_self, z_up_i, Nat.add_left_cancel_iff, Nat.left_eq_add, Nat.add_eq_left, reduceCtorEq, Nat.add_one_ne_zero, z_tt, implies_true, zn_0, zn_1, zo_0, zo_1, dX1_faultPlace_0, dX1_faultPlace_1, dX1_faultPlace_2, dX1_faultPlace_3, dX1_faultPlace_4, dX1_faultPlace_5, dX1_faultPlace_6, dX1_faultPlace_7, dX1_faultPlace_8, dX1_faultPlace_11, dX1_faultPlace_14, dX1_faultPlace_15, dX1_faultPlace_16, dX1_faultPlace_19, dX1_faultPlace_21, dX1_faultPlace_23, dX1_faultPlace_24, dX1_faultPlace_25, dX1_faultPlace_28, dX1_faultPlace_31, dX1_faultPlace_32, dX1_faultPlace_33, dX1_faultPlace_35, dX1_faultPlace_37, dX1_faultPlace_40, dX1_faultPlace_41, dX1_faultPlace_44, dX1_faultPlace_45, dX1_faultPlace_46, dX1_faultPlace_48, dX1_faultPlace_50, dX1_faultPlace_53, dX1_faultPlace_56, dX1_faultPlace_59, dX1_faultPlace_60, dX1_faultPlace_63, dX1_faultPlace_66, dX1_faultPlace_69, dX1_faultPlace_72, dX1_faultPlace_73, dX1_faultPlace_76, dX1_faultPlace_77, dX1_faultPlace_80, dX1_faultPlace_81, dX1_faultPlace_84, dX1_faultPlace_87, dX1_faultPlace_89, zb_40, zb_41, zb_m6, zi_0, zi_1, zi_m1]
        refine ⟨fun c => absurd c (by decide), fun _ => ?_⟩
        rw [show (41 : Int32) = nI 41 from rfl, show (40 : Int32) = nI 40 from rfl, nI_eq (by omega) (by omega), nI_eq (by omega) (by omega), nI_1, nI_1]
        have e1 : (1 : Int32) = nI (if (true : Bool) = true then 1 else 0) := rfl
        have e0 : (0 : Int32) = nI (if (false : Bool) = true then 1 else 0) := rfl
        refine ⟨fun c1 => ⟨fun c2 => ?_, fun c2 => ?_⟩, fun c1 => ⟨fun c2 => ?_, fun c2 => ?_⟩⟩
        · omega
        · subst c1
          refine ⟨fun c => absurd c (by decide), fun _ => ?_⟩
          have ho1 : 0 < o := by
            cases due
            · simpa [m_ok] using hok
            · simp [m_ok] at hok
          rw [show nI o + -1 = nI (o - 1) from by rw [show o = (o - 1) + 1 by omega]; exact pk_m1 _]
          exact ih (i + 1) (o - 1) true (by omega) (by omega) hm _
        · subst c2
          exact ih (i + 1) (o + 1) false (by omega) (by omega) hm _
        · refine ⟨fun _ => ?_, fun c => absurd trivial c⟩
          have e5 : (c == 41) = false := by simp [c1]
          rw [e5, show m_opn c o = o from by simp [m_opn, c1, c2]] at hm
          exact ih (i + 1) o false (by omega) (by omega) hm _
      · rw [if_neg hok] at hm
        refine z_run C [6] 20 ?_
        simp only [z_x, z_n, z_stop, z_mem, z_ldi, z_lda, z_sto, z_s1, z_s2, z_sa, z_sv, z_br, z_bn, z_ob, z_ar, z_aq, z_al, z_rt, z_ra, z_at, z_st, z_K0i, z_K0v, zk_0, zk_1, zk_2, zk_3, z_lv, List.map_cons, List.map_nil, List.length_cons, List.length_nil, List.replicate, List.cons_append, List.nil_append, Nat.reduceAdd, Nat.reduceSub, Nat.reduceBEq, Nat.reduceEqDiff, Nat.reduceLT, Nat.reduceLeDiff, Nat.zero_add, Int.cast_ofNat_Int, Int.reduceAdd, Int.reduceNeg, Int.reduceToNat, Int.reduceLE, Int.zero_add, Int.toNat_zero, Int.add_zero, Int.add_neg_cancel_right, Fin.isValue, Int32.reduceOfInt, ↓reduceIte, Bool.false_eq_true, Bool.or_false, Bool.false_or, Bool.or_true, Bool.true_or, if_true, if_false, true_and, and_true, true_or, or_true, false_or, or_false, eq_self, and_self, z_up_i, Nat.add_left_cancel_iff, Nat.left_eq_add, Nat.add_eq_left, reduceCtorEq, Nat.add_one_ne_zero, z_tt, implies_true, zn_0, zn_1, zo_0, zo_1, dX1_faultPlace_0, dX1_faultPlace_1, dX1_faultPlace_2, dX1_faultPlace_3, dX1_faultPlace_4, dX1_faultPlace_5, dX1_faultPlace_6, dX1_faultPlace_7, dX1_faultPlace_8, dX1_faultPlace_11, dX1_faultPlace_14, dX1_faultPlace_15, dX1_faultPlace_16, dX1_faultPlace_19, dX1_faultPlace_21, dX1_faultPlace_23, dX1_faultPlace_24, dX1_faultPlace_25, dX1_faultPlace_28, dX1_faultPlace_31, dX1_faultPlace_32, dX1_faultPlace_33, dX1_faultPlace_35, dX1_faultPlace_37, dX1_faultPlace_40, dX1_faultPlace_41, dX1_faultPlace_44, dX1_faultPlace_45, dX1_faultPlace_46, dX1_faultPlace_48, dX1_faultPlace_50, dX1_faultPlace_53, dX1_faultPlace_56, dX1_faultPlace_59, dX1_faultPlace_60, dX1_faultPlace_63, dX1_faultPlace_66, dX1_faultPlace_69, dX1_faultPlace_72, dX1_faultPlace_73, dX1_faultPlace_76, dX1_faultPlace_77, dX1_faultPlace_80, dX1_faultPlace_81, dX1_faultPlace_84, dX1_faultPlace_87, dX1_faultPlace_89, zb_40, zb_41, zb_m6, zi_0, zi_1, zi_m1]
        exact ⟨fun _ => ⟨hm.symm, rfl⟩, fun c => absurd trivial c⟩
  refine z_run C [6] 7 ?_
  simp only [z_x, z_n, z_stop, z_mem, z_ldi, z_lda, z_sto, z_s1, z_s2, z_sa, z_sv, z_br, z_bn, z_ob, z_ar, z_aq, z_al, z_rt, z_ra, z_at, z_st, z_K0i, z_K0v, zk_0, zk_1, zk_2, zk_3, z_lv, List.map_cons, List.map_nil, List.length_cons, List.length_nil, List.replicate, List.cons_append, List.nil_append, Nat.reduceAdd, Nat.reduceSub, Nat.reduceBEq, Nat.reduceEqDiff, Nat.reduceLT, Nat.reduceLeDiff, Nat.zero_add, Int.cast_ofNat_Int, Int.reduceAdd, Int.reduceNeg, Int.reduceToNat, Int.reduceLE, Int.zero_add, Int.toNat_zero, Int.add_zero, Int.add_neg_cancel_right, Fin.isValue, Int32.reduceOfInt, ↓reduceIte, Bool.false_eq_true, Bool.or_false, Bool.false_or, Bool.or_true, Bool.true_or, if_true, if_false, true_and, and_true, true_or, or_true, false_or, or_false, eq_self, and_self, z_up_i, Nat.add_left_cancel_iff, Nat.left_eq_add, Nat.add_eq_left, reduceCtorEq, Nat.add_one_ne_zero, z_tt, implies_true, zn_0, zn_1, zo_0, zo_1, dX1_faultPlace_0, dX1_faultPlace_1, dX1_faultPlace_2, dX1_faultPlace_3, dX1_faultPlace_4, dX1_faultPlace_5, dX1_faultPlace_6, dX1_faultPlace_7, dX1_faultPlace_8, dX1_faultPlace_11, dX1_faultPlace_14, dX1_faultPlace_15, dX1_faultPlace_16, dX1_faultPlace_19, dX1_faultPlace_21, dX1_faultPlace_23, dX1_faultPlace_24, dX1_faultPlace_25, dX1_faultPlace_28, dX1_faultPlace_31, dX1_faultPlace_32, dX1_faultPlace_33, dX1_faultPlace_35, dX1_faultPlace_37, dX1_faultPlace_40, dX1_faultPlace_41, dX1_faultPlace_44, dX1_faultPlace_45, dX1_faultPlace_46, dX1_faultPlace_48, dX1_faultPlace_50, dX1_faultPlace_53, dX1_faultPlace_56, dX1_faultPlace_59, dX1_faultPlace_60, dX1_faultPlace_63, dX1_faultPlace_66, dX1_faultPlace_69, dX1_faultPlace_72, dX1_faultPlace_73, dX1_faultPlace_76, dX1_faultPlace_77, dX1_faultPlace_80, dX1_faultPlace_81, dX1_faultPlace_84, dX1_faultPlace_87, dX1_faultPlace_89, zb_40, zb_41, zb_m6, zi_0, zi_1, zi_m1]
  exact loop pad.length 0 0 false (by omega) (by omega) rfl _

def z_rp (M M' : zH) (b : Nat) (pad w0 : List Nat) (s : Nat) (f : List Nat) (ok : Prop) : Prop := z_fp M M' (z_rA b) ∧ ((w0.length + (m_app f s).length ≤ 60 ∧ z_rst M' b pad (w0 ++ m_app f s) (m_spt f s) 0 ∧ ok) ∨ (60 < w0.length + (m_app f s).length ∧ ∃ w1 s1, z_rst M' b pad w1 s1 1))
set_option maxRecDepth 100000 in
set_option maxHeartbeats 4000000 in
theorem c_readSign {l : Launch} {E : zE} {d : Nat} {M : zH} {b : Nat} {pad w0 : List Nat} {s : Nat} (c : Nat) (hc : m_isS c ∨ m_isK c) (h : z_rst M b pad w0 s 0) : nX1_readSign l E (d + 4) [.ref (b + 46), .int (nI c), .ref (b + 3)] M (z_v fun M' => z_rp M M' b pad w0 s [c] True) := by
  refine z_cn 1 fun P z C => ?_
  obtain ⟨h1, h2, h3⟩ := h
  have hlt : c < 128 := by unfold m_isS m_isK at hc; omega
  have hcap := h3.le
  simp only [List.length_map] at hcap
  have hi2 : ∀ c, c < 128 → ((nI c).toUInt32 % 65536).toInt32 = nI c := by decide
  refine z_run C [] 1 ?_
  simp only [z_x, z_n, z_stop, z_mem, z_ldi, z_lda, z_sto, z_s1, z_s2, z_sa, z_sv, z_br, z_bn, z_ob, z_ar, z_aq, z_al, z_rt, z_ra, z_at, z_st, z_K0i, z_K0v, zk_0, zk_1, zk_2, zk_3, z_lv, List.map_cons, List.map_nil, List.length_cons, List.length_nil, List.replicate, List.cons_append, List.nil_append, Nat.reduceAdd, Nat.reduceSub, Nat.reduceBEq, Nat.reduceEqDiff, Nat.reduceLT, Nat.reduceLeDiff, Nat.zero_add, Int.cast_ofNat_Int, Int.reduceAdd, Int.reduceNeg, Int.reduceToNat, Int.reduceLE, Int.zero_add, Int.toNat_zero, Int.add_zero, Int.add_neg_cancel_right, Fin.isValue, Int32.reduceOfInt, ↓reduceIte, Bool.false_eq_true, Bool.or_false, Bool.false_or, Bool.or_true, Bool.true_or, if_true, if_false, true_and, and_true, true_or, or_true, false_or, or_false, eq_self, and_self, z_up_i, Nat.add_left_cancel_iff, Nat.left_eq_add, Nat.add_eq_left, reduceCtorEq, Nat.add_one_ne_zero, z_tt, implies_true, zn_0, zn_1, zo_0, zo_1, dX1_readSign_0, dX1_readSign_1, dX1_readSign_4, dX1_readSign_7, dX1_readSign_8, dX1_readSign_9, dX1_readSign_11, dX1_readSign_12, dX1_readSign_15, dX1_readSign_18, dX1_readSign_19, dX1_readSign_20, dX1_readSign_22, dX1_readSign_23, dX1_readSign_24, dX1_readSign_27, dX1_readSign_28, dX1_readSign_31, dX1_readSign_34, dX1_readSign_37, dX1_readSign_40, dX1_readSign_41, dX1_readSign_44, dX1_readSign_45, dX1_readSign_48, zb_48, zf_1_15, zf_1_9, zi_0, zi_1, zt_1_0, zt_1_1]
  refine z_si C dX1_readSign_1 lk_1_33 (c_isSpot c (by omega)) rfl (fun v M2 hv => ?_)
  obtain ⟨hv, rfl⟩ := hv
  rcases hv with ⟨rfl, hS⟩ | ⟨rfl, hS⟩
  · refine z_run C [] 10 ?_
    simp only [z_x, z_n, z_stop, z_mem, z_ldi, z_lda, z_sto, z_s1, z_s2, z_sa, z_sv, z_br, z_bn, z_ob, z_ar, z_aq, z_al, z_rt, z_ra, z_at, z_st, z_K0i, z_K0v, zk_0, zk_1, zk_2, zk_3, z_lv, List.map_cons, List.map_nil, List.length_cons, List.length_nil, List.replicate, List.cons_append, List.nil_append, Nat.reduceAdd, Nat.reduceSub, Nat.reduceBEq, Nat.reduceEqDiff, Nat.reduceLT, Nat.reduceLeDiff, Nat.zero_add, Int.cast_ofNat_Int, Int.reduceAdd, Int.reduceNeg, Int.reduceToNat, Int.reduceLE, Int.zero_add, Int.toNat_zero, Int.add_zero, Int.add_neg_cancel_right, Fin.isValue, Int32.reduceOfInt, ↓reduceIte, Bool.false_eq_true, Bool.or_false, Bool.false_or, Bool.or_true, Bool.true_or, if_true, if_false, true_and, and_true, true_or, or_true, false_or, or_false, eq_self, and_self, z_up_i, Nat.add_left_cancel_iff, Nat.left_eq_add, Nat.add_eq_left, reduceCtorEq, Nat.add_one_ne_zero, z_tt, implies_true, zn_0, zn_1, zo_0, zo_1, dX1_readSign_0, dX1_readSign_1, dX1_readSign_4, dX1_readSign_7, dX1_readSign_8, dX1_readSign_9, dX1_readSign_11, dX1_readSign_12, dX1_readSign_15, dX1_readSign_18, dX1_readSign_19, dX1_readSign_20, dX1_readSign_22, dX1_readSign_23, dX1_readSign_24, dX1_readSign_27, dX1_readSign_28, dX1_readSign_31, dX1_readSign_34, dX1_readSign_37, dX1_readSign_40, dX1_readSign_41, dX1_readSign_44, dX1_readSign_45, dX1_readSign_48, zb_48, zf_1_15, zf_1_9, zi_0, zi_1, zt_1_0, zt_1_1, h1]
    refine ⟨fun c => absurd c (by decide), fun _ => ?_⟩
    have hS2 : 48 ≤ c ∧ c < 51 := hS
    have hfp : z_fp M2 (z_up M2 (b + 46) (Sum.inr (1, [Value.int (nI c - 48), Value.int (nI 0)]))) (z_rA b) := fun q hq => z_up_n (fun e => hq (Or.inr (Or.inr e)))
    refine ⟨hfp, Or.inl ⟨by simp [m_app, hS2]; omega, ⟨?_, h2.fp hfp (by unfold z_rA; omega) (by unfold z_rA; omega), ?_⟩, trivial⟩⟩
    · rw [z_up_s, show (48 : Int32) = nI 48 from rfl, pk_sub hS2.1]
      simp [m_spt, hS2]
    · simp [m_app, hS2]
      obtain ⟨f, g1, g2, g3⟩ := h3
      exact ⟨f, by rw [z_up_n (by omega)]; exact g1, by rw [z_up_n (by omega)]; exact g2, g3⟩
  · refine z_run C [] 4 ?_
    simp only [z_x, z_n, z_stop, z_mem, z_ldi, z_lda, z_sto, z_s1, z_s2, z_sa, z_sv, z_br, z_bn, z_ob, z_ar, z_aq, z_al, z_rt, z_ra, z_at, z_st, z_K0i, z_K0v, zk_0, zk_1, zk_2, zk_3, z_lv, List.map_cons, List.map_nil, List.length_cons, List.length_nil, List.replicate, List.cons_append, List.nil_append, Nat.reduceAdd, Nat.reduceSub, Nat.reduceBEq, Nat.reduceEqDiff, Nat.reduceLT, Nat.reduceLeDiff, Nat.zero_add, Int.cast_ofNat_Int, Int.reduceAdd, Int.reduceNeg, Int.reduceToNat, Int.reduceLE, Int.zero_add, Int.toNat_zero, Int.add_zero, Int.add_neg_cancel_right, Fin.isValue, Int32.reduceOfInt, ↓reduceIte, Bool.false_eq_true, Bool.or_false, Bool.false_or, Bool.or_true, Bool.true_or, if_true, if_false, true_and, and_true, true_or, or_true, false_or, or_false, eq_self, and_self, z_up_i, Nat.add_left_cancel_iff, Nat.left_eq_add, Nat.add_eq_left, reduceCtorEq, Nat.add_one_ne_zero, z_tt, implies_true, zn_0, zn_1, zo_0, zo_1, dX1_readSign_0, dX1_readSign_1, dX1_readSign_4, dX1_readSign_7, dX1_readSign_8, dX1_readSign_9, dX1_readSign_11, dX1_readSign_12, dX1_readSign_15, dX1_readSign_18, dX1_readSign_19, dX1_readSign_20, dX1_readSign_22, dX1_readSign_23, dX1_readSign_24, dX1_readSign_27, dX1_readSign_28, dX1_readSign_31, dX1_readSign_34, dX1_readSign_37, dX1_readSign_40, dX1_readSign_41, dX1_readSign_44, dX1_readSign_45, dX1_readSign_48, zb_48, zf_1_15, zf_1_9, zi_0, zi_1, zt_1_0, zt_1_1, h1]
    refine ⟨fun _ => ?_, fun c => absurd trivial c⟩
    have hK : m_isK c := hc.resolve_left hS
    have hS2 : ¬ (48 ≤ c ∧ c < 51) := hS
    obtain ⟨k1, k2⟩ := m_kI_k hK
    refine z_ldcR C dX1_readSign_20 ?_
    refine z_run C [] 2 ?_
    simp only [z_x, z_n, z_stop, z_mem, z_ldi, z_lda, z_sto, z_s1, z_s2, z_sa, z_sv, z_br, z_bn, z_ob, z_ar, z_aq, z_al, z_rt, z_ra, z_at, z_st, z_K0i, z_K0v, zk_0, zk_1, zk_2, zk_3, z_lv, List.map_cons, List.map_nil, List.length_cons, List.length_nil, List.replicate, List.cons_append, List.nil_append, Nat.reduceAdd, Nat.reduceSub, Nat.reduceBEq, Nat.reduceEqDiff, Nat.reduceLT, Nat.reduceLeDiff, Nat.zero_add, Int.cast_ofNat_Int, Int.reduceAdd, Int.reduceNeg, Int.reduceToNat, Int.reduceLE, Int.zero_add, Int.toNat_zero, Int.add_zero, Int.add_neg_cancel_right, Fin.isValue, Int32.reduceOfInt, ↓reduceIte, Bool.false_eq_true, Bool.or_false, Bool.false_or, Bool.or_true, Bool.true_or, if_true, if_false, true_and, and_true, true_or, or_true, false_or, or_false, eq_self, and_self, z_up_i, Nat.add_left_cancel_iff, Nat.left_eq_add, Nat.add_eq_left, reduceCtorEq, Nat.add_one_ne_zero, z_tt, implies_true, zn_0, zn_1, zo_0, zo_1, dX1_readSign_0, dX1_readSign_1, dX1_readSign_4, dX1_readSign_7, dX1_readSign_8, dX1_readSign_9, dX1_readSign_11, dX1_readSign_12, dX1_readSign_15, dX1_readSign_18, dX1_readSign_19, dX1_readSign_20, dX1_readSign_22, dX1_readSign_23, dX1_readSign_24, dX1_readSign_27, dX1_readSign_28, dX1_readSign_31, dX1_readSign_34, dX1_readSign_37, dX1_readSign_40, dX1_readSign_41, dX1_readSign_44, dX1_readSign_45, dX1_readSign_48, zb_48, zf_1_15, zf_1_9, zi_0, zi_1, zt_1_0, zt_1_1]
    rw [hi2 c hlt]
    refine z_ti (i := 0) C (by omega) dX1_readSign_24 lk_1_39 (c_indexOf (by omega) hlt) rfl (fun v M2 hv => ?_)
    obtain ⟨rfl, rfl⟩ := hv
    rw [k1]
    refine z_run C [] 2 ?_
    simp only [z_x, z_n, z_stop, z_mem, z_ldi, z_lda, z_sto, z_s1, z_s2, z_sa, z_sv, z_br, z_bn, z_ob, z_ar, z_aq, z_al, z_rt, z_ra, z_at, z_st, z_K0i, z_K0v, zk_0, zk_1, zk_2, zk_3, z_lv, List.map_cons, List.map_nil, List.length_cons, List.length_nil, List.replicate, List.cons_append, List.nil_append, Nat.reduceAdd, Nat.reduceSub, Nat.reduceBEq, Nat.reduceEqDiff, Nat.reduceLT, Nat.reduceLeDiff, Nat.zero_add, Int.cast_ofNat_Int, Int.reduceAdd, Int.reduceNeg, Int.reduceToNat, Int.reduceLE, Int.zero_add, Int.toNat_zero, Int.add_zero, Int.add_neg_cancel_right, Fin.isValue, Int32.reduceOfInt, ↓reduceIte, Bool.false_eq_true, Bool.or_false, Bool.false_or, Bool.or_true, Bool.true_or, if_true, if_false, true_and, and_true, true_or, or_true, false_or, or_false, eq_self, and_self, z_up_i, Nat.add_left_cancel_iff, Nat.left_eq_add, Nat.add_eq_left, reduceCtorEq, Nat.add_one_ne_zero, z_tt, implies_true, zn_0, zn_1, zo_0, zo_1, dX1_readSign_0, dX1_readSign_1, dX1_readSign_4, dX1_readSign_7, dX1_readSign_8, dX1_readSign_9, dX1_readSign_11, dX1_readSign_12, dX1_readSign_15, dX1_readSign_18, dX1_readSign_19, dX1_readSign_20, dX1_readSign_22, dX1_readSign_23, dX1_readSign_24, dX1_readSign_27, dX1_readSign_28, dX1_readSign_31, dX1_readSign_34, dX1_readSign_37, dX1_readSign_40, dX1_readSign_41, dX1_readSign_44, dX1_readSign_45, dX1_readSign_48, zb_48, zf_1_15, zf_1_9, zi_0, zi_1, zt_1_0, zt_1_1, h1]
    refine z_ni C dX1_readSign_31 lk_1_64 (c_stepOf _ _) rfl (fun v M2 hv => ?_)
    obtain ⟨rfl, rfl⟩ := hv
    refine z_vi C dX1_readSign_34 lk_1_67 (c_add _ h3) rfl h3.ob (fun v M3 hv => ?_)
    obtain ⟨hf, hv1, hv2⟩ := hv
    have hap : m_app [c] s = [3 * m_kd c + s] := by simp [m_app, hS2]
    have hsp : m_spt [c] s = s := by simp [m_spt, hS2]
    have hf3 : z_fp M2 M3 (z_rA b) := hf.p (Or.inl rfl) (Or.inr (Or.inl rfl))
    have h13 : M3 (b + 46) = some (.inr (1, [.int (nI s), .int (nI 0)])) := (hf _ (by simp)).trans h1
    have h23 := h2.fr hf (by simp) (by simp)
    simp only [List.length_map] at hv1 hv2
    refine z_run C [] 10 ?_
    simp only [z_x, z_n, z_stop, z_mem, z_ldi, z_lda, z_sto, z_s1, z_s2, z_sa, z_sv, z_br, z_bn, z_ob, z_ar, z_aq, z_al, z_rt, z_ra, z_at, z_st, z_K0i, z_K0v, zk_0, zk_1, zk_2, zk_3, z_lv, List.map_cons, List.map_nil, List.length_cons, List.length_nil, List.replicate, List.cons_append, List.nil_append, Nat.reduceAdd, Nat.reduceSub, Nat.reduceBEq, Nat.reduceEqDiff, Nat.reduceLT, Nat.reduceLeDiff, Nat.zero_add, Int.cast_ofNat_Int, Int.reduceAdd, Int.reduceNeg, Int.reduceToNat, Int.reduceLE, Int.zero_add, Int.toNat_zero, Int.add_zero, Int.add_neg_cancel_right, Fin.isValue, Int32.reduceOfInt, ↓reduceIte, Bool.false_eq_true, Bool.or_false, Bool.false_or, Bool.or_true, Bool.true_or, if_true, if_false, true_and, and_true, true_or, or_true, false_or, or_false, eq_self, and_self, z_up_i, Nat.add_left_cancel_iff, Nat.left_eq_add, Nat.add_eq_left, reduceCtorEq, Nat.add_one_ne_zero, z_tt, implies_true, zn_0, zn_1, zo_0, zo_1, dX1_readSign_0, dX1_readSign_1, dX1_readSign_4, dX1_readSign_7, dX1_readSign_8, dX1_readSign_9, dX1_readSign_11, dX1_readSign_12, dX1_readSign_15, dX1_readSign_18, dX1_readSign_19, dX1_readSign_20, dX1_readSign_22, dX1_readSign_23, dX1_readSign_24, dX1_readSign_27, dX1_readSign_28, dX1_readSign_31, dX1_readSign_34, dX1_readSign_37, dX1_readSign_40, dX1_readSign_41, dX1_readSign_44, dX1_readSign_45, dX1_readSign_48, zb_48, zf_1_15, zf_1_9, zi_0, zi_1, zt_1_0, zt_1_1, h13]
    by_cases hlen : w0.length < 60
    · obtain ⟨rfl, hr⟩ := hv1 hlen
      refine ⟨fun c => absurd c (by decide), fun _ => ?_⟩
      have hfp : z_fp M3 (z_up M3 (b + 46) (Sum.inr (1, [Value.int (nI s), Value.int 0]))) (z_rA b) := fun q hq => z_up_n (fun e => hq (Or.inr (Or.inr e)))
      refine ⟨hf3.tr hfp, Or.inl ⟨by rw [hap]; simp; omega, ⟨?_, h23.fp hfp (by unfold z_rA; omega) (by unfold z_rA; omega), ?_⟩, trivial⟩⟩
      · rw [z_up_s, hsp]; rfl
      · rw [hap]
        simp only [List.map_append, List.map_cons, List.map_nil]
        obtain ⟨f, g1, g2, g3⟩ := hr
        exact ⟨f, by rw [z_up_n (by omega)]; exact g1, by rw [z_up_n (by omega)]; exact g2, g3⟩
    · obtain ⟨rfl, rfl⟩ := hv2 hlen
      refine ⟨fun _ => ?_, fun c => absurd rfl c⟩
      have hfp : z_fp M3 (z_up M3 (b + 46) (Sum.inr (1, [Value.int (nI s), Value.int 1]))) (z_rA b) := fun q hq => z_up_n (fun e => hq (Or.inr (Or.inr e)))
      refine ⟨hf3.tr hfp, Or.inr ⟨by rw [hap]; simp; omega, w0, s, ?_, h23.fp hfp (by unfold z_rA; omega) (by unfold z_rA; omega), ?_⟩⟩
      · rw [z_up_s]; rfl
      · obtain ⟨f, g1, g2, g3⟩ := h3
        exact ⟨f, by rw [z_up_n (by omega)]; exact g1, by rw [z_up_n (by omega)]; exact g2, g3⟩

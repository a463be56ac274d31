/-! WORKS: four rows; frames by ranges of addresses -/
def z_fp (M M' : zH) (A : Nat → Prop) : Prop := ∀ q, ¬ A q → M' q = M q
theorem z_fp.rf {M : zH} {A : Nat → Prop} : z_fp M M A := fun _ _ => rfl
theorem z_fp.tr {M M1 M2 : zH} {A : Nat → Prop} (h : z_fp M M1 A) (h2 : z_fp M1 M2 A) : z_fp M M2 A := fun q hq => (h2 q hq).trans (h q hq)
theorem z_fp.sub {M M1 : zH} {A B : Nat → Prop} (h : z_fp M M1 A) (hs : ∀ q, A q → B q) : z_fp M M1 B := fun q hq => h q (fun z => hq (hs q z))
theorem z_fr.p {M M1 : zH} {r : Nat} {B : Nat → Prop} (h : z_fr M M1 [r, r + 1]) (h1 : B r) (h2 : B (r + 1)) : z_fp M M1 B := fun q hq => h q (fun z => by
  simp only [List.mem_cons, List.not_mem_nil, or_false] at z
  rcases z with rfl | rfl
  · exact hq h1
  · exact hq h2)
theorem z_row.fp {M M' : zH} {A : Nat → Prop} {r cap : Nat} {w : List Int32} (h : z_row M r cap w) (hf : z_fp M M' A) (h1 : ¬ A r) (h2 : ¬ A (r + 1)) : z_row M' r cap w := by
  obtain ⟨f, g1, g2, g3⟩ := h
  exact ⟨f, (hf r h1).trans g1, (hf _ h2).trans g2, g3⟩
def z_wks (M : zH) (a : Nat) (w : Nat → List Nat) : Prop := ∃ f : Nat → Option Nat, M a = some (.inr (4, [.ref (a + 1)])) ∧ M (a + 1) = some (.inl (2, 4, .inr (.inr (.inr (.inr f))))) ∧ (∀ k, k < 4 → f k = some (a + 2 + 2 * k)) ∧ ∀ k, k < 4 → z_row M (a + 2 + 2 * k) 60 ((w k).map nI)
theorem z_wks.row {M : zH} {a k : Nat} {w : Nat → List Nat} (h : z_wks M a w) (hk : k < 4) : z_row M (a + 2 + 2 * k) 60 ((w k).map nI) := by
  obtain ⟨f, -, -, -, h4⟩ := h
  exact h4 k hk
theorem z_wks.ob {M : zH} {a : Nat} {w : Nat → List Nat} (h : z_wks M a w) : M a = some (.inr (4, [.ref (a + 1)])) := h.choose_spec.1
theorem z_wks.fp {M M' : zH} {A : Nat → Prop} {a : Nat} {w : Nat → List Nat} (h : z_wks M a w) (hf : z_fp M M' A) (hA : ∀ q, a ≤ q → q < a + 10 → ¬ A q) : z_wks M' a w := by
  obtain ⟨f, h1, h2, h3, h4⟩ := h
  refine ⟨f, (hf _ (hA _ (by omega) (by omega))).trans h1, (hf _ (hA _ (by omega) (by omega))).trans h2, h3, fun k hk => (h4 k hk).fp hf (hA _ (by omega) (by omega)) (hA _ (by omega) (by omega))⟩
/-- one row of them has changed -/
theorem z_wks.put {M M' : zH} {a k : Nat} {w : Nat → List Nat} {w1 : List Nat} (h : z_wks M a w) (hk : k < 4) (hf : z_fr M M' [a + 2 + 2 * k, a + 2 + 2 * k + 1]) (hr : z_row M' (a + 2 + 2 * k) 60 (w1.map nI)) : z_wks M' a (fun j => if j = k then w1 else w j) := by
  obtain ⟨f, h1, h2, h3, h4⟩ := h
  refine ⟨f, (hf _ (by simp; omega)).trans h1, (hf _ (by simp; omega)).trans h2, h3, fun j hj => ?_⟩
  by_cases hjk : j = k
  · subst hjk; simpa using hr
  · simp only [hjk, if_false]
    exact (h4 j hj).fr hf (by simp; omega) (by simp; omega)
theorem z_rf_some (a : Nat) : va_rf (some a) = .ref a := rfl
set_option maxRecDepth 100000 in
set_option maxHeartbeats 4000000 in
theorem c_row {l : Launch} {E : zE} {d : Nat} {M : zH} {a : Nat} {w : Nat → List Nat} (i : Int32) (h : z_wks M a w) : nX4_row l E d [.ref a, .int i] M (fun r M' => M' = M ∧ ((∃ k, k < 4 ∧ i = nI k ∧ r = some (.ref (a + 2 + 2 * k))) ∨ ((i < 0 ∨ 4 ≤ i) ∧ r = some .null))) := by
  obtain ⟨f, h1, h2, h3, h4⟩ := h
  refine z_cn 4 fun P z C => ?_
  refine z_run C [23] 20 ?_
  simp only [z_x, z_n, z_stop, z_mem, z_ldi, z_lda, z_sto, z_s1, z_s2, z_sa, z_sv, z_br, z_bn, z_ob, z_ar, z_aq, z_al, z_rt, z_ra, z_at, z_st, z_K0i, z_K0v, zk_0, zk_1, zk_2, zk_3, z_lv, List.map_cons, List.map_nil, List.length_cons, List.length_nil, List.replicate, List.cons_append, List.nil_append, Nat.reduceAdd, Nat.reduceSub, Nat.reduceBEq, Nat.reduceEqDiff, Nat.reduceLT, Nat.reduceLeDiff, Nat.zero_add, Int.cast_ofNat_Int, Int.reduceAdd, Int.reduceNeg, Int.reduceToNat, Int.reduceLE, Int.zero_add, Int.toNat_zero, Int.add_zero, Int.add_neg_cancel_right, Fin.isValue, Int32.reduceOfInt, ↓reduceIte, Bool.false_eq_true, Bool.or_false, Bool.false_or, Bool.or_true, Bool.true_or, if_true, if_false, true_and, and_true, true_or, or_true, false_or, or_false, eq_self, and_self, z_up_i, Nat.add_left_cancel_iff, Nat.left_eq_add, Nat.add_eq_left, reduceCtorEq, Nat.add_one_ne_zero, z_tt, implies_true, zn_0, zn_1, zo_0, zo_1, dX4_row_0, dX4_row_1, dX4_row_4, dX4_row_5, dX4_row_6, dX4_row_9, dX4_row_10, dX4_row_13, dX4_row_14, dX4_row_17, dX4_row_18, dX4_row_19, dX4_row_22, dX4_row_23, zf_4_11, h1, h2]
  refine ⟨fun c1 => ?_, fun c1 => ⟨fun c2 => ?_, fun c2 => ?_⟩⟩
  · refine z_run C [] 2 ?_
    simp only [z_x, z_n, z_stop, z_mem, z_ldi, z_lda, z_sto, z_s1, z_s2, z_sa, z_sv, z_br, z_bn, z_ob, z_ar, z_aq, z_al, z_rt, z_ra, z_at, z_st, z_K0i, z_K0v, zk_0, zk_1, zk_2, zk_3, z_lv, List.map_cons, List.map_nil, List.length_cons, List.length_nil, List.replicate, List.cons_append, List.nil_append, Nat.reduceAdd, Nat.reduceSub, Nat.reduceBEq, Nat.reduceEqDiff, Nat.reduceLT, Nat.reduceLeDiff, Nat.zero_add, Int.cast_ofNat_Int, Int.reduceAdd, Int.reduceNeg, Int.reduceToNat, Int.reduceLE, Int.zero_add, Int.toNat_zero, Int.add_zero, Int.add_neg_cancel_right, Fin.isValue, Int32.reduceOfInt, ↓reduceIte, Bool.false_eq_true, Bool.or_false, Bool.false_or, Bool.or_true, Bool.true_or, if_true, if_false, true_and, and_true, true_or, or_true, false_or, or_false, eq_self, and_self, z_up_i, Nat.add_left_cancel_iff, Nat.left_eq_add, Nat.add_eq_left, reduceCtorEq, Nat.add_one_ne_zero, z_tt, implies_true, zn_0, zn_1, zo_0, zo_1, dX4_row_0, dX4_row_1, dX4_row_4, dX4_row_5, dX4_row_6, dX4_row_9, dX4_row_10, dX4_row_13, dX4_row_14, dX4_row_17, dX4_row_18, dX4_row_19, dX4_row_22, dX4_row_23, zf_4_11, z_K0o]
    exact Or.inr (Or.inl c1)
  · refine z_run C [] 2 ?_
    simp only [z_x, z_n, z_stop, z_mem, z_ldi, z_lda, z_sto, z_s1, z_s2, z_sa, z_sv, z_br, z_bn, z_ob, z_ar, z_aq, z_al, z_rt, z_ra, z_at, z_st, z_K0i, z_K0v, zk_0, zk_1, zk_2, zk_3, z_lv, List.map_cons, List.map_nil, List.length_cons, List.length_nil, List.replicate, List.cons_append, List.nil_append, Nat.reduceAdd, Nat.reduceSub, Nat.reduceBEq, Nat.reduceEqDiff, Nat.reduceLT, Nat.reduceLeDiff, Nat.zero_add, Int.cast_ofNat_Int, Int.reduceAdd, Int.reduceNeg, Int.reduceToNat, Int.reduceLE, Int.zero_add, Int.toNat_zero, Int.add_zero, Int.add_neg_cancel_right, Fin.isValue, Int32.reduceOfInt, ↓reduceIte, Bool.false_eq_true, Bool.or_false, Bool.false_or, Bool.or_true, Bool.true_or, if_true, if_false, true_and, and_true, true_or, or_true, false_or, or_false, eq_self, and_self, z_up_i, Nat.add_left_cancel_iff, Nat.left_eq_add, Nat.add_eq_left, reduceCtorEq, Nat.add_one_ne_zero, z_tt, implies_true, zn_0, zn_1, zo_0, zo_1, dX4_row_0, dX4_row_1, dX4_row_4, dX4_row_5, dX4_row_6, dX4_row_9, dX4_row_10, dX4_row_13, dX4_row_14, dX4_row_17, dX4_row_18, dX4_row_19, dX4_row_22, dX4_row_23, zf_4_11, z_K0o]
    exact Or.inr (Or.inr c2)
  · obtain ⟨j, hj, rfl⟩ := z_ix (n := 4) (by omega) c1 c2
    refine ⟨vp_in_nI (by omega) (by omega), ?_⟩
    rw [nI_clamp (by omega), h3 j hj, z_rf_some]
    refine z_run C [] 2 ?_
    simp only [z_x, z_n, z_stop, z_mem, z_ldi, z_lda, z_sto, z_s1, z_s2, z_sa, z_sv, z_br, z_bn, z_ob, z_ar, z_aq, z_al, z_rt, z_ra, z_at, z_st, z_K0i, z_K0v, zk_0, zk_1, zk_2, zk_3, z_lv, List.map_cons, List.map_nil, List.length_cons, List.length_nil, List.replicate, List.cons_append, List.nil_append, Nat.reduceAdd, Nat.reduceSub, Nat.reduceBEq, Nat.reduceEqDiff, Nat.reduceLT, Nat.reduceLeDiff, Nat.zero_add, Int.cast_ofNat_Int, Int.reduceAdd, Int.reduceNeg, Int.reduceToNat, Int.reduceLE, Int.zero_add, Int.toNat_zero, Int.add_zero, Int.add_neg_cancel_right, Fin.isValue, Int32.reduceOfInt, ↓reduceIte, Bool.false_eq_true, Bool.or_false, Bool.false_or, Bool.or_true, Bool.true_or, if_true, if_false, true_and, and_true, true_or, or_true, false_or, or_false, eq_self, and_self, z_up_i, Nat.add_left_cancel_iff, Nat.left_eq_add, Nat.add_eq_left, reduceCtorEq, Nat.add_one_ne_zero, z_tt, implies_true, zn_0, zn_1, zo_0, zo_1, dX4_row_0, dX4_row_1, dX4_row_4, dX4_row_5, dX4_row_6, dX4_row_9, dX4_row_10, dX4_row_13, dX4_row_14, dX4_row_17, dX4_row_18, dX4_row_19, dX4_row_22, dX4_row_23, zf_4_11, z_K0o]
    exact Or.inl ⟨j, hj, rfl, rfl⟩
set_option maxRecDepth 100000 in
set_option maxHeartbeats 4000000 in
theorem c_wbecome {l : Launch} {E : zE} {d : Nat} {M : zH} {a b : Nat} {w u : Nat → List Nat} (h : z_wks M a w) (hb : z_wks M b u) (hn : b + 10 ≤ a ∨ a + 10 ≤ b) : nX4_become l E (d + 3) [.ref a, .ref b] M (z_v fun M' => z_fp M M' (fun q => a ≤ q ∧ q < a + 10) ∧ z_wks M' a u) := by
  refine z_cn 4 fun P z C => ?_
  have loop : ∀ (n i : Nat) (M1 : zH) (v : Nat → List Nat), i + n = 4 → z_fp M M1 (fun q => a ≤ q ∧ q < a + 10) → z_wks M1 a v → (∀ j, j < i → v j = u j) → ∀ o, P (M1, z, 0, 0) 2 [some (.ref a), some (.ref b), some (.int (nI i)), o] [] := by
    intro n
    induction n with
    | zero =>
      intro i M1 v hi hf hw hv o
      obtain ⟨f, h1, h2, h3, h4⟩ := id hw
      refine z_run C [] 20 ?_
      simp only [z_x, z_n, z_stop, z_mem, z_ldi, z_lda, z_sto, z_s1, z_s2, z_sa, z_sv, z_br, z_bn, z_ob, z_ar, z_aq, z_al, z_rt, z_ra, z_at, z_st, z_K0i, z_K0v, zk_0, zk_1, zk_2, zk_3, z_lv, List.map_cons, List.map_nil, List.length_cons, List.length_nil, List.replicate, List.cons_append, List.nil_append, Nat.reduceAdd, Nat.reduceSub, Nat.reduceBEq, Nat.reduceEqDiff, Nat.reduceLT, Nat.reduceLeDiff, Nat.zero_add, Int.cast_ofNat_Int, Int.reduceAdd, Int.reduceNeg, Int.reduceToNat, Int.reduceLE, Int.zero_add, Int.toNat_zero, Int.add_zero, Int.add_neg_cancel_right, Fin.isValue, Int32.reduceOfInt, ↓reduceIte, Bool.false_eq_true, Bool.or_false, Bool.false_or, Bool.or_true, Bool.true_or, if_true, if_false, true_and, and_true, true_or, or_true, false_or, or_false, eq_self, and_self, z_up_i, Nat.add_left_cancel_iff, Nat.left_eq_add, Nat.add_eq_left, reduceCtorEq, Nat.add_one_ne_zero, z_tt, implies_true, zn_0, zn_1, zo_0, zo_1, dX4_become_0, dX4_become_1, dX4_become_2, dX4_become_3, dX4_become_4, dX4_become_7, dX4_become_8, dX4_become_11, dX4_become_12, dX4_become_13, dX4_become_16, dX4_become_17, dX4_become_18, dX4_become_21, dX4_become_22, dX4_become_25, dX4_become_26, dX4_become_27, dX4_become_28, dX4_become_31, dX4_become_34, dX4_become_37, zf_4_11, zi_0, zi_1, h1, h2]
      refine ⟨fun _ => ⟨hf, f, h1, h2, h3, fun k hk => ?_⟩, fun c1 => absurd (nI_le (by omega) (by omega)) c1⟩
      rw [← hv k (by omega)]
      exact h4 k hk
    | succ n ih =>
      intro i M1 v hi hf hw hv o
      obtain ⟨f, h1, h2, h3, h4⟩ := id hw
      have hb1 : z_wks M1 b u := hb.fp hf (fun q _ _ => by omega)
      refine z_run C [] 20 ?_
      simp only [z_x, z_n, z_stop, z_mem, z_ldi, z_lda, z_sto, z_s1, z_s2, z_sa, z_sv, z_br, z_bn, z_ob, z_ar, z_aq, z_al, z_rt, z_ra, z_at, z_st, z_K0i, z_K0v, zk_0, zk_1, zk_2, zk_3, z_lv, List.map_cons, List.map_nil, List.length_cons, List.length_nil, List.replicate, List.cons_append, List.nil_append, Nat.reduceAdd, Nat.reduceSub, Nat.reduceBEq, Nat.reduceEqDiff, Nat.reduceLT, Nat.reduceLeDiff, Nat.zero_add, Int.cast_ofNat_Int, Int.reduceAdd, Int.reduceNeg, Int.reduceToNat, Int.reduceLE, Int.zero_add, Int.toNat_zero, Int.add_zero, Int.add_neg_cancel_right, Fin.isValue, Int32.reduceOfInt, ↓reduceIte, Bool.false_eq_true, Bool.or_false, Bool.false_or, Bool.or_true, Bool.true_or, if_true, if_false, true_and, and_true, true_or, or_true, false_or, or_false, eq_self, and_self, z_up_i, Nat.add_left_cancel_iff, Nat.left_eq_add, Nat.add_eq_left, reduceCtorEq, Nat.add_one_ne_zero, z_tt, implies_true, zn_0, zn_1, zo_0, zo_1, dX4_become_0, dX4_become_1, dX4_become_2, dX4_become_3, dX4_become_4, dX4_become_7, dX4_become_8, dX4_become_11, dX4_become_12, dX4_become_13, dX4_become_16, dX4_become_17, dX4_become_18, dX4_become_21, dX4_become_22, dX4_become_25, dX4_become_26, dX4_become_27, dX4_become_28, dX4_become_31, dX4_become_34, dX4_become_37, zf_4_11, zi_0, zi_1, h1, h2]
      refine ⟨fun c1 => absurd ((nI_leI (by omega) (by omega)).mp c1) (by omega), fun _ => ?_⟩
      refine z_vo C dX4_become_13 lk_4_20 (c_row (nI i) hb1) rfl hb1.ob (fun r M2 hr => ?_)
      obtain ⟨rfl, ⟨k, hk, hki, rfl⟩ | ⟨hc, -⟩⟩ := hr
      · have e := (nI_eq (by omega) (by omega)).mp hki
        subst e
        simp only [Option.toList, List.cons_append, List.nil_append]
        refine z_run C [] 20 ?_
        simp only [z_x, z_n, z_stop, z_mem, z_ldi, z_lda, z_sto, z_s1, z_s2, z_sa, z_sv, z_br, z_bn, z_ob, z_ar, z_aq, z_al, z_rt, z_ra, z_at, z_st, z_K0i, z_K0v, zk_0, zk_1, zk_2, zk_3, z_lv, List.map_cons, List.map_nil, List.length_cons, List.length_nil, List.replicate, List.cons_append, List.nil_append, Nat.reduceAdd, Nat.reduceSub, Nat.reduceBEq, Nat.reduceEqDiff, Nat.reduceLT, Nat.reduceLeDiff, Nat.zero_add, Int.cast_ofNat_Int, Int.reduceAdd, Int.reduceNeg, Int.reduceToNat, Int.reduceLE, Int.zero_add, Int.toNat_zero, Int.add_zero, Int.add_neg_cancel_right, Fin.isValue, Int32.reduceOfInt, ↓reduceIte, Bool.false_eq_true, Bool.or_false, Bool.false_or, Bool.or_true, Bool.true_or, if_true, if_false, true_and, and_true, true_or, or_true, false_or, or_false, eq_self, and_self, z_up_i, Nat.add_left_cancel_iff, Nat.left_eq_add, Nat.add_eq_left, reduceCtorEq, Nat.add_one_ne_zero, z_tt, implies_true, zn_0, zn_1, zo_0, zo_1, dX4_become_0, dX4_become_1, dX4_become_2, dX4_become_3, dX4_become_4, dX4_become_7, dX4_become_8, dX4_become_11, dX4_become_12, dX4_become_13, dX4_become_16, dX4_become_17, dX4_become_18, dX4_become_21, dX4_become_22, dX4_become_25, dX4_become_26, dX4_become_27, dX4_become_28, dX4_become_31, dX4_become_34, dX4_become_37, zf_4_11, zi_0, zi_1, h1, h2]
        refine ⟨vp_in_nI (by omega) (by omega), ?_⟩
        rw [nI_clamp (by omega), h3 i (by omega), z_rf_some]
        have hr1 := hw.row (k := i) (by omega)
        have hr2 := hb1.row (k := i) (by omega)
        refine z_vv C dX4_become_28 lk_4_24 (c_become hr1 hr2 (by omega) hr2.le.1) rfl hr1.ob (fun M3 hv3 => ?_)
        obtain ⟨hf3, hr3⟩ := hv3
        refine z_run C [2] 20 ?_
        simp only [z_x, z_n, z_stop, z_mem, z_ldi, z_lda, z_sto, z_s1, z_s2, z_sa, z_sv, z_br, z_bn, z_ob, z_ar, z_aq, z_al, z_rt, z_ra, z_at, z_st, z_K0i, z_K0v, zk_0, zk_1, zk_2, zk_3, z_lv, List.map_cons, List.map_nil, List.length_cons, List.length_nil, List.replicate, List.cons_append, List.nil_append, Nat.reduceAdd, Nat.reduceSub, Nat.reduceBEq, Nat.reduceEqDiff, Nat.reduceLT, Nat.reduceLeDiff, Nat.zero_add, Int.cast_ofNat_Int, Int.reduceAdd, Int.reduceNeg, Int.reduceToNat, Int.reduceLE, Int.zero_add, Int.toNat_zero, Int.add_zero, Int.add_neg_cancel_right, Fin.isValue, Int32.reduceOfInt, ↓reduceIte, Bool.false_eq_true, Bool.or_false, Bool.false_or, Bool.or_true, Bool.true_or, if_true, if_false, true_and, and_true, true_or, or_true, false_or, or_false, eq_self, and_self, z_up_i, Nat.add_left_cancel_iff, Nat.left_eq_add, Nat.add_eq_left, reduceCtorEq, Nat.add_one_ne_zero, z_tt, implies_true, zn_0, zn_1, zo_0, zo_1, dX4_become_0, dX4_become_1, dX4_become_2, dX4_become_3, dX4_become_4, dX4_become_7, dX4_become_8, dX4_become_11, dX4_become_12, dX4_become_13, dX4_become_16, dX4_become_17, dX4_become_18, dX4_become_21, dX4_become_22, dX4_become_25, dX4_become_26, dX4_become_27, dX4_become_28, dX4_become_31, dX4_become_34, dX4_become_37, zf_4_11, zi_0, zi_1]
        rw [nI_1]
        refine ih (i + 1) M3 _ (by omega) (hf.tr (hf3.p (by omega) (by omega))) (hw.put (by omega) hf3 hr3) (fun j hj => ?_) _
        by_cases hji : j = i
        · subst hji; simp
        · simp only [hji, if_false]; exact hv j (by omega)
      · rcases hc with hc | hc
        · exact absurd hc (nI_pos (by omega))
        · exact absurd ((nI_leI (a := 4) (by omega) (by omega)).mp hc) (by omega)
  refine z_run C [2] 3 ?_
  simp only [z_x, z_n, z_stop, z_mem, z_ldi, z_lda, z_sto, z_s1, z_s2, z_sa, z_sv, z_br, z_bn, z_ob, z_ar, z_aq, z_al, z_rt, z_ra, z_at, z_st, z_K0i, z_K0v, zk_0, zk_1, zk_2, zk_3, z_lv, List.map_cons, List.map_nil, List.length_cons, List.length_nil, List.replicate, List.cons_append, List.nil_append, Nat.reduceAdd, Nat.reduceSub, Nat.reduceBEq, Nat.reduceEqDiff, Nat.reduceLT, Nat.reduceLeDiff, Nat.zero_add, Int.cast_ofNat_Int, Int.reduceAdd, Int.reduceNeg, Int.reduceToNat, Int.reduceLE, Int.zero_add, Int.toNat_zero, Int.add_zero, Int.add_neg_cancel_right, Fin.isValue, Int32.reduceOfInt, ↓reduceIte, Bool.false_eq_true, Bool.or_false, Bool.false_or, Bool.or_true, Bool.true_or, if_true, if_false, true_and, and_true, true_or, or_true, false_or, or_false, eq_self, and_self, z_up_i, Nat.add_left_cancel_iff, Nat.left_eq_add, Nat.add_eq_left, reduceCtorEq, Nat.add_one_ne_zero, z_tt, implies_true, zn_0, zn_1, zo_0, zo_1, dX4_become_0, dX4_become_1, dX4_become_2, dX4_become_3, dX4_become_4, dX4_become_7, dX4_become_8, dX4_become_11, dX4_become_12, dX4_become_13, dX4_become_16, dX4_become_17, dX4_become_18, dX4_become_21, dX4_become_22, dX4_become_25, dX4_become_26, dX4_become_27, dX4_become_28, dX4_become_31, dX4_become_34, dX4_become_37, zf_4_11, zi_0, zi_1]
  exact loop 4 0 M w (by omega) z_fp.rf h (fun j hj => by omega) _
set_option maxRecDepth 100000 in
set_option maxHeartbeats 4000000 in
theorem c_stepsInAll {l : Launch} {E : zE} {d : Nat} {M : zH} {a : Nat} {w : Nat → List Nat} (h : z_wks M a w) : nX4_stepsInAll l E (d + 1) [.ref a] M (z_i fun v M' => v = nI ((w 0).length + (w 1).length + (w 2).length + (w 3).length) ∧ M' = M) := by
  refine z_cn 4 fun P z C => ?_
  obtain ⟨f, h1, h2, h3, h4⟩ := id h
  have loop : ∀ (n i s : Nat), i + n = 4 → s = ((List.range i).map (fun k => (w k).length)).sum → P (M, z, 0, 0) 4 [some (.ref a), some (.int (nI s)), some (.int (nI i))] [] := by
    intro n
    induction n with
    | zero =>
      intro i s hi hs
      refine z_run C [] 20 ?_
      simp only [z_x, z_n, z_stop, z_mem, z_ldi, z_lda, z_sto, z_s1, z_s2, z_sa, z_sv, z_br, z_bn, z_ob, z_ar, z_aq, z_al, z_rt, z_ra, z_at, z_st, z_K0i, z_K0v, zk_0, zk_1, zk_2, zk_3, z_lv, List.map_cons, List.map_nil, List.length_cons, List.length_nil, List.replicate, List.cons_append, List.nil_append, Nat.reduceAdd, Nat.reduceSub, Nat.reduceBEq, Nat.reduceEqDiff, Nat.reduceLT, Nat.reduceLeDiff, Nat.zero_add, Int.cast_ofNat_Int, Int.reduceAdd, Int.reduceNeg, Int.reduceToNat, Int.reduceLE, Int.zero_add, Int.toNat_zero, Int.add_zero, Int.add_neg_cancel_right, Fin.isValue, Int32.reduceOfInt, ↓reduceIte, Bool.false_eq_true, Bool.or_false, Bool.false_or, Bool.or_true, Bool.true_or, if_true, if_false, true_and, and_true, true_or, or_true, false_or, or_false, eq_self, and_self, z_up_i, Nat.add_left_cancel_iff, Nat.left_eq_add, Nat.add_eq_left, reduceCtorEq, Nat.add_one_ne_zero, z_tt, implies_true, zn_0, zn_1, zo_0, zo_1, dX4_stepsInAll_0, dX4_stepsInAll_1, dX4_stepsInAll_2, dX4_stepsInAll_3, dX4_stepsInAll_4, dX4_stepsInAll_5, dX4_stepsInAll_6, dX4_stepsInAll_9, dX4_stepsInAll_10, dX4_stepsInAll_13, dX4_stepsInAll_14, dX4_stepsInAll_15, dX4_stepsInAll_18, dX4_stepsInAll_19, dX4_stepsInAll_20, dX4_stepsInAll_23, dX4_stepsInAll_24, dX4_stepsInAll_25, dX4_stepsInAll_28, dX4_stepsInAll_31, dX4_stepsInAll_32, zf_4_11, zi_0, zi_1, h1, h2]
      refine ⟨fun _ => ⟨?_, rfl⟩, fun c1 => absurd (nI_le (by omega) (by omega)) c1⟩
      rw [hs, show i = 4 by omega]
      simp [List.range, List.range.loop, Nat.add_assoc]
    | succ n ih =>
      intro i s hi hs
      refine z_run C [] 20 ?_
      simp only [z_x, z_n, z_stop, z_mem, z_ldi, z_lda, z_sto, z_s1, z_s2, z_sa, z_sv, z_br, z_bn, z_ob, z_ar, z_aq, z_al, z_rt, z_ra, z_at, z_st, z_K0i, z_K0v, zk_0, zk_1, zk_2, zk_3, z_lv, List.map_cons, List.map_nil, List.length_cons, List.length_nil, List.replicate, List.cons_append, List.nil_append, Nat.reduceAdd, Nat.reduceSub, Nat.reduceBEq, Nat.reduceEqDiff, Nat.reduceLT, Nat.reduceLeDiff, Nat.zero_add, Int.cast_ofNat_Int, Int.reduceAdd, Int.reduceNeg, Int.reduceToNat, Int.reduceLE, Int.zero_add, Int.toNat_zero, Int.add_zero, Int.add_neg_cancel_right, Fin.isValue, Int32.reduceOfInt, ↓reduceIte, Bool.false_eq_true, Bool.or_false, Bool.false_or, Bool.or_true, Bool.true_or, if_true, if_false, true_and, and_true, true_or, or_true, false_or, or_false, eq_self, and_self, z_up_i, Nat.add_left_cancel_iff, Nat.left_eq_add, Nat.add_eq_left, reduceCtorEq, Nat.add_one_ne_zero, z_tt, implies_true, zn_0, zn_1, zo_0, zo_1, dX4_stepsInAll_0, dX4_stepsInAll_1, dX4_stepsInAll_2, dX4_stepsInAll_3, dX4_stepsInAll_4, dX4_stepsInAll_5, dX4_stepsInAll_6, dX4_stepsInAll_9, dX4_stepsInAll_10, dX4_stepsInAll_13, dX4_stepsInAll_14, dX4_stepsInAll_15, dX4_stepsInAll_18, dX4_stepsInAll_19, dX4_stepsInAll_20, dX4_stepsInAll_23, dX4_stepsInAll_24, dX4_stepsInAll_25, dX4_stepsInAll_28, dX4_stepsInAll_31, dX4_stepsInAll_32, zf_4_11, zi_0, zi_1, h1, h2]
      refine ⟨fun c1 => absurd ((nI_leI (by omega) (by omega)).mp c1) (by omega), fun _ => ⟨vp_in_nI (by omega) (by omega), ?_⟩⟩
      rw [nI_clamp (by omega), h3 i (by omega), z_rf_some]
      have hr1 := h.row (k := i) (by omega)
      refine z_vi C dX4_stepsInAll_20 lk_4_28 (c_size hr1) rfl hr1.ob (fun v M2 hv => ?_)
      obtain ⟨rfl, rfl⟩ := hv
      refine z_run C [4] 20 ?_
      simp only [z_x, z_n, z_stop, z_mem, z_ldi, z_lda, z_sto, z_s1, z_s2, z_sa, z_sv, z_br, z_bn, z_ob, z_ar, z_aq, z_al, z_rt, z_ra, z_at, z_st, z_K0i, z_K0v, zk_0, zk_1, zk_2, zk_3, z_lv, List.map_cons, List.map_nil, List.length_cons, List.length_nil, List.replicate, List.cons_append, List.nil_append, Nat.reduceAdd, Nat.reduceSub, Nat.reduceBEq, Nat.reduceEqDiff, Nat.reduceLT, Nat.reduceLeDiff, Nat.zero_add, Int.cast_ofNat_Int, Int.reduceAdd, Int.reduceNeg, Int.reduceToNat, Int.reduceLE, Int.zero_add, Int.toNat_zero, Int.add_zero, Int.add_neg_cancel_right, Fin.isValue, Int32.reduceOfInt, ↓reduceIte, Bool.false_eq_true, Bool.or_false, Bool.false_or, Bool.or_true, Bool.true_or, if_true, if_false, true_and, and_true, true_or, or_true, false_or, or_false, eq_self, and_self, z_up_i, Nat.add_left_cancel_iff, Nat.left_eq_add, Nat.add_eq_left, reduceCtorEq, Nat.add_one_ne_zero, z_tt, implies_true, zn_0, zn_1, zo_0, zo_1, dX4_stepsInAll_0, dX4_stepsInAll_1, dX4_stepsInAll_2, dX4_stepsInAll_3, dX4_stepsInAll_4, dX4_stepsInAll_5, dX4_stepsInAll_6, dX4_stepsInAll_9, dX4_stepsInAll_10, dX4_stepsInAll_13, dX4_stepsInAll_14, dX4_stepsInAll_15, dX4_stepsInAll_18, dX4_stepsInAll_19, dX4_stepsInAll_20, dX4_stepsInAll_23, dX4_stepsInAll_24, dX4_stepsInAll_25, dX4_stepsInAll_28, dX4_stepsInAll_31, dX4_stepsInAll_32, zf_4_11, zi_0, zi_1]
      rw [nI_1, nI_add]
      refine ih (i + 1) _ (by omega) ?_
      rw [hs, List.range_succ]
      simp
  refine z_run C [4] 5 ?_
  simp only [z_x, z_n, z_stop, z_mem, z_ldi, z_lda, z_sto, z_s1, z_s2, z_sa, z_sv, z_br, z_bn, z_ob, z_ar, z_aq, z_al, z_rt, z_ra, z_at, z_st, z_K0i, z_K0v, zk_0, zk_1, zk_2, zk_3, z_lv, List.map_cons, List.map_nil, List.length_cons, List.length_nil, List.replicate, List.cons_append, List.nil_append, Nat.reduceAdd, Nat.reduceSub, Nat.reduceBEq, Nat.reduceEqDiff, Nat.reduceLT, Nat.reduceLeDiff, Nat.zero_add, Int.cast_ofNat_Int, Int.reduceAdd, Int.reduceNeg, Int.reduceToNat, Int.reduceLE, Int.zero_add, Int.toNat_zero, Int.add_zero, Int.add_neg_cancel_right, Fin.isValue, Int32.reduceOfInt, ↓reduceIte, Bool.false_eq_true, Bool.or_false, Bool.false_or, Bool.or_true, Bool.true_or, if_true, if_false, true_and, and_true, true_or, or_true, false_or, or_false, eq_self, and_self, z_up_i, Nat.add_left_cancel_iff, Nat.left_eq_add, Nat.add_eq_left, reduceCtorEq, Nat.add_one_ne_zero, z_tt, implies_true, zn_0, zn_1, zo_0, zo_1, dX4_stepsInAll_0, dX4_stepsInAll_1, dX4_stepsInAll_2, dX4_stepsInAll_3, dX4_stepsInAll_4, dX4_stepsInAll_5, dX4_stepsInAll_6, dX4_stepsInAll_9, dX4_stepsInAll_10, dX4_stepsInAll_13, dX4_stepsInAll_14, dX4_stepsInAll_15, dX4_stepsInAll_18, dX4_stepsInAll_19, dX4_stepsInAll_20, dX4_stepsInAll_23, dX4_stepsInAll_24, dX4_stepsInAll_25, dX4_stepsInAll_28, dX4_stepsInAll_31, dX4_stepsInAll_32, zf_4_11, zi_0, zi_1]
  exact loop 4 0 0 (by omega) (by simp)

/-! THE REFERENCE, at y -/
def z_mo (M : zH) (y : Nat) (said told lm fm sm : Int32) : Prop := M y = some (.inr (6, [.ref (y + 1), .ref (y + 2), .ref (y + 3), .ref (y + 4), .int said, .int told, .ref (y + 5), .ref (y + 6), .ref (y + 7), .ref (y + 8), .ref (y + 9), .ref (y + 10), .int lm, .ref (y + 11), .ref (y + 12), .int fm, .ref (y + 13), .int sm, .ref (y + 14)]))
def m_st (f : Nat → Int32) (wk : Nat → List Nat) : Prop := ∀ k, k < 4 → f (240 + k) = nI (wk k).length ∧ (wk k).length ≤ 60 ∧ ∀ i, i < (wk k).length → f (60 * k + i) = nI ((wk k).getD i 0)
def z_ia (M : zH) (a n : Nat) (f : Nat → Int32) : Prop := M a = some (.inl (0, n, .inl f))
def z_mc (M : zH) (y : Nat) (pad : List Nat) (wk : Nat → List Nat) (im : Nat → Nat → List Nat) (kept : Nat) : Prop := (∃ f, z_ia M (y + 1) 244 f ∧ m_st f wk) ∧ (∃ g, z_ia M (y + 2) 488 g ∧ ∀ j, j < 2 → m_st (fun i => g (244 * j + i)) (im j)) ∧ (∃ h, M (y + 3) = some (.inl (1, 2, .inl h)) ∧ ∀ j, j < 2 → h j = if kept.testBit j then 1 else 0) ∧ pad.length ≤ 40 ∧ ∃ p, z_ia M (y + 4) 40 p ∧ ∀ i, i < pad.length → p i = nI (pad.getD i 0)
def z_ms (M : zH) (y : Nat) : Prop := (∃ f, z_ia M (y + 5) 3 f) ∧ (∃ f, z_ia M (y + 6) 3 f) ∧ (∃ f, z_ia M (y + 7) 60 f) ∧ (∃ f, z_ia M (y + 8) 120 f) ∧ (∃ f, z_ia M (y + 9) 120 f) ∧ (∃ f, z_ia M (y + 10) 120 f) ∧ (∃ f, z_ia M (y + 11) 8 f) ∧ (∃ f, z_ia M (y + 12) 120 f) ∧ (∃ f, z_ia M (y + 13) 120 f) ∧ (∃ f, z_ia M (y + 14) 120 f)
def z_md (M : zH) (y : Nat) (pad : List Nat) (wk : Nat → List Nat) (im : Nat → Nat → List Nat) (kept : Nat) (told : Int32) : Prop := (∃ lm fm sm, z_mo M y (nI pad.length) told lm fm sm) ∧ z_mc M y pad wk im kept ∧ z_ms M y ∧ z_inv pad wk im kept
/-- scratch rows keep their lengths -/
def z_kp (M M' : zH) (y : Nat) : Prop := ∀ a, y + 5 ≤ a → a ≤ y + 14 → ∀ n f, z_ia M a n f → ∃ g, z_ia M' a n g
theorem z_kp.rf {M : zH} {y : Nat} : z_kp M M y := fun a _ _ n f h => ⟨f, h⟩
theorem z_kp.tr {M M1 M2 : zH} {y : Nat} (h : z_kp M M1 y) (h2 : z_kp M1 M2 y) : z_kp M M2 y := fun a ha hb n f hf => by
  obtain ⟨g, hg⟩ := h a ha hb n f hf
  exact h2 a ha hb n g hg
theorem z_kp.up {M : zH} {y a n : Nat} {f g : Nat → Int32} (h : z_ia M a n f) : z_kp M (z_up M a (.inl (0, n, .inl g))) y := fun c _ _ m u hu => by
  by_cases e : c = a
  · subst e
    unfold z_ia at h hu ⊢
    rw [h] at hu
    cases hu
    exact ⟨g, z_up_s _ _ _⟩
  · exact ⟨u, by unfold z_ia; rw [z_up_n e]; exact hu⟩
theorem z_kp.fp {M M' : zH} {A : Nat → Prop} {y : Nat} (h : z_fp M M' A) (hA : ∀ q, y + 5 ≤ q → q ≤ y + 14 → ¬ A q) : z_kp M M' y := fun c hc hd m u hu => ⟨u, (h c (hA c hc hd)).trans hu⟩
theorem z_ms.kp {M M' : zH} {y : Nat} (h : z_ms M y) (hk : z_kp M M' y) : z_ms M' y := by
  obtain ⟨⟨f5, h5⟩, ⟨f6, h6⟩, ⟨f7, h7⟩, ⟨f8, h8⟩, ⟨f9, h9⟩, ⟨f10, h10⟩, ⟨f11, h11⟩, ⟨f12, h12⟩, ⟨f13, h13⟩, ⟨f14, h14⟩⟩ := h
  exact ⟨hk _ (by omega) (by omega) _ _ h5, hk _ (by omega) (by omega) _ _ h6, hk _ (by omega) (by omega) _ _ h7, hk _ (by omega) (by omega) _ _ h8, hk _ (by omega) (by omega) _ _ h9, hk _ (by omega) (by omega) _ _ h10, hk _ (by omega) (by omega) _ _ h11, hk _ (by omega) (by omega) _ _ h12, hk _ (by omega) (by omega) _ _ h13, hk _ (by omega) (by omega) _ _ h14⟩
theorem z_mc.fp {M M' : zH} {A : Nat → Prop} {y : Nat} {pad : List Nat} {wk : Nat → List Nat} {im : Nat → Nat → List Nat} {kept : Nat} (h : z_mc M y pad wk im kept) (hf : z_fp M M' A) (hA : ∀ q, y + 1 ≤ q → q ≤ y + 4 → ¬ A q) : z_mc M' y pad wk im kept := by
  obtain ⟨⟨f, f1, f2⟩, ⟨g, g1, g2⟩, ⟨u, u1, u2⟩, hl, ⟨p, p1, p2⟩⟩ := h
  exact ⟨⟨f, (hf _ (hA _ (by omega) (by omega))).trans f1, f2⟩, ⟨g, (hf _ (hA _ (by omega) (by omega))).trans g1, g2⟩, ⟨u, (hf _ (hA _ (by omega) (by omega))).trans u1, u2⟩, hl, ⟨p, (hf _ (hA _ (by omega) (by omega))).trans p1, p2⟩⟩
/-- nothing but scratch has changed -/
def z_mq (M M' : zH) (y : Nat) (said told : Int32) : Prop := z_fp M M' (fun q => q = y ∨ (y + 5 ≤ q ∧ q ≤ y + 14)) ∧ z_kp M M' y ∧ ∃ lm fm sm, z_mo M' y said told lm fm sm
theorem z_md.q {M M' : zH} {y : Nat} {pad : List Nat} {wk : Nat → List Nat} {im : Nat → Nat → List Nat} {kept : Nat} {told : Int32} (h : z_md M y pad wk im kept told) (hq : z_mq M M' y (nI pad.length) told) : z_md M' y pad wk im kept told := ⟨hq.2.2, h.2.1.fp hq.1 (fun q _ _ => by omega), h.2.2.1.kp hq.2.1, h.2.2.2⟩
def z_mA (y : Nat) : Nat → Prop := fun q => y ≤ q ∧ q < y + 15
theorem z_mq.A {M M' : zH} {y : Nat} {said told : Int32} (hq : z_mq M M' y said told) : z_fp M M' (z_mA y) := hq.1.sub (fun q h => by unfold z_mA; omega)
set_option maxRecDepth 100000 in
set_option maxHeartbeats 4000000 in
theorem d_in {l : Launch} {E : zE} {d : Nat} {M : zH} (a lo hi : Int32) : nX6_in l E d [.int a, .int lo, .int hi] M (z_i fun v M' => ((v = 1 ∧ ¬ a < lo ∧ ¬ hi < a) ∨ (v = 0 ∧ (a < lo ∨ hi < a))) ∧ M' = M) := by
  refine z_cn 6 fun P z C => ?_
  refine z_run C [] 12 ?_
  simp only [z_x, z_n, z_stop, z_mem, z_ldi, z_lda, z_sto, z_s1, z_s2, z_sa, z_sv, z_br, z_bn, z_ob, z_ar, z_aq, z_al, z_rt, z_ra, z_at, z_st, z_K0i, z_K0v, zk_0, zk_1, zk_2, zk_3, z_lv, List.map_cons, List.map_nil, List.length_cons, List.length_nil, List.replicate, List.cons_append, List.nil_append, Nat.reduceAdd, Nat.reduceSub, Nat.reduceBEq, Nat.reduceEqDiff, Nat.reduceLT, Nat.reduceLeDiff, Nat.zero_add, Int.cast_ofNat_Int, Int.reduceAdd, Int.reduceNeg, Int.reduceToNat, Int.reduceLE, Int.zero_add, Int.toNat_zero, Int.add_zero, Int.add_neg_cancel_right, Fin.isValue, Int32.reduceOfInt, ↓reduceIte, Bool.false_eq_true, Bool.or_false, Bool.false_or, Bool.or_true, Bool.true_or, if_true, if_false, true_and, and_true, true_or, or_true, false_or, or_false, eq_self, and_self, z_up_i, Nat.add_left_cancel_iff, Nat.left_eq_add, Nat.add_eq_left, reduceCtorEq, Nat.add_one_ne_zero, z_tt, implies_true, zn_0, zn_1, zo_0, zo_1, dX6_in_0, dX6_in_1, dX6_in_2, dX6_in_5, dX6_in_6, dX6_in_7, dX6_in_10, dX6_in_11, dX6_in_14, dX6_in_15, zi_0, zi_1]
  exact ⟨fun c1 => ⟨Or.inr ⟨rfl, Or.inl c1⟩, rfl⟩, fun c1 => ⟨fun c2 => ⟨Or.inr ⟨rfl, Or.inr c2⟩, rfl⟩, fun c2 => ⟨Or.inl ⟨rfl, c1, c2⟩, rfl⟩⟩⟩
set_option maxRecDepth 100000 in
set_option maxHeartbeats 4000000 in
theorem d_isWork {l : Launch} {E : zE} {d : Nat} {M : zH} (i : Int32) : nX6_isWork l E (d + 1) [.int i] M (z_i fun v M' => ((v = 1 ∧ ∃ k, k < 4 ∧ i = nI k) ∨ (v = 0 ∧ f_bad i)) ∧ M' = M) := by
  refine z_cn 6 fun P z C => ?_
  refine z_run C [] 3 ?_
  simp only [z_x, z_n, z_stop, z_mem, z_ldi, z_lda, z_sto, z_s1, z_s2, z_sa, z_sv, z_br, z_bn, z_ob, z_ar, z_aq, z_al, z_rt, z_ra, z_at, z_st, z_K0i, z_K0v, zk_0, zk_1, zk_2, zk_3, z_lv, List.map_cons, List.map_nil, List.length_cons, List.length_nil, List.replicate, List.cons_append, List.nil_append, Nat.reduceAdd, Nat.reduceSub, Nat.reduceBEq, Nat.reduceEqDiff, Nat.reduceLT, Nat.reduceLeDiff, Nat.zero_add, Int.cast_ofNat_Int, Int.reduceAdd, Int.reduceNeg, Int.reduceToNat, Int.reduceLE, Int.zero_add, Int.toNat_zero, Int.add_zero, Int.add_neg_cancel_right, Fin.isValue, Int32.reduceOfInt, ↓reduceIte, Bool.false_eq_true, Bool.or_false, Bool.false_or, Bool.or_true, Bool.true_or, if_true, if_false, true_and, and_true, true_or, or_true, false_or, or_false, eq_self, and_self, z_up_i, Nat.add_left_cancel_iff, Nat.left_eq_add, Nat.add_eq_left, reduceCtorEq, Nat.add_one_ne_zero, z_tt, implies_true, zn_0, zn_1, zo_0, zo_1, dX6_isWork_0, dX6_isWork_1, dX6_isWork_2, dX6_isWork_3, dX6_isWork_6, zi_0, zi_3]
  refine z_si C dX6_isWork_3 lk_6_57 (d_in i 0 3) rfl (fun v M2 hv => ?_)
  obtain ⟨hv, rfl⟩ := hv
  have h34 : ∀ i : Int32, ¬ i < 0 → (3 < i ↔ 4 ≤ i) := by
    intro i h0
    obtain ⟨j, hj, rfl⟩ := nI_of h0
    rw [show (3 : Int32) = nI 3 from rfl, show (4 : Int32) = nI 4 from rfl, nI_ltI (by omega) hj, nI_leI (by omega) hj]
    omega
  rcases hv with ⟨rfl, h1, h2⟩ | ⟨rfl, h1⟩
  · refine z_run C [] 2 ?_
    simp only [z_x, z_n, z_stop, z_mem, z_ldi, z_lda, z_sto, z_s1, z_s2, z_sa, z_sv, z_br, z_bn, z_ob, z_ar, z_aq, z_al, z_rt, z_ra, z_at, z_st, z_K0i, z_K0v, zk_0, zk_1, zk_2, zk_3, z_lv, List.map_cons, List.map_nil, List.length_cons, List.length_nil, List.replicate, List.cons_append, List.nil_append, Nat.reduceAdd, Nat.reduceSub, Nat.reduceBEq, Nat.reduceEqDiff, Nat.reduceLT, Nat.reduceLeDiff, Nat.zero_add, Int.cast_ofNat_Int, Int.reduceAdd, Int.reduceNeg, Int.reduceToNat, Int.reduceLE, Int.zero_add, Int.toNat_zero, Int.add_zero, Int.add_neg_cancel_right, Fin.isValue, Int32.reduceOfInt, ↓reduceIte, Bool.false_eq_true, Bool.or_false, Bool.false_or, Bool.or_true, Bool.true_or, if_true, if_false, true_and, and_true, true_or, or_true, false_or, or_false, eq_self, and_self, z_up_i, Nat.add_left_cancel_iff, Nat.left_eq_add, Nat.add_eq_left, reduceCtorEq, Nat.add_one_ne_zero, z_tt, implies_true, zn_0, zn_1, zo_0, zo_1, dX6_isWork_0, dX6_isWork_1, dX6_isWork_2, dX6_isWork_3, dX6_isWork_6, zi_0, zi_3]
    exact ⟨Or.inl ⟨rfl, z_ix (n := 4) (by omega) h1 (fun q => h2 ((h34 i h1).mpr q))⟩, rfl⟩
  · refine z_run C [] 2 ?_
    simp only [z_x, z_n, z_stop, z_mem, z_ldi, z_lda, z_sto, z_s1, z_s2, z_sa, z_sv, z_br, z_bn, z_ob, z_ar, z_aq, z_al, z_rt, z_ra, z_at, z_st, z_K0i, z_K0v, zk_0, zk_1, zk_2, zk_3, z_lv, List.map_cons, List.map_nil, List.length_cons, List.length_nil, List.replicate, List.cons_append, List.nil_append, Nat.reduceAdd, Nat.reduceSub, Nat.reduceBEq, Nat.reduceEqDiff, Nat.reduceLT, Nat.reduceLeDiff, Nat.zero_add, Int.cast_ofNat_Int, Int.reduceAdd, Int.reduceNeg, Int.reduceToNat, Int.reduceLE, Int.zero_add, Int.toNat_zero, Int.add_zero, Int.add_neg_cancel_right, Fin.isValue, Int32.reduceOfInt, ↓reduceIte, Bool.false_eq_true, Bool.or_false, Bool.false_or, Bool.or_true, Bool.true_or, if_true, if_false, true_and, and_true, true_or, or_true, false_or, or_false, eq_self, and_self, z_up_i, Nat.add_left_cancel_iff, Nat.left_eq_add, Nat.add_eq_left, reduceCtorEq, Nat.add_one_ne_zero, z_tt, implies_true, zn_0, zn_1, zo_0, zo_1, dX6_isWork_0, dX6_isWork_1, dX6_isWork_2, dX6_isWork_3, dX6_isWork_6, zi_0, zi_3]
    refine ⟨Or.inr ⟨rfl, ?_⟩, rfl⟩
    rcases h1 with h1 | h1
    · exact Or.inl h1
    · by_cases h0 : i < 0
      · exact Or.inl h0
      · exact Or.inr ((h34 i h0).mp h1)
set_option maxRecDepth 100000 in
set_option maxHeartbeats 4000000 in
theorem d_many {l : Launch} {E : zE} {d y k : Nat} {M : zH} {said told lm fm sm : Int32} {f : Nat → Int32} {wk : Nat → List Nat} (ho : z_mo M y said told lm fm sm) (hf : z_ia M (y + 1) 244 f) (hw : m_st f wk) (hk : k < 4) : nX6_many l E d [.ref y, .int (nI k)] M (z_i fun v M' => v = nI (wk k).length ∧ M' = M) := by
  refine z_cn 6 fun P z C => ?_
  unfold z_mo at ho
  unfold z_ia at hf
  refine z_run C [] 10 ?_
  simp only [z_x, z_n, z_stop, z_mem, z_ldi, z_lda, z_sto, z_s1, z_s2, z_sa, z_sv, z_br, z_bn, z_ob, z_ar, z_aq, z_al, z_rt, z_ra, z_at, z_st, z_K0i, z_K0v, zk_0, zk_1, zk_2, zk_3, z_lv, List.map_cons, List.map_nil, List.length_cons, List.length_nil, List.replicate, List.cons_append, List.nil_append, Nat.reduceAdd, Nat.reduceSub, Nat.reduceBEq, Nat.reduceEqDiff, Nat.reduceLT, Nat.reduceLeDiff, Nat.zero_add, Int.cast_ofNat_Int, Int.reduceAdd, Int.reduceNeg, Int.reduceToNat, Int.reduceLE, Int.zero_add, Int.toNat_zero, Int.add_zero, Int.add_neg_cancel_right, Fin.isValue, Int32.reduceOfInt, ↓reduceIte, Bool.false_eq_true, Bool.or_false, Bool.false_or, Bool.or_true, Bool.true_or, if_true, if_false, true_and, and_true, true_or, or_true, false_or, or_false, eq_self, and_self, z_up_i, Nat.add_left_cancel_iff, Nat.left_eq_add, Nat.add_eq_left, reduceCtorEq, Nat.add_one_ne_zero, z_tt, implies_true, zn_0, zn_1, zo_0, zo_1, dX6_many_0, dX6_many_1, dX6_many_4, dX6_many_7, dX6_many_8, dX6_many_9, dX6_many_10, zf_6_7, zs_240, ho, hf]
  rw [show (240 : Int32) + nI k = nI (240 + k) from nI_add 240 k, nI_clamp (by omega)]
  exact ⟨vp_in_nI (by omega) (by omega), (hw k hk).1, rfl⟩
theorem m_st_at {f : Nat → Int32} {wk : Nat → List Nat} {k i : Nat} (h : m_st f wk) (hk : k < 4) (hi : i < (wk k).length) : (60 : Int32) * nI k + nI i = nI (60 * k + i) ∧ vp_in (nI (60 * k + i)) 244 ∧ f (60 * k + i) = nI ((wk k).getD i 0) ∧ (nI (60 * k + i)).toNatClampNeg = 60 * k + i := by
  obtain ⟨-, h2, h3⟩ := h k hk
  exact ⟨by rw [show (60 : Int32) = nI 60 from rfl, pk_mul, nI_add], vp_in_nI (by omega) (by omega), h3 i hi, nI_clamp (by omega)⟩
set_option maxRecDepth 100000 in
set_option maxHeartbeats 4000000 in
theorem d_kindOf {l : Launch} {E : zE} {d y k i : Nat} {M : zH} {said told lm fm sm : Int32} {f : Nat → Int32} {wk : Nat → List Nat} (ho : z_mo M y said told lm fm sm) (hf : z_ia M (y + 1) 244 f) (hw : m_st f wk) (hk : k < 4) (hi : i < (wk k).length) (h15 : ∀ s ∈ wk k, s < 15) : nX6_kindOf l E d [.ref y, .int (nI k), .int (nI i)] M (z_i fun v M' => v = nI ((wk k).getD i 0 / 3) ∧ M' = M) := by
  refine z_cn 6 fun P z C => ?_
  unfold z_mo at ho
  unfold z_ia at hf
  have hg : (wk k)[i]? = some ((wk k).getD i 0) := by simp [hi]
  have hs := h15 _ (List.mem_of_getElem? hg)
  obtain ⟨e1, e2, e3, e4⟩ := m_st_at hw hk hi
  refine z_run C [] 14 ?_
  simp only [z_x, z_n, z_stop, z_mem, z_ldi, z_lda, z_sto, z_s1, z_s2, z_sa, z_sv, z_br, z_bn, z_ob, z_ar, z_aq, z_al, z_rt, z_ra, z_at, z_st, z_K0i, z_K0v, zk_0, zk_1, zk_2, zk_3, z_lv, List.map_cons, List.map_nil, List.length_cons, List.length_nil, List.replicate, List.cons_append, List.nil_append, Nat.reduceAdd, Nat.reduceSub, Nat.reduceBEq, Nat.reduceEqDiff, Nat.reduceLT, Nat.reduceLeDiff, Nat.zero_add, Int.cast_ofNat_Int, Int.reduceAdd, Int.reduceNeg, Int.reduceToNat, Int.reduceLE, Int.zero_add, Int.toNat_zero, Int.add_zero, Int.add_neg_cancel_right, Fin.isValue, Int32.reduceOfInt, ↓reduceIte, Bool.false_eq_true, Bool.or_false, Bool.false_or, Bool.or_true, Bool.true_or, if_true, if_false, true_and, and_true, true_or, or_true, false_or, or_false, eq_self, and_self, z_up_i, Nat.add_left_cancel_iff, Nat.left_eq_add, Nat.add_eq_left, reduceCtorEq, Nat.add_one_ne_zero, z_tt, implies_true, zn_0, zn_1, zo_0, zo_1, dX6_kindOf_0, dX6_kindOf_1, dX6_kindOf_4, dX6_kindOf_6, dX6_kindOf_7, dX6_kindOf_8, dX6_kindOf_9, dX6_kindOf_10, dX6_kindOf_11, dX6_kindOf_12, dX6_kindOf_13, zb_60, zf_6_7, zi_3, ho, hf]
  rw [e1, e4, e3]
  exact ⟨e2, by decide, z_d3 (by omega), rfl⟩
set_option maxRecDepth 100000 in
set_option maxHeartbeats 4000000 in
theorem d_spotOf {l : Launch} {E : zE} {d y k i : Nat} {M : zH} {said told lm fm sm : Int32} {f : Nat → Int32} {wk : Nat → List Nat} (ho : z_mo M y said told lm fm sm) (hf : z_ia M (y + 1) 244 f) (hw : m_st f wk) (hk : k < 4) (hi : i < (wk k).length) (h15 : ∀ s ∈ wk k, s < 15) : nX6_spotOf l E d [.ref y, .int (nI k), .int (nI i)] M (z_i fun v M' => v = nI ((wk k).getD i 0 % 3) ∧ M' = M) := by
  refine z_cn 6 fun P z C => ?_
  unfold z_mo at ho
  unfold z_ia at hf
  have hg : (wk k)[i]? = some ((wk k).getD i 0) := by simp [hi]
  have hs := h15 _ (List.mem_of_getElem? hg)
  obtain ⟨e1, e2, e3, e4⟩ := m_st_at hw hk hi
  refine z_run C [] 14 ?_
  simp only [z_x, z_n, z_stop, z_mem, z_ldi, z_lda, z_sto, z_s1, z_s2, z_sa, z_sv, z_br, z_bn, z_ob, z_ar, z_aq, z_al, z_rt, z_ra, z_at, z_st, z_K0i, z_K0v, zk_0, zk_1, zk_2, zk_3, z_lv, List.map_cons, List.map_nil, List.length_cons, List.length_nil, List.replicate, List.cons_append, List.nil_append, Nat.reduceAdd, Nat.reduceSub, Nat.reduceBEq, Nat.reduceEqDiff, Nat.reduceLT, Nat.reduceLeDiff, Nat.zero_add, Int.cast_ofNat_Int, Int.reduceAdd, Int.reduceNeg, Int.reduceToNat, Int.reduceLE, Int.zero_add, Int.toNat_zero, Int.add_zero, Int.add_neg_cancel_right, Fin.isValue, Int32.reduceOfInt, ↓reduceIte, Bool.false_eq_true, Bool.or_false, Bool.false_or, Bool.or_true, Bool.true_or, if_true, if_false, true_and, and_true, true_or, or_true, false_or, or_false, eq_self, and_self, z_up_i, Nat.add_left_cancel_iff, Nat.left_eq_add, Nat.add_eq_left, reduceCtorEq, Nat.add_one_ne_zero, z_tt, implies_true, zn_0, zn_1, zo_0, zo_1, dX6_spotOf_0, dX6_spotOf_1, dX6_spotOf_4, dX6_spotOf_6, dX6_spotOf_7, dX6_spotOf_8, dX6_spotOf_9, dX6_spotOf_10, dX6_spotOf_11, dX6_spotOf_12, dX6_spotOf_13, zb_60, zf_6_7, zi_3, ho, hf]
  rw [e1, e4, e3]
  exact ⟨e2, by decide, z_m3 (by omega), rfl⟩
theorem z_mo.fp {M M' : zH} {A : Nat → Prop} {y : Nat} {said told lm fm sm : Int32} (h : z_mo M y said told lm fm sm) (hf : z_fp M M' A) (hA : ¬ A y) : z_mo M' y said told lm fm sm := (hf _ hA).trans h
set_option maxRecDepth 100000 in
set_option maxHeartbeats 4000000 in
theorem d_say {l : Launch} {E : zE} {d y : Nat} {M : zH} {pad : List Nat} {wk : Nat → List Nat} {im : Nat → Nat → List Nat} {kept : Nat} {told : Int32} (h : z_md M y pad wk im kept told) (c : Int32) : nX6_say l E (d + 1) [.ref y, .int c] M (z_i fun v M' => v = f_say pad c ∧ z_fp M M' (z_mA y) ∧ z_md M' y (p_say pad c) wk im kept told) := by
  refine z_cn 6 fun P z C => ?_
  obtain ⟨⟨lm, fm, sm, ho⟩, ⟨hc1, hc2, hc3, hpl, ⟨p, hp1, hp2⟩⟩, hs, hi⟩ := id h
  unfold z_mo at ho
  unfold z_ia at hp1
  refine z_run C [] 3 ?_
  simp only [z_x, z_n, z_stop, z_mem, z_ldi, z_lda, z_sto, z_s1, z_s2, z_sa, z_sv, z_br, z_bn, z_ob, z_ar, z_aq, z_al, z_rt, z_ra, z_at, z_st, z_K0i, z_K0v, zk_0, zk_1, zk_2, zk_3, z_lv, List.map_cons, List.map_nil, List.length_cons, List.length_nil, List.replicate, List.cons_append, List.nil_append, Nat.reduceAdd, Nat.reduceSub, Nat.reduceBEq, Nat.reduceEqDiff, Nat.reduceLT, Nat.reduceLeDiff, Nat.zero_add, Int.cast_ofNat_Int, Int.reduceAdd, Int.reduceNeg, Int.reduceToNat, Int.reduceLE, Int.zero_add, Int.toNat_zero, Int.add_zero, Int.add_neg_cancel_right, Fin.isValue, Int32.reduceOfInt, ↓reduceIte, Bool.false_eq_true, Bool.or_false, Bool.false_or, Bool.or_true, Bool.true_or, if_true, if_false, true_and, and_true, true_or, or_true, false_or, or_false, eq_self, and_self, z_up_i, Nat.add_left_cancel_iff, Nat.left_eq_add, Nat.add_eq_left, reduceCtorEq, Nat.add_one_ne_zero, z_tt, implies_true, zn_0, zn_1, zo_0, zo_1, dX6_say_0, dX6_say_1, dX6_say_3, dX6_say_5, dX6_say_8, dX6_say_11, dX6_say_13, dX6_say_14, dX6_say_15, dX6_say_18, dX6_say_20, dX6_say_23, dX6_say_25, dX6_say_26, dX6_say_27, dX6_say_30, dX6_say_31, dX6_say_34, dX6_say_35, dX6_say_36, dX6_say_37, dX6_say_38, dX6_say_41, dX6_say_42, dX6_say_43, dX6_say_46, dX6_say_47, dX6_say_50, zb_126, zb_33, zb_40, zb_m2, zb_m4, zf_6_20, zf_6_61, zi_1, zt_6_4]
  refine z_si C dX6_say_5 lk_6_57 (d_in c 33 126) rfl (fun v M2 hv => ?_)
  obtain ⟨hv, rfl⟩ := hv
  rcases hv with ⟨rfl, c1, c2⟩ | ⟨rfl, hb⟩
  · have hbad : ¬ (c < 33 ∨ 126 < c) := fun q => q.elim c1 c2
    have c0 : ¬ c < 0 := fun q => c1 (Int32.lt_trans q (by decide))
    obtain ⟨j, hj, rfl⟩ := nI_of c0
    have j1 : 33 ≤ j := by
      rcases Nat.lt_or_ge j 33 with q | q
      · exact absurd ((nI_ltI (b := 33) (by omega) (by omega)).mpr q) c1
      · exact q
    have j2 : j ≤ 126 := by
      rcases Nat.lt_or_ge 126 j with q | q
      · exact absurd ((nI_ltI (a := 126) (by omega) (by omega)).mpr q) c2
      · exact q
    refine z_run C [] 24 ?_
    simp only [z_x, z_n, z_stop, z_mem, z_ldi, z_lda, z_sto, z_s1, z_s2, z_sa, z_sv, z_br, z_bn, z_ob, z_ar, z_aq, z_al, z_rt, z_ra, z_at, z_st, z_K0i, z_K0v, zk_0, zk_1, zk_2, zk_3, z_lv, List.map_cons, List.map_nil, List.length_cons, List.length_nil, List.replicate, List.cons_append, List.nil_append, Nat.reduceAdd, Nat.reduceSub, Nat.reduceBEq, Nat.reduceEqDiff, Nat.reduceLT, Nat.reduceLeDiff, Nat.zero_add, Int.cast_ofNat_Int, Int.reduceAdd, Int.reduceNeg, Int.reduceToNat, Int.reduceLE, Int.zero_add, Int.toNat_zero, Int.add_zero, Int.add_neg_cancel_right, Fin.isValue, Int32.reduceOfInt, ↓reduceIte, Bool.false_eq_true, Bool.or_false, Bool.false_or, Bool.or_true, Bool.true_or, if_true, if_false, true_and, and_true, true_or, or_true, false_or, or_false, eq_self, and_self, z_up_i, Nat.add_left_cancel_iff, Nat.left_eq_add, Nat.add_eq_left, reduceCtorEq, Nat.add_one_ne_zero, z_tt, implies_true, zn_0, zn_1, zo_0, zo_1, dX6_say_0, dX6_say_1, dX6_say_3, dX6_say_5, dX6_say_8, dX6_say_11, dX6_say_13, dX6_say_14, dX6_say_15, dX6_say_18, dX6_say_20, dX6_say_23, dX6_say_25, dX6_say_26, dX6_say_27, dX6_say_30, dX6_say_31, dX6_say_34, dX6_say_35, dX6_say_36, dX6_say_37, dX6_say_38, dX6_say_41, dX6_say_42, dX6_say_43, dX6_say_46, dX6_say_47, dX6_say_50, zb_126, zb_33, zb_40, zb_m2, zb_m4, zf_6_20, zf_6_61, zi_1, zt_6_4, ho, hp1]
    rw [show (nI pad.length = 40) = (pad.length = 40) from propext (z_eqn 40 (by omega) (by omega))]
    refine ⟨fun c => absurd c (by decide), fun _ => ⟨fun c3 => ?_, fun c3 => ⟨vp_in_nI (by omega) (by omega), ?_⟩⟩⟩
    · have hlt : ¬ pad.length < 40 := by omega
      exact ⟨by simp [f_say, hbad, hlt], z_fp.rf, by simpa [p_say, hbad, hlt] using h⟩
    · have hlt : pad.length < 40 := by omega
      rw [nI_1, nI_clamp (by omega)]
      have ep : p_say pad (nI j) = pad ++ [j] := by simp [p_say, hbad, hlt, nI_clamp hj]
      rw [ep]
      generalize hM3 : z_up (z_up M2 (y + 4) _) y _ = M3
      have hfa : z_fp M2 M3 (fun q => q = y ∨ q = y + 4) := fun q hq => by rw [← hM3, z_up_n (by omega), z_up_n (by omega)]
      refine ⟨by simp [f_say, hbad, hlt], hfa.sub (fun q hq => by unfold z_mA; omega), ⟨lm, fm, sm, ?_⟩, ⟨?_, ?_, ?_, by simp; omega, ⟨upd p pad.length (nI j), ?_, fun i hi => ?_⟩⟩, hs.kp (z_kp.fp hfa (fun q _ _ => by omega)), fun a ha => ?_, hi.2⟩
      · unfold z_mo; rw [← hM3, z_up_s]; simp
      · obtain ⟨f, f1, f2⟩ := hc1; exact ⟨f, (hfa _ (by omega)).trans f1, f2⟩
      · obtain ⟨f, f1, f2⟩ := hc2; exact ⟨f, (hfa _ (by omega)).trans f1, f2⟩
      · obtain ⟨f, f1, f2⟩ := hc3; exact ⟨f, (hfa _ (by omega)).trans f1, f2⟩
      · unfold z_ia; rw [← hM3, z_up_n (by omega), z_up_s]
      · simp only [List.length_append, List.length_cons, List.length_nil] at hi
        by_cases e : i = pad.length
        · subst e; rw [pk_us]; simp
        · rw [pk_un e, hp2 i (by omega)]; simp [List.getElem?_append_left (show i < pad.length by omega)]
      · rcases List.mem_append.mp ha with ha | ha
        · exact hi.1 a ha
        · rw [List.mem_singleton.mp ha]; exact ⟨j1, j2⟩
  · refine z_run C [] 4 ?_
    simp only [z_x, z_n, z_stop, z_mem, z_ldi, z_lda, z_sto, z_s1, z_s2, z_sa, z_sv, z_br, z_bn, z_ob, z_ar, z_aq, z_al, z_rt, z_ra, z_at, z_st, z_K0i, z_K0v, zk_0, zk_1, zk_2, zk_3, z_lv, List.map_cons, List.map_nil, List.length_cons, List.length_nil, List.replicate, List.cons_append, List.nil_append, Nat.reduceAdd, Nat.reduceSub, Nat.reduceBEq, Nat.reduceEqDiff, Nat.reduceLT, Nat.reduceLeDiff, Nat.zero_add, Int.cast_ofNat_Int, Int.reduceAdd, Int.reduceNeg, Int.reduceToNat, Int.reduceLE, Int.zero_add, Int.toNat_zero, Int.add_zero, Int.add_neg_cancel_right, Fin.isValue, Int32.reduceOfInt, ↓reduceIte, Bool.false_eq_true, Bool.or_false, Bool.false_or, Bool.or_true, Bool.true_or, if_true, if_false, true_and, and_true, true_or, or_true, false_or, or_false, eq_self, and_self, z_up_i, Nat.add_left_cancel_iff, Nat.left_eq_add, Nat.add_eq_left, reduceCtorEq, Nat.add_one_ne_zero, z_tt, implies_true, zn_0, zn_1, zo_0, zo_1, dX6_say_0, dX6_say_1, dX6_say_3, dX6_say_5, dX6_say_8, dX6_say_11, dX6_say_13, dX6_say_14, dX6_say_15, dX6_say_18, dX6_say_20, dX6_say_23, dX6_say_25, dX6_say_26, dX6_say_27, dX6_say_30, dX6_say_31, dX6_say_34, dX6_say_35, dX6_say_36, dX6_say_37, dX6_say_38, dX6_say_41, dX6_say_42, dX6_say_43, dX6_say_46, dX6_say_47, dX6_say_50, zb_126, zb_33, zb_40, zb_m2, zb_m4, zf_6_20, zf_6_61, zi_1, zt_6_4]
    exact ⟨fun _ => ⟨by simp [f_say, hb], z_fp.rf, by simpa [p_say, hb] using h⟩, fun c => absurd trivial c⟩
set_option maxRecDepth 100000 in
set_option maxHeartbeats 4000000 in
theorem d_wipe {l : Launch} {E : zE} {d y : Nat} {M : zH} {pad : List Nat} {wk : Nat → List Nat} {im : Nat → Nat → List Nat} {kept : Nat} {told : Int32} (h : z_md M y pad wk im kept told) : nX6_wipe l E d [.ref y] M (z_i fun v M' => v = nI pad.length ∧ z_fp M M' (z_mA y) ∧ z_md M' y [] wk im kept told) := by
  refine z_cn 6 fun P z C => ?_
  obtain ⟨⟨lm, fm, sm, ho⟩, hc, hs, hi⟩ := id h
  unfold z_mo at ho
  refine z_run C [] 10 ?_
  simp only [z_x, z_n, z_stop, z_mem, z_ldi, z_lda, z_sto, z_s1, z_s2, z_sa, z_sv, z_br, z_bn, z_ob, z_ar, z_aq, z_al, z_rt, z_ra, z_at, z_st, z_K0i, z_K0v, zk_0, zk_1, zk_2, zk_3, z_lv, List.map_cons, List.map_nil, List.length_cons, List.length_nil, List.replicate, List.cons_append, List.nil_append, Nat.reduceAdd, Nat.reduceSub, Nat.reduceBEq, Nat.reduceEqDiff, Nat.reduceLT, Nat.reduceLeDiff, Nat.zero_add, Int.cast_ofNat_Int, Int.reduceAdd, Int.reduceNeg, Int.reduceToNat, Int.reduceLE, Int.zero_add, Int.toNat_zero, Int.add_zero, Int.add_neg_cancel_right, Fin.isValue, Int32.reduceOfInt, ↓reduceIte, Bool.false_eq_true, Bool.or_false, Bool.false_or, Bool.or_true, Bool.true_or, if_true, if_false, true_and, and_true, true_or, or_true, false_or, or_false, eq_self, and_self, z_up_i, Nat.add_left_cancel_iff, Nat.left_eq_add, Nat.add_eq_left, reduceCtorEq, Nat.add_one_ne_zero, z_tt, implies_true, zn_0, zn_1, zo_0, zo_1, dX6_wipe_0, dX6_wipe_1, dX6_wipe_4, dX6_wipe_5, dX6_wipe_6, dX6_wipe_7, dX6_wipe_10, dX6_wipe_11, zf_6_61, zi_0, zt_6_4, ho]
  generalize hM3 : z_up M y _ = M3
  have hfa : z_fp M M3 (fun q => q = y) := fun q hq => by rw [← hM3, z_up_n hq]
  have hc3 := hc.fp hfa (fun q _ _ => by omega)
  obtain ⟨q1, q2, q3, q4, p, q5, q6⟩ := hc3
  exact ⟨rfl, hfa.sub (fun q hq => by unfold z_mA; omega), ⟨lm, fm, sm, by unfold z_mo; rw [← hM3, z_up_s]; rfl⟩, ⟨q1, q2, q3, by simp, p, q5, fun i hi => by simp at hi⟩, hs.kp (z_kp.fp hfa (fun q _ _ => by omega)), fun a ha => by simp at ha, hi.2⟩

theorem m_dh {pad : List Nat} {i c : Nat} {l : List Nat} (h : pad.drop i = c :: l) : i < pad.length ∧ pad.getD i 0 = c ∧ pad.drop (i + 1) = l := by
  have h1 : i < pad.length := by
    have := congrArg List.length h
    simp only [List.length_drop, List.length_cons] at this
    omega
  rw [List.drop_eq_getElem_cons h1] at h
  injection h with h2 h3
  exact ⟨h1, by simp [h1, h2], h3⟩
/-- a well formed text, seen sign by sign -/
theorem m_wf_open {l : List Nat} {o : Nat} (h : m_wf (40 :: l) o false) : o < 3 ∧ m_wf l (o + 1) false := by
  obtain ⟨h1, h2⟩ := h
  simp [m_ok, m_opn] at h1 h2
  exact ⟨h1, h2⟩
theorem m_wf_basic {c : Nat} {l : List Nat} {o : Nat} (c1 : c ≠ 41) (c2 : c ≠ 40) (h : m_wf (c :: l) o false) : (m_isS c ∨ m_isK c) ∧ m_wf l o false := by
  obtain ⟨h1, h2⟩ := h
  simp [m_ok, m_opn, c1, c2] at h1 h2
  rw [show (c == 41) = false from by simp [c1]] at h2
  exact ⟨h1, h2⟩
/-- what lies behind a ( -/
theorem m_dn_body {l : List Nat} {o : Nat} (hw : m_wf l (o + 1) false) : ∃ t r, m_dn l = ((m_dn l).1, 41 :: t :: r) ∧ 49 ≤ t ∧ t ≤ 57 ∧ m_wf r o false ∧ m_flatok (m_dn l).1 ∧ r.length + 2 ≤ l.length := by
  obtain ⟨i1, i2⟩ := m_dn_wf l.length l (o + 1) (Nat.le_refl _) hw
  rcases i2 with ⟨i2, -⟩ | ⟨-, d, r, e1, e2, e3, e4, p, e5⟩
  · omega
  · refine ⟨d, r, by rw [← e1], e2, e3, by simpa using e4, i1, ?_⟩
    have := congrArg List.length e5
    simp at this; omega
set_option maxRecDepth 100000 in
set_option maxHeartbeats 8000000 in
theorem d_endOf {l : Launch} {E : zE} {d y i o t : Nat} {M : zH} {pad r : List Nat} {said told lm fm sm : Int32} {p : Nat → Int32} (ho : z_mo M y said told lm fm sm) (hpl : pad.length ≤ 40) (hp1 : z_ia M (y + 4) 40 p) (hp2 : ∀ i, i < pad.length → p i = nI (pad.getD i 0)) (hs : ∀ c ∈ pad, c < 128) {tl : List Nat} (hi : pad.drop i = 40 :: tl) (hw : m_wf tl (o + 1) false) (hdn : (m_dn tl).2 = 41 :: t :: r) : nX6_endOf l E d [.ref y, .int (nI i)] M (z_i fun v M' => (∃ j, v = nI j ∧ pad.drop j = 41 :: t :: r) ∧ M' = M) := by
  refine z_cn 6 fun P z C => ?_
  unfold z_mo at ho
  unfold z_ia at hp1
  have st : ∀ (j k : Nat), j < pad.length → k < 1000 → (pad.getD j 0 = 40 → P (M, z, 0, 0) 7 [some (.ref y), some (.int (nI i)), some (.int (nI (k + 1))), some (.int (nI (j + 1))), some (.int 1)] []) → (pad.getD j 0 = 41 → k = 1 → P (M, z, 0, 0) 7 [some (.ref y), some (.int (nI i)), some (.int (nI 0)), some (.int (nI j)), some (.int 0)] []) → (pad.getD j 0 = 41 → 1 < k → P (M, z, 0, 0) 7 [some (.ref y), some (.int (nI i)), some (.int (nI (k - 1))), some (.int (nI (j + 1))), some (.int 1)] []) → (pad.getD j 0 ≠ 40 → pad.getD j 0 ≠ 41 → 0 < k → P (M, z, 0, 0) 7 [some (.ref y), some (.int (nI i)), some (.int (nI k)), some (.int (nI (j + 1))), some (.int 1)] []) → (pad.getD j 0 = 40 ∨ 0 < k) → P (M, z, 0, 0) 7 [some (.ref y), some (.int (nI i)), some (.int (nI k)), some (.int (nI j)), some (.int 1)] [] := by
    intro j k hj hk K1 K2 K3 K4 hk0
    have hc := hs _ (m_in hj)
    have hpj := hp2 j hj
    generalize pad.getD j 0 = c at *
    refine z_run C [7] 40 ?_
    simp only [z_x, z_n, z_stop, z_mem, z_ldi, z_lda, z_sto, z_s1, z_s2, z_sa, z_sv, z_br, z_bn, z_ob, z_ar, z_aq, z_al, z_rt, z_ra, z_at, z_st, z_K0i, z_K0v, zk_0, zk_1, zk_2, zk_3, z_lv, List.map_cons, List.map_nil, List.length_cons, List.length_nil, List.replicate, List.cons_append, List.nil_append, Nat.reduceAdd, Nat.reduceSub, Nat.reduceBEq, Nat.reduceEqDiff, Nat.reduceLT, Nat.reduceLeDiff, Nat.zero_add, Int.cast_ofNat_Int, Int.reduceAdd, Int.reduceNeg, Int.reduceToNat, Int.reduceLE, Int.zero_add, Int.toNat_zero, Int.add_zero, Int.add_neg_cancel_right, Fin.isValue, Int32.reduceOfInt, ↓reduceIte, Bool.false_eq_true, Bool.or_false, Bool.false_or, Bool.or_true, Bool.true_or, if_true, if_false, true_and, and_true, true_or, or_true, false_or, or_false, eq_self, and_self, z_up_i, Nat.add_left_cancel_iff, Nat.left_eq_add, Nat.add_eq_left, reduceCtorEq, Nat.add_one_ne_zero, z_tt, implies_true, zn_0, zn_1, zo_0, zo_1, dX6_endOf_0, dX6_endOf_1, dX6_endOf_2, dX6_endOf_3, dX6_endOf_4, dX6_endOf_5, dX6_endOf_7, dX6_endOf_9, dX6_endOf_12, dX6_endOf_13, dX6_endOf_14, dX6_endOf_17, dX6_endOf_18, dX6_endOf_19, dX6_endOf_21, dX6_endOf_24, dX6_endOf_25, dX6_endOf_28, dX6_endOf_29, dX6_endOf_32, dX6_endOf_33, dX6_endOf_34, dX6_endOf_36, dX6_endOf_39, dX6_endOf_40, dX6_endOf_43, dX6_endOf_44, dX6_endOf_45, dX6_endOf_46, dX6_endOf_47, dX6_endOf_50, dX6_endOf_51, dX6_endOf_54, dX6_endOf_55, dX6_endOf_57, dX6_endOf_58, dX6_endOf_60, dX6_endOf_63, dX6_endOf_64, dX6_endOf_67, dX6_endOf_68, dX6_endOf_69, dX6_endOf_70, dX6_endOf_73, dX6_endOf_74, zb_40, zb_41, zf_6_20, zi_0, zi_1, zi_m1, ho, hp1]
    rw [nI_clamp (by omega), hpj, show (nI c = 40) = (c = 40) from propext (z_eqn 40 (by omega) (by omega)), show (nI c = 41) = (c = 41) from propext (z_eqn 41 (by omega) (by omega)), nI_1, nI_1, show nI k + 0 = nI k from nI_add k 0, show nI j + 0 = nI j from nI_add j 0]
    have vj : vp_in (nI j) 40 := vp_in_nI (by omega) (by omega)
    refine ⟨fun c => absurd c (by decide), fun _ => ⟨vj, fun c1 => ⟨fun c2 => absurd c2 (nI_nle (by omega) (by omega)), fun _ => ⟨fun c => absurd c (by decide), fun _ => K1 c1⟩⟩, fun c1 => ⟨vj, fun c2 => ?_, fun c2 => ?_⟩⟩⟩
    · have hk1 : 0 < k := hk0.elim (fun q => absurd q c1) id
      obtain ⟨k, rfl⟩ : ∃ q, k = q + 1 := ⟨k - 1, by omega⟩
      rw [pk_m1]
      by_cases q : k = 0
      · subst q
        exact ⟨fun _ => ⟨fun _ => K2 c2 rfl, fun c => absurd trivial c⟩, fun c => absurd (by decide) c⟩
      · refine ⟨fun c => absurd c (nI_nle (by omega) (by omega)), fun _ => ?_⟩
        exact ⟨fun c => absurd c (by decide), fun _ => K3 c2 (by omega)⟩
    · have hk1 : 0 < k := hk0.elim (fun q => absurd q c1) id
      exact ⟨fun c => absurd c (nI_nle (by omega) (by omega)), fun _ => ⟨fun c => absurd c (by decide), fun _ => K4 c1 c2 hk1⟩⟩
  have scan : ∀ (n j k o : Nat), (pad.drop j).length ≤ n → j ≤ pad.length → 1 ≤ k → k + n < 1000 → m_wf (pad.drop j) (o + 1) false → (∀ j', j' ≤ pad.length → pad.drop j' = (m_dn (pad.drop j)).2 → P (M, z, 0, 0) 7 [some (.ref y), some (.int (nI i)), some (.int (nI k)), some (.int (nI j')), some (.int 1)] []) → P (M, z, 0, 0) 7 [some (.ref y), some (.int (nI i)), some (.int (nI k)), some (.int (nI j)), some (.int 1)] [] := by
    intro n
    induction n with
    | zero =>
      intro j k o hn hj hk hkn hw K
      have : pad.drop j = [] := List.eq_nil_of_length_eq_zero (by omega)
      rw [this] at hw
      exact absurd hw.1 (by omega)
    | succ n ih =>
      intro j k o hn hj hk hkn hw K
      cases hd : pad.drop j with
      | nil => rw [hd] at hw; exact absurd hw.1 (by omega)
      | cons c tl =>
        obtain ⟨q1, q2, q3⟩ := m_dh hd
        rw [hd] at hw K hn
        simp only [List.length_cons] at hn
        by_cases c1 : c = 41
        · subst c1
          rw [m_dn_close] at K
          exact K j hj hd
        · by_cases c2 : c = 40
          · subst c2
            obtain ⟨-, hw2⟩ := m_wf_open hw
            obtain ⟨t, r, e1, e2, e3, e4, e5, e6⟩ := m_dn_body hw2
            rw [m_dn_open tl e1] at K
            refine st j k q1 (by omega) (fun _ => ?_) (fun q => absurd (q2.symm.trans q) (by decide)) (fun q => absurd (q2.symm.trans q) (by decide)) (fun q => absurd q2 q) (Or.inl q2)
            refine ih (j + 1) (k + 1) (o + 1) (by rw [q3]; omega) (by omega) (by omega) (by omega) (by rw [q3]; exact hw2) (fun j1 hj1 hd1 => ?_)
            rw [q3, e1] at hd1
            obtain ⟨p1, p2, p3⟩ := m_dh hd1
            obtain ⟨s1, s2, s3⟩ := m_dh p3
            refine st j1 (k + 1) p1 (by omega) (fun q => absurd (p2.symm.trans q) (by decide)) (fun _ q => by omega) (fun _ _ => ?_) (fun _ q => absurd p2 q) (Or.inr (by omega))
            rw [Nat.add_sub_cancel]
            refine st (j1 + 1) k s1 (by omega) (fun q => by omega) (fun q => by omega) (fun q => by omega) (fun _ _ _ => ?_) (Or.inr (by omega))
            exact ih (j1 + 1 + 1) k o (by rw [s3]; omega) (by omega) hk (by omega) (by rw [s3]; exact e4) (fun j2 hj2 hd2 => K j2 hj2 (by rw [hd2, s3]))
          · obtain ⟨hb, hw2⟩ := m_wf_basic c1 c2 hw
            rw [m_dn_basic tl c1 c2] at K
            refine st j k q1 (by omega) (fun q => absurd (q2.symm.trans q) c2) (fun q => absurd (q2.symm.trans q) c1) (fun q => absurd (q2.symm.trans q) c1) (fun _ _ _ => ?_) (Or.inr (by omega))
            exact ih (j + 1) k o (by rw [q3]; omega) (by omega) hk (by omega) (by rw [q3]; exact hw2) (fun j2 hj2 hd2 => K j2 hj2 (by rw [hd2, q3]))
  obtain ⟨q1, q2, q3⟩ := m_dh hi
  refine z_run C [7] 7 ?_
  simp only [z_x, z_n, z_stop, z_mem, z_ldi, z_lda, z_sto, z_s1, z_s2, z_sa, z_sv, z_br, z_bn, z_ob, z_ar, z_aq, z_al, z_rt, z_ra, z_at, z_st, z_K0i, z_K0v, zk_0, zk_1, zk_2, zk_3, z_lv, List.map_cons, List.map_nil, List.length_cons, List.length_nil, List.replicate, List.cons_append, List.nil_append, Nat.reduceAdd, Nat.reduceSub, Nat.reduceBEq, Nat.reduceEqDiff, Nat.reduceLT, Nat.reduceLeDiff, Nat.zero_add, Int.cast_ofNat_Int, Int.reduceAdd, Int.reduceNeg, Int.reduceToNat, Int.reduceLE, Int.zero_add, Int.toNat_zero, Int.add_zero, Int.add_neg_cancel_right, Fin.isValue, Int32.reduceOfInt, ↓reduceIte, Bool.false_eq_true, Bool.or_false, Bool.false_or, Bool.or_true, Bool.true_or, if_true, if_false, true_and, and_true, true_or, or_true, false_or, or_false, eq_self, and_self, z_up_i, Nat.add_left_cancel_iff, Nat.left_eq_add, Nat.add_eq_left, reduceCtorEq, Nat.add_one_ne_zero, z_tt, implies_true, zn_0, zn_1, zo_0, zo_1, dX6_endOf_0, dX6_endOf_1, dX6_endOf_2, dX6_endOf_3, dX6_endOf_4, dX6_endOf_5, dX6_endOf_7, dX6_endOf_9, dX6_endOf_12, dX6_endOf_13, dX6_endOf_14, dX6_endOf_17, dX6_endOf_18, dX6_endOf_19, dX6_endOf_21, dX6_endOf_24, dX6_endOf_25, dX6_endOf_28, dX6_endOf_29, dX6_endOf_32, dX6_endOf_33, dX6_endOf_34, dX6_endOf_36, dX6_endOf_39, dX6_endOf_40, dX6_endOf_43, dX6_endOf_44, dX6_endOf_45, dX6_endOf_46, dX6_endOf_47, dX6_endOf_50, dX6_endOf_51, dX6_endOf_54, dX6_endOf_55, dX6_endOf_57, dX6_endOf_58, dX6_endOf_60, dX6_endOf_63, dX6_endOf_64, dX6_endOf_67, dX6_endOf_68, dX6_endOf_69, dX6_endOf_70, dX6_endOf_73, dX6_endOf_74, zb_40, zb_41, zf_6_20, zi_0, zi_1, zi_m1]
  refine st i 0 q1 (by omega) (fun _ => ?_) (fun q => absurd (q2.symm.trans q) (by decide)) (fun q => absurd (q2.symm.trans q) (by decide)) (fun q => absurd q2 q) (Or.inl q2)
  refine scan (pad.drop (i + 1)).length (i + 1) 1 o (Nat.le_refl _) (by omega) (by omega) (by rw [List.length_drop]; omega) (by rw [q3]; exact hw) (fun j hj hd => ?_)
  rw [q3, hdn] at hd
  obtain ⟨p1, p2, p3⟩ := m_dh hd
  refine st j 1 p1 (by omega) (fun q => absurd (p2.symm.trans q) (by decide)) (fun _ _ => ?_) (fun _ q => by omega) (fun _ q => absurd p2 q) (Or.inr (by omega))
  refine z_run C [] 5 ?_
  simp only [z_x, z_n, z_stop, z_mem, z_ldi, z_lda, z_sto, z_s1, z_s2, z_sa, z_sv, z_br, z_bn, z_ob, z_ar, z_aq, z_al, z_rt, z_ra, z_at, z_st, z_K0i, z_K0v, zk_0, zk_1, zk_2, zk_3, z_lv, List.map_cons, List.map_nil, List.length_cons, List.length_nil, List.replicate, List.cons_append, List.nil_append, Nat.reduceAdd, Nat.reduceSub, Nat.reduceBEq, Nat.reduceEqDiff, Nat.reduceLT, Nat.reduceLeDiff, Nat.zero_add, Int.cast_ofNat_Int, Int.reduceAdd, Int.reduceNeg, Int.reduceToNat, Int.reduceLE, Int.zero_add, Int.toNat_zero, Int.add_zero, Int.add_neg_cancel_right, Fin.isValue, Int32.reduceOfInt, ↓reduceIte, Bool.false_eq_true, Bool.or_false, Bool.false_or, Bool.or_true, Bool.true_or, if_true, if_false, true_and, and_true, true_or, or_true, false_or, or_false, eq_self, and_self, z_up_i, Nat.add_left_cancel_iff, Nat.left_eq_add, Nat.add_eq_left, reduceCtorEq, Nat.add_one_ne_zero, z_tt, implies_true, zn_0, zn_1, zo_0, zo_1, dX6_endOf_0, dX6_endOf_1, dX6_endOf_2, dX6_endOf_3, dX6_endOf_4, dX6_endOf_5, dX6_endOf_7, dX6_endOf_9, dX6_endOf_12, dX6_endOf_13, dX6_endOf_14, dX6_endOf_17, dX6_endOf_18, dX6_endOf_19, dX6_endOf_21, dX6_endOf_24, dX6_endOf_25, dX6_endOf_28, dX6_endOf_29, dX6_endOf_32, dX6_endOf_33, dX6_endOf_34, dX6_endOf_36, dX6_endOf_39, dX6_endOf_40, dX6_endOf_43, dX6_endOf_44, dX6_endOf_45, dX6_endOf_46, dX6_endOf_47, dX6_endOf_50, dX6_endOf_51, dX6_endOf_54, dX6_endOf_55, dX6_endOf_57, dX6_endOf_58, dX6_endOf_60, dX6_endOf_63, dX6_endOf_64, dX6_endOf_67, dX6_endOf_68, dX6_endOf_69, dX6_endOf_70, dX6_endOf_73, dX6_endOf_74, zb_40, zb_41, zf_6_20, zi_0, zi_1, zi_m1]
  exact ⟨fun _ => ⟨⟨j, rfl, hd⟩, rfl⟩, fun c => absurd trivial c⟩

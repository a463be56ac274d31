set_option maxRecDepth 100000 in
set_option maxHeartbeats 4000000 in
theorem d_apart {l : Launch} {E : zE} {d : Nat} {M : zH} (a c : Nat) (ha : a < 1000) (hc : c < 1000) : nX6_apart l E d [.int (nI a), .int (nI c)] M (z_i fun v M' => ((v = 1 ∧ (a / 10 + 1 < c / 10 ∨ c / 10 + 1 < a / 10)) ∨ (v = 0 ∧ ¬ (a / 10 + 1 < c / 10 ∨ c / 10 + 1 < a / 10))) ∧ M' = M) := by
  refine z_cn 6 fun P z C => ?_
  refine z_run C [] 20 ?_
  simp only [z_x, z_n, z_stop, z_mem, z_ldi, z_lda, z_sto, z_s1, z_s2, z_sa, z_sv, z_br, z_bn, z_ob, z_ar, z_aq, z_al, z_rt, z_ra, z_at, z_st, z_K0i, z_K0v, zk_0, zk_1, zk_2, zk_3, z_lv, List.map_cons, List.map_nil, List.length_cons, List.length_nil, List.replicate, List.cons_append, List.nil_append, Nat.reduceAdd, Nat.reduceSub, Nat.reduceBEq, Nat.reduceEqDiff, Nat.reduceLT, Nat.reduceLeDiff, Nat.zero_add, Int.cast_ofNat_Int, Int.reduceAdd, Int.reduceNeg, Int.reduceToNat, Int.reduceLE, Int.zero_add, Int.toNat_zero, Int.add_zero, Int.add_neg_cancel_right, Fin.isValue, Int32.reduceOfInt, ↓reduceIte, Bool.false_eq_true, Bool.or_false, Bool.false_or, Bool.or_true, Bool.true_or, if_true, if_false, true_and, and_true, true_or, or_true, false_or, or_false, eq_self, and_self, z_up_i, Nat.add_left_cancel_iff, Nat.left_eq_add, Nat.add_eq_left, reduceCtorEq, Nat.add_one_ne_zero, z_tt, implies_true, zn_0, zn_1, zo_0, zo_1, dX6_apart_0, dX6_apart_1, dX6_apart_3, dX6_apart_4, dX6_apart_5, dX6_apart_7, dX6_apart_8, dX6_apart_9, dX6_apart_10, dX6_apart_11, dX6_apart_12, dX6_apart_15, dX6_apart_16, dX6_apart_17, dX6_apart_20, dX6_apart_21, dX6_apart_24, dX6_apart_25, zb_10, zi_0, zi_1, zi_m1]
  have e := pk_sub_toInt (a := a / 10) (b := c / 10) (by omega) (by omega)
  have e1 : (1 < nI (a / 10) - nI (c / 10)) = (c / 10 + 1 < a / 10) := propext (by
    rw [Int32.lt_iff_toInt_lt, e, show (1 : Int32).toInt = 1 from by decide]; omega)
  have e2 : (-1 ≤ nI (a / 10) - nI (c / 10)) = (¬ a / 10 + 1 < c / 10) := propext (by
    rw [Int32.le_iff_toInt_le, e, show (-1 : Int32).toInt = -1 from by decide]; omega)
  rw [show nI a / 10 = nI (a / 10) from z_d10 (by omega), show nI c / 10 = nI (c / 10) from z_d10 (by omega), e1, e2]
  exact ⟨by decide, by decide, fun c1 => ⟨Or.inl ⟨rfl, Or.inr c1⟩, rfl⟩, fun c1 => ⟨fun c2 => ⟨Or.inr ⟨rfl, fun q => q.elim c2 c1⟩, rfl⟩, fun c2 => ⟨Or.inl ⟨rfl, Or.inl (Classical.not_not.mp c2)⟩, rfl⟩⟩⟩
set_option maxRecDepth 100000 in
set_option maxHeartbeats 4000000 in
theorem d_removeAt {l : Launch} {E : zE} {d r n k m : Nat} {M : zH} {a : Nat → Int32} (hr : z_ia M r n a) (hk : k < m) (hm : m ≤ n) (hn : n < 2 ^ 30) : nX6_removeAt l E d [.ref r, .int (nI k), .int (nI m)] M (z_v fun M' => z_fp M M' (fun q => q = r) ∧ ∃ a', z_ia M' r n a' ∧ (∀ i, i < k → a' i = a i) ∧ ∀ i, k ≤ i → i + 1 < m → a' i = a (i + 1)) := by
  refine z_cn 6 fun P z C => ?_
  have loop : ∀ (q i : Nat) (M1 : zH) (a1 : Nat → Int32), i + 1 + q = m → k ≤ i → z_fp M M1 (fun q => q = r) → z_ia M1 r n a1 → (∀ j, j < k → a1 j = a j) → (∀ j, k ≤ j → j < i → a1 j = a (j + 1)) → (∀ j, i ≤ j → a1 j = a j) → P (M1, z, 0, 0) 2 [some (.ref r), some (.int (nI k)), some (.int (nI m)), some (.int (nI i))] [] := by
    intro q
    induction q with
    | zero =>
      intro i M1 a1 hi hki hf h1 h2 h3 h4
      refine z_run C [] 8 ?_
      simp only [z_x, z_n, z_stop, z_mem, z_ldi, z_lda, z_sto, z_s1, z_s2, z_sa, z_sv, z_br, z_bn, z_ob, z_ar, z_aq, z_al, z_rt, z_ra, z_at, z_st, z_K0i, z_K0v, zk_0, zk_1, zk_2, zk_3, z_lv, List.map_cons, List.map_nil, List.length_cons, List.length_nil, List.replicate, List.cons_append, List.nil_append, Nat.reduceAdd, Nat.reduceSub, Nat.reduceBEq, Nat.reduceEqDiff, Nat.reduceLT, Nat.reduceLeDiff, Nat.zero_add, Int.cast_ofNat_Int, Int.reduceAdd, Int.reduceNeg, Int.reduceToNat, Int.reduceLE, Int.zero_add, Int.toNat_zero, Int.add_zero, Int.add_neg_cancel_right, Fin.isValue, Int32.reduceOfInt, ↓reduceIte, Bool.false_eq_true, Bool.or_false, Bool.false_or, Bool.or_true, Bool.true_or, if_true, if_false, true_and, and_true, true_or, or_true, false_or, or_false, eq_self, and_self, z_up_i, Nat.add_left_cancel_iff, Nat.left_eq_add, Nat.add_eq_left, reduceCtorEq, Nat.add_one_ne_zero, z_tt, implies_true, zn_0, zn_1, zo_0, zo_1, dX6_removeAt_0, dX6_removeAt_1, dX6_removeAt_2, dX6_removeAt_3, dX6_removeAt_4, dX6_removeAt_5, dX6_removeAt_6, dX6_removeAt_9, dX6_removeAt_10, dX6_removeAt_11, dX6_removeAt_12, dX6_removeAt_13, dX6_removeAt_14, dX6_removeAt_15, dX6_removeAt_16, dX6_removeAt_17, dX6_removeAt_20, dX6_removeAt_23, zi_1]
      rw [nI_1]
      exact ⟨fun _ => ⟨hf, a1, h1, h2, fun j hj hjm => h3 j hj (by omega)⟩, fun c1 => absurd (nI_le (by omega) (by omega)) c1⟩
    | succ q ih =>
      intro i M1 a1 hi hki hf h1 h2 h3 h4
      unfold z_ia at h1
      refine z_run C [2] 20 ?_
      simp only [z_x, z_n, z_stop, z_mem, z_ldi, z_lda, z_sto, z_s1, z_s2, z_sa, z_sv, z_br, z_bn, z_ob, z_ar, z_aq, z_al, z_rt, z_ra, z_at, z_st, z_K0i, z_K0v, zk_0, zk_1, zk_2, zk_3, z_lv, List.map_cons, List.map_nil, List.length_cons, List.length_nil, List.replicate, List.cons_append, List.nil_append, Nat.reduceAdd, Nat.reduceSub, Nat.reduceBEq, Nat.reduceEqDiff, Nat.reduceLT, Nat.reduceLeDiff, Nat.zero_add, Int.cast_ofNat_Int, Int.reduceAdd, Int.reduceNeg, Int.reduceToNat, Int.reduceLE, Int.zero_add, Int.toNat_zero, Int.add_zero, Int.add_neg_cancel_right, Fin.isValue, Int32.reduceOfInt, ↓reduceIte, Bool.false_eq_true, Bool.or_false, Bool.false_or, Bool.or_true, Bool.true_or, if_true, if_false, true_and, and_true, true_or, or_true, false_or, or_false, eq_self, and_self, z_up_i, Nat.add_left_cancel_iff, Nat.left_eq_add, Nat.add_eq_left, reduceCtorEq, Nat.add_one_ne_zero, z_tt, implies_true, zn_0, zn_1, zo_0, zo_1, dX6_removeAt_0, dX6_removeAt_1, dX6_removeAt_2, dX6_removeAt_3, dX6_removeAt_4, dX6_removeAt_5, dX6_removeAt_6, dX6_removeAt_9, dX6_removeAt_10, dX6_removeAt_11, dX6_removeAt_12, dX6_removeAt_13, dX6_removeAt_14, dX6_removeAt_15, dX6_removeAt_16, dX6_removeAt_17, dX6_removeAt_20, dX6_removeAt_23, zi_1, h1]
      rw [nI_1, nI_clamp (by omega), nI_clamp (by omega), h4 (i + 1) (by omega)]
      refine ⟨fun c1 => absurd ((nI_leI (by omega) (by omega)).mp c1) (by omega), fun _ => ⟨vp_in_nI (by omega) (by omega), vp_in_nI (by omega) (by omega), ?_⟩⟩
      refine ih (i + 1) _ (upd a1 i (a (i + 1))) (by omega) (by omega) (fun a ha => ?_) (z_up_s _ _ _) (fun j hj => ?_) (fun j hj hj2 => ?_) (fun j hj => ?_)
      · rw [z_up_n ha]; exact hf a ha
      · rw [pk_un (by omega)]; exact h2 j hj
      · by_cases e : j = i
        · subst e; rw [pk_us]
        · rw [pk_un e]; exact h3 j hj (by omega)
      · rw [pk_un (by omega)]; exact h4 j (by omega)
  refine z_run C [2] 3 ?_
  simp only [z_x, z_n, z_stop, z_mem, z_ldi, z_lda, z_sto, z_s1, z_s2, z_sa, z_sv, z_br, z_bn, z_ob, z_ar, z_aq, z_al, z_rt, z_ra, z_at, z_st, z_K0i, z_K0v, zk_0, zk_1, zk_2, zk_3, z_lv, List.map_cons, List.map_nil, List.length_cons, List.length_nil, List.replicate, List.cons_append, List.nil_append, Nat.reduceAdd, Nat.reduceSub, Nat.reduceBEq, Nat.reduceEqDiff, Nat.reduceLT, Nat.reduceLeDiff, Nat.zero_add, Int.cast_ofNat_Int, Int.reduceAdd, Int.reduceNeg, Int.reduceToNat, Int.reduceLE, Int.zero_add, Int.toNat_zero, Int.add_zero, Int.add_neg_cancel_right, Fin.isValue, Int32.reduceOfInt, ↓reduceIte, Bool.false_eq_true, Bool.or_false, Bool.false_or, Bool.or_true, Bool.true_or, if_true, if_false, true_and, and_true, true_or, or_true, false_or, or_false, eq_self, and_self, z_up_i, Nat.add_left_cancel_iff, Nat.left_eq_add, Nat.add_eq_left, reduceCtorEq, Nat.add_one_ne_zero, z_tt, implies_true, zn_0, zn_1, zo_0, zo_1, dX6_removeAt_0, dX6_removeAt_1, dX6_removeAt_2, dX6_removeAt_3, dX6_removeAt_4, dX6_removeAt_5, dX6_removeAt_6, dX6_removeAt_9, dX6_removeAt_10, dX6_removeAt_11, dX6_removeAt_12, dX6_removeAt_13, dX6_removeAt_14, dX6_removeAt_15, dX6_removeAt_16, dX6_removeAt_17, dX6_removeAt_20, dX6_removeAt_23, zi_1]
  exact loop (m - k - 1) k M a (by omega) (Nat.le_refl _) z_fp.rf hr (fun j _ => rfl) (fun j h1 h2 => by omega) (fun j _ => rfl)
/-- what is left of a row of letters, by their places in it -/
def z_lf (M : zH) (y : Nat) (ls J : List Nat) : Prop := ∃ a, z_ia M (y + 12) 120 a ∧ ∀ i, i < J.length → a i = nI (ls.getD (J.getD i 0) 0)
theorem m_er {J : List Nat} (h : J.Pairwise (· < ·)) : ∀ {k : Nat}, k < J.length → J.filter (fun j => j != J.getD k 0) = J.eraseIdx k := by
  induction J with
  | nil => intro k hk; simp at hk
  | cons a J ih =>
    intro k hk
    have hp := List.pairwise_cons.mp h
    cases k with
    | zero =>
      have : J.filter (fun k => k != a) = J := List.filter_eq_self.mpr (fun k hk => by have := hp.1 k hk; simp; omega)
      simp [this]
    | succ k =>
      have hk' : k < J.length := by simpa using hk
      have hm : J.getD k 0 ∈ J := by
        have : J[k]? = some (J.getD k 0) := by simp [hk']
        exact List.mem_of_getElem? this
      have hne : a ≠ J.getD k 0 := by have := hp.1 _ hm; omega
      have e := ih hp.2 hk'
      simp only [List.getD_cons_succ, List.eraseIdx_cons_succ, List.filter_cons, bne_iff_ne, ne_eq, hne, not_false_eq_true, if_true, e]
theorem m_er_at (J : List Nat) (k i : Nat) : (J.eraseIdx k).getD i 0 = if i < k then J.getD i 0 else J.getD (i + 1) 0 := by
  simp only [List.getD_eq_getElem?_getD, List.getElem?_eraseIdx]
  split <;> rfl
theorem m_in {J : List Nat} {k : Nat} (h : k < J.length) : J.getD k 0 ∈ J := by
  have : J[k]? = some (J.getD k 0) := by simp [h]
  exact List.mem_of_getElem? this
theorem m_ix {J : List Nat} {j : Nat} (h : j ∈ J) : ∃ k, k < J.length ∧ J.getD k 0 = j := by
  obtain ⟨k, hk, e⟩ := List.getElem_of_mem h
  exact ⟨k, hk, by simp [hk, e]⟩
theorem m_lt {J : List Nat} (h : J.Pairwise (· < ·)) {a c : Nat} (ha : a < c) (hc : c < J.length) : J.getD a 0 < J.getD c 0 := by
  have := List.pairwise_iff_getElem.mp h a c (by omega) hc ha
  simpa [hc, show a < J.length by omega] using this
theorem m_lt_iff {J : List Nat} (h : J.Pairwise (· < ·)) {a c : Nat} (ha : a < J.length) (hc : c < J.length) : J.getD a 0 < J.getD c 0 ↔ a < c := by
  constructor
  · intro q
    rcases Nat.lt_trichotomy a c with z | z | z
    · exact z
    · subst z; omega
    · have := m_lt h z ha; omega
  · exact fun q => m_lt h q hc
theorem m_len {J : List Nat} {n : Nat} (h : J.Pairwise (· < ·)) (hb : ∀ j ∈ J, j < n) : J.length ≤ n := m_pig n J (h.imp (fun q => by omega)) hb
/-- one letter more, by the last that doesn't let it pass -/
theorem m_mk_at {ls J : List Nat} {i k : Nat} (hp : J.Pairwise (· < ·)) (hk : k < J.length) (haf : ∀ e, k < e → e < J.length → m_ap ls (J.getD e 0) i) (hna : ¬ m_ap ls (J.getD k 0) i) : (m_pq ls (J.getD k 0) = m_pq ls i ∧ ls.getD (J.getD k 0) 0 ≠ ls.getD i 0 → m_mk ls J i = J.eraseIdx k) ∧ (¬ (m_pq ls (J.getD k 0) = m_pq ls i ∧ ls.getD (J.getD k 0) 0 ≠ ls.getD i 0) → m_mk ls J i = J ++ [i]) := by
  constructor
  · rintro ⟨h1, h2⟩
    rw [← m_er hp hk]
    refine m_mk_hit ⟨m_in hk, h1, h2, fun j hj hlt => ?_⟩
    obtain ⟨e, he, rfl⟩ := m_ix hj
    exact haf e ((m_lt_iff hp hk he).mp hlt) he
  · intro hn
    refine m_mk_no (fun o ho => ?_)
    obtain ⟨o1, o2, o3, o4⟩ := ho
    obtain ⟨e, he, rfl⟩ := m_ix o1
    rcases Nat.lt_trichotomy e k with z | z | z
    · exact hna (o4 _ (m_in hk) (m_lt hp z hk))
    · subst z; exact hn ⟨o2, o3⟩
    · have := haf e z he
      unfold m_ap at this; omega
theorem m_mk_all {ls J : List Nat} {i : Nat} (haf : ∀ e, e < J.length → m_ap ls (J.getD e 0) i) : m_mk ls J i = J ++ [i] := by
  refine m_mk_no (fun o ho => ?_)
  obtain ⟨o1, o2, -⟩ := ho
  obtain ⟨e, he, rfl⟩ := m_ix o1
  have := haf e he
  unfold m_ap at this; omega
set_option maxRecDepth 100000 in
set_option maxHeartbeats 8000000 in
theorem d_addLeft {l : Launch} {E : zE} {d y i : Nat} {M : zH} {said told lm sm : Int32} {ls J : List Nat} (ho : z_mo M y said told lm (nI J.length) sm) (hl : z_lf M y ls J) (hlk : z_lok ls) (hp : J.Pairwise (· < ·)) (hb : ∀ j ∈ J, j < i) (hi : i < ls.length) : nX6_addLeft l E (d + 1) [.ref y, .int (nI (ls.getD i 0))] M (z_v fun M' => z_fp M M' (fun q => q = y ∨ q = y + 12) ∧ z_kp M M' y ∧ z_mo M' y said told lm (nI (m_mk ls J i).length) sm ∧ z_lf M' y ls (m_mk ls J i)) := by
  refine z_cn 6 fun P z C => ?_
  have hJ := m_len hp hb
  have h120 := hlk.1
  have hsm : ∀ j, ls.getD j 0 < 1000 := fun j => by have := hlk.sm j; omega
  obtain ⟨a, ha, hav⟩ := hl
  have ho' := ho
  have ha' := ha
  unfold z_mo at ho
  unfold z_ia at ha
  -- put behind
  have app : m_mk ls J i = J ++ [i] → ∀ u, P (M, z, 0, 0) 85 [some (.ref y), some (.int (nI (ls.getD i 0))), u] [] := by
    intro e u
    rw [e] at C
    refine z_run C [] 20 ?_
    simp only [z_x, z_n, z_stop, z_mem, z_ldi, z_lda, z_sto, z_s1, z_s2, z_sa, z_sv, z_br, z_bn, z_ob, z_ar, z_aq, z_al, z_rt, z_ra, z_at, z_st, z_K0i, z_K0v, zk_0, zk_1, zk_2, zk_3, z_lv, List.map_cons, List.map_nil, List.length_cons, List.length_nil, List.replicate, List.cons_append, List.nil_append, Nat.reduceAdd, Nat.reduceSub, Nat.reduceBEq, Nat.reduceEqDiff, Nat.reduceLT, Nat.reduceLeDiff, Nat.zero_add, Int.cast_ofNat_Int, Int.reduceAdd, Int.reduceNeg, Int.reduceToNat, Int.reduceLE, Int.zero_add, Int.toNat_zero, Int.add_zero, Int.add_neg_cancel_right, Fin.isValue, Int32.reduceOfInt, ↓reduceIte, Bool.false_eq_true, Bool.or_false, Bool.false_or, Bool.or_true, Bool.true_or, if_true, if_false, true_and, and_true, true_or, or_true, false_or, or_false, eq_self, and_self, z_up_i, Nat.add_left_cancel_iff, Nat.left_eq_add, Nat.add_eq_left, reduceCtorEq, Nat.add_one_ne_zero, z_tt, implies_true, zn_0, zn_1, zo_0, zo_1, dX6_addLeft_0, dX6_addLeft_1, dX6_addLeft_4, dX6_addLeft_5, dX6_addLeft_6, dX6_addLeft_7, dX6_addLeft_8, dX6_addLeft_11, dX6_addLeft_12, dX6_addLeft_15, dX6_addLeft_16, dX6_addLeft_17, dX6_addLeft_18, dX6_addLeft_21, dX6_addLeft_24, dX6_addLeft_27, dX6_addLeft_30, dX6_addLeft_31, dX6_addLeft_34, dX6_addLeft_35, dX6_addLeft_38, dX6_addLeft_39, dX6_addLeft_40, dX6_addLeft_42, dX6_addLeft_43, dX6_addLeft_44, dX6_addLeft_46, dX6_addLeft_47, dX6_addLeft_50, dX6_addLeft_51, dX6_addLeft_54, dX6_addLeft_55, dX6_addLeft_56, dX6_addLeft_57, dX6_addLeft_60, dX6_addLeft_61, dX6_addLeft_64, dX6_addLeft_65, dX6_addLeft_66, dX6_addLeft_69, dX6_addLeft_72, dX6_addLeft_73, dX6_addLeft_74, dX6_addLeft_77, dX6_addLeft_78, dX6_addLeft_79, dX6_addLeft_82, dX6_addLeft_85, dX6_addLeft_86, dX6_addLeft_89, dX6_addLeft_90, dX6_addLeft_93, dX6_addLeft_94, dX6_addLeft_95, dX6_addLeft_96, dX6_addLeft_97, dX6_addLeft_100, dX6_addLeft_101, dX6_addLeft_102, dX6_addLeft_105, zb_10, zf_6_131, zf_6_48, zi_1, zi_m1, zt_6_15, ho, ha]
    rw [nI_1, nI_clamp (by omega)]
    refine ⟨vp_in_nI (by omega) (by omega), ?_⟩
    generalize hM3 : z_up (z_up M (y + 12) _) y _ = M3
    have hfa : z_fp M M3 (fun q => q = y ∨ q = y + 12) := fun q hq => by rw [← hM3, z_up_n (by omega), z_up_n (by omega)]
    have h12 : z_ia M3 (y + 12) 120 (upd a J.length (nI (ls.getD i 0))) := by unfold z_ia; rw [← hM3, z_up_n (by omega), z_up_s]
    refine ⟨hfa, ?_, ?_, upd a J.length (nI (ls.getD i 0)), h12, fun j hj => ?_⟩
    · have k1 : z_fp M (z_up M (y + 12) (.inl (0, 120, .inl (upd a J.length (nI (ls.getD i 0)))))) (fun q => q = y + 12) := fun q hq => z_up_n hq
      refine (z_kp.one k1 ha' (z_up_s _ _ _)).tr (z_kp.fp (A := fun q => q = y) (fun q hq => ?_) (fun q _ _ => by omega))
      rw [← hM3, z_up_n hq]
    · unfold z_mo; rw [← hM3, z_up_s]; simp
    · simp only [List.length_append, List.length_cons, List.length_nil] at hj
      by_cases e : j = J.length
      · subst e; rw [pk_us]; simp
      · rw [pk_un e, hav j (by omega)]; simp [List.getElem?_append_left (show j < J.length by omega)]
  have loop : ∀ n, n ≤ J.length → (∀ e, n ≤ e → e < J.length → m_ap ls (J.getD e 0) i) → P (M, z, 0, 0) 7 [some (.ref y), some (.int (nI (ls.getD i 0))), some (.int (nI n - 1))] [] := by
    intro n
    induction n with
    | zero =>
      intro _ haf
      refine z_run C [85] 5 ?_
      simp only [z_x, z_n, z_stop, z_mem, z_ldi, z_lda, z_sto, z_s1, z_s2, z_sa, z_sv, z_br, z_bn, z_ob, z_ar, z_aq, z_al, z_rt, z_ra, z_at, z_st, z_K0i, z_K0v, zk_0, zk_1, zk_2, zk_3, z_lv, List.map_cons, List.map_nil, List.length_cons, List.length_nil, List.replicate, List.cons_append, List.nil_append, Nat.reduceAdd, Nat.reduceSub, Nat.reduceBEq, Nat.reduceEqDiff, Nat.reduceLT, Nat.reduceLeDiff, Nat.zero_add, Int.cast_ofNat_Int, Int.reduceAdd, Int.reduceNeg, Int.reduceToNat, Int.reduceLE, Int.zero_add, Int.toNat_zero, Int.add_zero, Int.add_neg_cancel_right, Fin.isValue, Int32.reduceOfInt, ↓reduceIte, Bool.false_eq_true, Bool.or_false, Bool.false_or, Bool.or_true, Bool.true_or, if_true, if_false, true_and, and_true, true_or, or_true, false_or, or_false, eq_self, and_self, z_up_i, Nat.add_left_cancel_iff, Nat.left_eq_add, Nat.add_eq_left, reduceCtorEq, Nat.add_one_ne_zero, z_tt, implies_true, zn_0, zn_1, zo_0, zo_1, dX6_addLeft_0, dX6_addLeft_1, dX6_addLeft_4, dX6_addLeft_5, dX6_addLeft_6, dX6_addLeft_7, dX6_addLeft_8, dX6_addLeft_11, dX6_addLeft_12, dX6_addLeft_15, dX6_addLeft_16, dX6_addLeft_17, dX6_addLeft_18, dX6_addLeft_21, dX6_addLeft_24, dX6_addLeft_27, dX6_addLeft_30, dX6_addLeft_31, dX6_addLeft_34, dX6_addLeft_35, dX6_addLeft_38, dX6_addLeft_39, dX6_addLeft_40, dX6_addLeft_42, dX6_addLeft_43, dX6_addLeft_44, dX6_addLeft_46, dX6_addLeft_47, dX6_addLeft_50, dX6_addLeft_51, dX6_addLeft_54, dX6_addLeft_55, dX6_addLeft_56, dX6_addLeft_57, dX6_addLeft_60, dX6_addLeft_61, dX6_addLeft_64, dX6_addLeft_65, dX6_addLeft_66, dX6_addLeft_69, dX6_addLeft_72, dX6_addLeft_73, dX6_addLeft_74, dX6_addLeft_77, dX6_addLeft_78, dX6_addLeft_79, dX6_addLeft_82, dX6_addLeft_85, dX6_addLeft_86, dX6_addLeft_89, dX6_addLeft_90, dX6_addLeft_93, dX6_addLeft_94, dX6_addLeft_95, dX6_addLeft_96, dX6_addLeft_97, dX6_addLeft_100, dX6_addLeft_101, dX6_addLeft_102, dX6_addLeft_105, zb_10, zf_6_131, zf_6_48, zi_1, zi_m1, zt_6_15]
      refine ⟨fun _ => ⟨fun _ => app (m_mk_all (fun e he => haf e (by omega) he)) _, fun c => absurd (by decide) c⟩, fun c => absurd (by decide) c⟩
    | succ n ih =>
      intro hn haf
      rw [nI_pred]
      refine z_run C [] 8 ?_
      simp only [z_x, z_n, z_stop, z_mem, z_ldi, z_lda, z_sto, z_s1, z_s2, z_sa, z_sv, z_br, z_bn, z_ob, z_ar, z_aq, z_al, z_rt, z_ra, z_at, z_st, z_K0i, z_K0v, zk_0, zk_1, zk_2, zk_3, z_lv, List.map_cons, List.map_nil, List.length_cons, List.length_nil, List.replicate, List.cons_append, List.nil_append, Nat.reduceAdd, Nat.reduceSub, Nat.reduceBEq, Nat.reduceEqDiff, Nat.reduceLT, Nat.reduceLeDiff, Nat.zero_add, Int.cast_ofNat_Int, Int.reduceAdd, Int.reduceNeg, Int.reduceToNat, Int.reduceLE, Int.zero_add, Int.toNat_zero, Int.add_zero, Int.add_neg_cancel_right, Fin.isValue, Int32.reduceOfInt, ↓reduceIte, Bool.false_eq_true, Bool.or_false, Bool.false_or, Bool.or_true, Bool.true_or, if_true, if_false, true_and, and_true, true_or, or_true, false_or, or_false, eq_self, and_self, z_up_i, Nat.add_left_cancel_iff, Nat.left_eq_add, Nat.add_eq_left, reduceCtorEq, Nat.add_one_ne_zero, z_tt, implies_true, zn_0, zn_1, zo_0, zo_1, dX6_addLeft_0, dX6_addLeft_1, dX6_addLeft_4, dX6_addLeft_5, dX6_addLeft_6, dX6_addLeft_7, dX6_addLeft_8, dX6_addLeft_11, dX6_addLeft_12, dX6_addLeft_15, dX6_addLeft_16, dX6_addLeft_17, dX6_addLeft_18, dX6_addLeft_21, dX6_addLeft_24, dX6_addLeft_27, dX6_addLeft_30, dX6_addLeft_31, dX6_addLeft_34, dX6_addLeft_35, dX6_addLeft_38, dX6_addLeft_39, dX6_addLeft_40, dX6_addLeft_42, dX6_addLeft_43, dX6_addLeft_44, dX6_addLeft_46, dX6_addLeft_47, dX6_addLeft_50, dX6_addLeft_51, dX6_addLeft_54, dX6_addLeft_55, dX6_addLeft_56, dX6_addLeft_57, dX6_addLeft_60, dX6_addLeft_61, dX6_addLeft_64, dX6_addLeft_65, dX6_addLeft_66, dX6_addLeft_69, dX6_addLeft_72, dX6_addLeft_73, dX6_addLeft_74, dX6_addLeft_77, dX6_addLeft_78, dX6_addLeft_79, dX6_addLeft_82, dX6_addLeft_85, dX6_addLeft_86, dX6_addLeft_89, dX6_addLeft_90, dX6_addLeft_93, dX6_addLeft_94, dX6_addLeft_95, dX6_addLeft_96, dX6_addLeft_97, dX6_addLeft_100, dX6_addLeft_101, dX6_addLeft_102, dX6_addLeft_105, zb_10, zf_6_131, zf_6_48, zi_1, zi_m1, zt_6_15, ho, ha]
      refine ⟨fun c => absurd c (nI_pos (by omega)), fun _ => ⟨vp_in_nI (by omega) (by omega), ?_⟩⟩
      rw [nI_clamp (by omega), hav n (by omega)]
      refine z_si C dX6_addLeft_18 lk_6_134 (d_apart _ _ (hsm _) (hsm _)) rfl (fun v M2 hv => ?_)
      obtain ⟨hv, rfl⟩ := hv
      rcases hv with ⟨rfl, hv⟩ | ⟨rfl, hv⟩
      · refine z_run C [7] 5 ?_
        simp only [z_x, z_n, z_stop, z_mem, z_ldi, z_lda, z_sto, z_s1, z_s2, z_sa, z_sv, z_br, z_bn, z_ob, z_ar, z_aq, z_al, z_rt, z_ra, z_at, z_st, z_K0i, z_K0v, zk_0, zk_1, zk_2, zk_3, z_lv, List.map_cons, List.map_nil, List.length_cons, List.length_nil, List.replicate, List.cons_append, List.nil_append, Nat.reduceAdd, Nat.reduceSub, Nat.reduceBEq, Nat.reduceEqDiff, Nat.reduceLT, Nat.reduceLeDiff, Nat.zero_add, Int.cast_ofNat_Int, Int.reduceAdd, Int.reduceNeg, Int.reduceToNat, Int.reduceLE, Int.zero_add, Int.toNat_zero, Int.add_zero, Int.add_neg_cancel_right, Fin.isValue, Int32.reduceOfInt, ↓reduceIte, Bool.false_eq_true, Bool.or_false, Bool.false_or, Bool.or_true, Bool.true_or, if_true, if_false, true_and, and_true, true_or, or_true, false_or, or_false, eq_self, and_self, z_up_i, Nat.add_left_cancel_iff, Nat.left_eq_add, Nat.add_eq_left, reduceCtorEq, Nat.add_one_ne_zero, z_tt, implies_true, zn_0, zn_1, zo_0, zo_1, dX6_addLeft_0, dX6_addLeft_1, dX6_addLeft_4, dX6_addLeft_5, dX6_addLeft_6, dX6_addLeft_7, dX6_addLeft_8, dX6_addLeft_11, dX6_addLeft_12, dX6_addLeft_15, dX6_addLeft_16, dX6_addLeft_17, dX6_addLeft_18, dX6_addLeft_21, dX6_addLeft_24, dX6_addLeft_27, dX6_addLeft_30, dX6_addLeft_31, dX6_addLeft_34, dX6_addLeft_35, dX6_addLeft_38, dX6_addLeft_39, dX6_addLeft_40, dX6_addLeft_42, dX6_addLeft_43, dX6_addLeft_44, dX6_addLeft_46, dX6_addLeft_47, dX6_addLeft_50, dX6_addLeft_51, dX6_addLeft_54, dX6_addLeft_55, dX6_addLeft_56, dX6_addLeft_57, dX6_addLeft_60, dX6_addLeft_61, dX6_addLeft_64, dX6_addLeft_65, dX6_addLeft_66, dX6_addLeft_69, dX6_addLeft_72, dX6_addLeft_73, dX6_addLeft_74, dX6_addLeft_77, dX6_addLeft_78, dX6_addLeft_79, dX6_addLeft_82, dX6_addLeft_85, dX6_addLeft_86, dX6_addLeft_89, dX6_addLeft_90, dX6_addLeft_93, dX6_addLeft_94, dX6_addLeft_95, dX6_addLeft_96, dX6_addLeft_97, dX6_addLeft_100, dX6_addLeft_101, dX6_addLeft_102, dX6_addLeft_105, zb_10, zf_6_131, zf_6_48, zi_1, zi_m1, zt_6_15]
        refine ⟨fun c => absurd c (by decide), fun _ => ?_⟩
        have := ih (by omega) (fun e he1 he2 => by
          rcases Nat.lt_or_ge n e with z | z
          · exact haf e (by omega) he2
          · rw [show e = n by omega]; unfold m_ap m_pq; omega)
        rw [show nI n + -1 = nI n - 1 from (Int32.sub_eq_add_neg (nI n) 1).symm]
        exact this
      · have hna : ¬ m_ap ls (J.getD n 0) i := by unfold m_ap m_pq; omega
        obtain ⟨q1, q2⟩ := m_mk_at hp (show n < J.length by omega) (fun e h1 h2 => haf e (by omega) h2) hna
        refine z_run C [85] 34 ?_
        simp only [z_x, z_n, z_stop, z_mem, z_ldi, z_lda, z_sto, z_s1, z_s2, z_sa, z_sv, z_br, z_bn, z_ob, z_ar, z_aq, z_al, z_rt, z_ra, z_at, z_st, z_K0i, z_K0v, zk_0, zk_1, zk_2, zk_3, z_lv, List.map_cons, List.map_nil, List.length_cons, List.length_nil, List.replicate, List.cons_append, List.nil_append, Nat.reduceAdd, Nat.reduceSub, Nat.reduceBEq, Nat.reduceEqDiff, Nat.reduceLT, Nat.reduceLeDiff, Nat.zero_add, Int.cast_ofNat_Int, Int.reduceAdd, Int.reduceNeg, Int.reduceToNat, Int.reduceLE, Int.zero_add, Int.toNat_zero, Int.add_zero, Int.add_neg_cancel_right, Fin.isValue, Int32.reduceOfInt, ↓reduceIte, Bool.false_eq_true, Bool.or_false, Bool.false_or, Bool.or_true, Bool.true_or, if_true, if_false, true_and, and_true, true_or, or_true, false_or, or_false, eq_self, and_self, z_up_i, Nat.add_left_cancel_iff, Nat.left_eq_add, Nat.add_eq_left, reduceCtorEq, Nat.add_one_ne_zero, z_tt, implies_true, zn_0, zn_1, zo_0, zo_1, dX6_addLeft_0, dX6_addLeft_1, dX6_addLeft_4, dX6_addLeft_5, dX6_addLeft_6, dX6_addLeft_7, dX6_addLeft_8, dX6_addLeft_11, dX6_addLeft_12, dX6_addLeft_15, dX6_addLeft_16, dX6_addLeft_17, dX6_addLeft_18, dX6_addLeft_21, dX6_addLeft_24, dX6_addLeft_27, dX6_addLeft_30, dX6_addLeft_31, dX6_addLeft_34, dX6_addLeft_35, dX6_addLeft_38, dX6_addLeft_39, dX6_addLeft_40, dX6_addLeft_42, dX6_addLeft_43, dX6_addLeft_44, dX6_addLeft_46, dX6_addLeft_47, dX6_addLeft_50, dX6_addLeft_51, dX6_addLeft_54, dX6_addLeft_55, dX6_addLeft_56, dX6_addLeft_57, dX6_addLeft_60, dX6_addLeft_61, dX6_addLeft_64, dX6_addLeft_65, dX6_addLeft_66, dX6_addLeft_69, dX6_addLeft_72, dX6_addLeft_73, dX6_addLeft_74, dX6_addLeft_77, dX6_addLeft_78, dX6_addLeft_79, dX6_addLeft_82, dX6_addLeft_85, dX6_addLeft_86, dX6_addLeft_89, dX6_addLeft_90, dX6_addLeft_93, dX6_addLeft_94, dX6_addLeft_95, dX6_addLeft_96, dX6_addLeft_97, dX6_addLeft_100, dX6_addLeft_101, dX6_addLeft_102, dX6_addLeft_105, zb_10, zf_6_131, zf_6_48, zi_1, zi_m1, zt_6_15, ho, ha]
        rw [nI_clamp (by omega), hav n (by omega), show nI (ls.getD (J.getD n 0) 0) / 10 = nI (ls.getD (J.getD n 0) 0 / 10) from z_d10 (by have := hsm (J.getD n 0); omega), show nI (ls.getD i 0) / 10 = nI (ls.getD i 0 / 10) from z_d10 (by have := hsm i; omega), nI_eq (by have := hsm (J.getD n 0); omega) (by have := hsm i; omega), nI_eq (by have := hsm (J.getD n 0); omega) (by have := hsm i; omega)]
        have vi : vp_in (nI n) 120 := vp_in_nI (by omega) (by omega)
        refine ⟨fun _ => ⟨fun c => absurd c (nI_pos (by omega)), fun _ => ⟨vi, by decide, by decide, fun c1 => ⟨vi, fun c2 => ?_, fun c2 => ?_⟩, fun c1 => ?_⟩⟩, fun c => absurd trivial c⟩
        · exact app (q2 (fun q => q.2 c2)) _
        · refine z_sw C dX6_addLeft_69 lk_6_138 (d_removeAt ha' (show n < J.length by omega) (by omega) (by omega)) rfl (fun M3 hv => ?_)
          obtain ⟨x1, a2, x2, x3, x4⟩ := hv
          have e := q1 ⟨by unfold m_pq; omega, c2⟩
          rw [e] at C
          have ho3 : M3 y = _ := (x1 _ (by omega)).trans ho
          refine z_run C [] 12 ?_
          simp only [z_x, z_n, z_stop, z_mem, z_ldi, z_lda, z_sto, z_s1, z_s2, z_sa, z_sv, z_br, z_bn, z_ob, z_ar, z_aq, z_al, z_rt, z_ra, z_at, z_st, z_K0i, z_K0v, zk_0, zk_1, zk_2, zk_3, z_lv, List.map_cons, List.map_nil, List.length_cons, List.length_nil, List.replicate, List.cons_append, List.nil_append, Nat.reduceAdd, Nat.reduceSub, Nat.reduceBEq, Nat.reduceEqDiff, Nat.reduceLT, Nat.reduceLeDiff, Nat.zero_add, Int.cast_ofNat_Int, Int.reduceAdd, Int.reduceNeg, Int.reduceToNat, Int.reduceLE, Int.zero_add, Int.toNat_zero, Int.add_zero, Int.add_neg_cancel_right, Fin.isValue, Int32.reduceOfInt, ↓reduceIte, Bool.false_eq_true, Bool.or_false, Bool.false_or, Bool.or_true, Bool.true_or, if_true, if_false, true_and, and_true, true_or, or_true, false_or, or_false, eq_self, and_self, z_up_i, Nat.add_left_cancel_iff, Nat.left_eq_add, Nat.add_eq_left, reduceCtorEq, Nat.add_one_ne_zero, z_tt, implies_true, zn_0, zn_1, zo_0, zo_1, dX6_addLeft_0, dX6_addLeft_1, dX6_addLeft_4, dX6_addLeft_5, dX6_addLeft_6, dX6_addLeft_7, dX6_addLeft_8, dX6_addLeft_11, dX6_addLeft_12, dX6_addLeft_15, dX6_addLeft_16, dX6_addLeft_17, dX6_addLeft_18, dX6_addLeft_21, dX6_addLeft_24, dX6_addLeft_27, dX6_addLeft_30, dX6_addLeft_31, dX6_addLeft_34, dX6_addLeft_35, dX6_addLeft_38, dX6_addLeft_39, dX6_addLeft_40, dX6_addLeft_42, dX6_addLeft_43, dX6_addLeft_44, dX6_addLeft_46, dX6_addLeft_47, dX6_addLeft_50, dX6_addLeft_51, dX6_addLeft_54, dX6_addLeft_55, dX6_addLeft_56, dX6_addLeft_57, dX6_addLeft_60, dX6_addLeft_61, dX6_addLeft_64, dX6_addLeft_65, dX6_addLeft_66, dX6_addLeft_69, dX6_addLeft_72, dX6_addLeft_73, dX6_addLeft_74, dX6_addLeft_77, dX6_addLeft_78, dX6_addLeft_79, dX6_addLeft_82, dX6_addLeft_85, dX6_addLeft_86, dX6_addLeft_89, dX6_addLeft_90, dX6_addLeft_93, dX6_addLeft_94, dX6_addLeft_95, dX6_addLeft_96, dX6_addLeft_97, dX6_addLeft_100, dX6_addLeft_101, dX6_addLeft_102, dX6_addLeft_105, zb_10, zf_6_131, zf_6_48, zi_1, zi_m1, zt_6_15, ho3]
          have hel : (J.eraseIdx n).length = J.length - 1 := List.length_eraseIdx_of_lt (by omega)
          rw [show nI J.length - 1 = nI (J.length - 1) from pk_sub (b := 1) (by omega)]
          generalize hM4 : z_up M3 y _ = M4
          have hf4 : z_fp M3 M4 (fun q => q = y) := fun q hq => by rw [← hM4, z_up_n hq]
          refine ⟨(x1.sub (fun q hq => Or.inr hq)).tr (hf4.sub (fun q hq => Or.inl hq)), (z_kp.one x1 ha' x2).tr (z_kp.fp hf4 (fun q _ _ => by omega)), ?_, a2, (hf4 _ (by omega)).trans x2, fun j hj => ?_⟩
          · unfold z_mo; rw [← hM4, z_up_s, hel]
          · rw [hel] at hj
            rw [m_er_at]
            by_cases q : j < n
            · rw [if_pos q, x3 j q, hav j (by omega)]
            · rw [if_neg q, x4 j (by omega) (by omega), hav (j + 1) (by omega)]
        · exact app (q2 (fun q => c1 (by have := q.1; unfold m_pq at this; omega))) _
  refine z_run C [7] 8 ?_
  simp only [z_x, z_n, z_stop, z_mem, z_ldi, z_lda, z_sto, z_s1, z_s2, z_sa, z_sv, z_br, z_bn, z_ob, z_ar, z_aq, z_al, z_rt, z_ra, z_at, z_st, z_K0i, z_K0v, zk_0, zk_1, zk_2, zk_3, z_lv, List.map_cons, List.map_nil, List.length_cons, List.length_nil, List.replicate, List.cons_append, List.nil_append, Nat.reduceAdd, Nat.reduceSub, Nat.reduceBEq, Nat.reduceEqDiff, Nat.reduceLT, Nat.reduceLeDiff, Nat.zero_add, Int.cast_ofNat_Int, Int.reduceAdd, Int.reduceNeg, Int.reduceToNat, Int.reduceLE, Int.zero_add, Int.toNat_zero, Int.add_zero, Int.add_neg_cancel_right, Fin.isValue, Int32.reduceOfInt, ↓reduceIte, Bool.false_eq_true, Bool.or_false, Bool.false_or, Bool.or_true, Bool.true_or, if_true, if_false, true_and, and_true, true_or, or_true, false_or, or_false, eq_self, and_self, z_up_i, Nat.add_left_cancel_iff, Nat.left_eq_add, Nat.add_eq_left, reduceCtorEq, Nat.add_one_ne_zero, z_tt, implies_true, zn_0, zn_1, zo_0, zo_1, dX6_addLeft_0, dX6_addLeft_1, dX6_addLeft_4, dX6_addLeft_5, dX6_addLeft_6, dX6_addLeft_7, dX6_addLeft_8, dX6_addLeft_11, dX6_addLeft_12, dX6_addLeft_15, dX6_addLeft_16, dX6_addLeft_17, dX6_addLeft_18, dX6_addLeft_21, dX6_addLeft_24, dX6_addLeft_27, dX6_addLeft_30, dX6_addLeft_31, dX6_addLeft_34, dX6_addLeft_35, dX6_addLeft_38, dX6_addLeft_39, dX6_addLeft_40, dX6_addLeft_42, dX6_addLeft_43, dX6_addLeft_44, dX6_addLeft_46, dX6_addLeft_47, dX6_addLeft_50, dX6_addLeft_51, dX6_addLeft_54, dX6_addLeft_55, dX6_addLeft_56, dX6_addLeft_57, dX6_addLeft_60, dX6_addLeft_61, dX6_addLeft_64, dX6_addLeft_65, dX6_addLeft_66, dX6_addLeft_69, dX6_addLeft_72, dX6_addLeft_73, dX6_addLeft_74, dX6_addLeft_77, dX6_addLeft_78, dX6_addLeft_79, dX6_addLeft_82, dX6_addLeft_85, dX6_addLeft_86, dX6_addLeft_89, dX6_addLeft_90, dX6_addLeft_93, dX6_addLeft_94, dX6_addLeft_95, dX6_addLeft_96, dX6_addLeft_97, dX6_addLeft_100, dX6_addLeft_101, dX6_addLeft_102, dX6_addLeft_105, zb_10, zf_6_131, zf_6_48, zi_1, zi_m1, zt_6_15, ho]
  exact loop J.length (Nat.le_refl _) (fun e h1 h2 => by omega)

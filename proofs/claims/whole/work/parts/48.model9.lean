def m_tau (k j : Nat) : Nat := if j = k then k + 1 else if j = k + 1 then k else j
theorem m_swp_tau (p : Nat → Nat) (k j : Nat) : m_swp p k j = p (m_tau k j) := by
  unfold m_swp m_tau
  split
  · rfl
  · split <;> rfl
theorem m_tau_lt {k j : Nat} (hk : k < 7) (hj : j < 8) : m_tau k j < 8 := by
  unfold m_tau
  split
  · omega
  · split <;> omega
theorem m_tau_inj {k i j : Nat} (h : m_tau k i = m_tau k j) : i = j := by
  unfold m_tau at h
  split at h <;> split at h <;> (try split at h) <;> (try split at h) <;> omega
def m_inj (p : Nat → Nat) : Prop := ∀ i, i < 8 → ∀ j, j < 8 → p i = p j → i = j
theorem m_lay_inj {ls : List Nat} (h : ∀ a ∈ ls, a / 10 < 7) : ∀ (p : Nat → Nat), m_inj p → m_inj (m_lay ls p) := by
  induction ls with
  | nil => intro p hp; exact hp
  | cons a ls ih =>
    intro p hp
    refine ih (fun c hc => h c (List.mem_cons_of_mem _ hc)) _ (fun i hi j hj e => ?_)
    have h7 := h a List.mem_cons_self
    have e' : m_swp p (a / 10) i = m_swp p (a / 10) j := e
    rw [m_swp_tau, m_swp_tau] at e'
    exact m_tau_inj (hp _ (m_tau_lt h7 hi) _ (m_tau_lt h7 hj) e')
theorem m_lay_unt (ls : List Nat) (j : Nat) : ∀ (p : Nat → Nat), m_unt ls j = true → m_lay ls p j = p j := by
  induction ls with
  | nil => intro p _; rfl
  | cons a ls ih =>
    intro p hu
    simp only [m_unt, List.all_cons, Bool.and_eq_true, bne_iff_ne, ne_eq] at hu
    have e := ih (m_swp p (a / 10)) hu.2
    show m_lay ls (m_swp p (a / 10)) j = p j
    rw [e, m_swp, if_neg (fun q => hu.1.1 q.symm), if_neg (fun q => hu.1.2 q.symm)]
theorem m_lay_comp (ls : List Nat) : ∀ (q p : Nat → Nat), m_lay ls (fun j => q (p j)) = fun j => q (m_lay ls p j) := by
  induction ls with
  | nil => intro q p; rfl
  | cons a ls ih =>
    intro q p
    show m_lay ls (m_swp (fun j => q (p j)) (a / 10)) = fun j => q (m_lay ls (m_swp p (a / 10)) j)
    rw [← ih]
    congr 1
    funext j
    rw [m_swp_tau, m_swp_tau]
theorem m_clr1 : ∀ p, p < 8 → ∀ a0 a1 a2 a3 a4 a5 a6 a7 : Bool, m_m8 a0 a1 a2 a3 a4 a5 a6 a7 &&& ((1 <<< (nI p &&& 31)) ^^^ -1) = m_m8 (a0 && p != 0) (a1 && p != 1) (a2 && p != 2) (a3 && p != 3) (a4 && p != 4) (a5 && p != 5) (a6 && p != 6) (a7 && p != 7) := by decide +kernel
theorem m_msk_c1 (t : Nat → Bool) {p : Nat} (hp : p < 8) : m_msk t &&& ((1 <<< (nI p &&& 31)) ^^^ -1) = m_msk (fun j => t j && p != j) := m_clr1 p hp (t 0) (t 1) (t 2) (t 3) (t 4) (t 5) (t 6) (t 7)
theorem m_and_or (x a b : Int32) : x &&& ((a ||| b) ^^^ -1) = (x &&& (a ^^^ -1)) &&& (b ^^^ -1) := by
  apply Int32.toBitVec_inj.mp
  simp only [Int32.toBitVec_and, Int32.toBitVec_or, Int32.toBitVec_xor]
  apply BitVec.eq_of_getLsbD_eq
  intro i hi
  simp only [BitVec.getLsbD_and, BitVec.getLsbD_or, BitVec.getLsbD_xor]
  have e : (-1 : Int32).toBitVec.getLsbD i = true := by
    rw [show (-1 : Int32).toBitVec = BitVec.allOnes 32 from by decide, BitVec.getLsbD_allOnes]
    simpa using hi
  rw [e]
  cases x.toBitVec.getLsbD i <;> cases a.toBitVec.getLsbD i <;> cases b.toBitVec.getLsbD i <;> rfl
theorem m_msk_ext {t u : Nat → Bool} (h : ∀ j, j < 8 → t j = u j) : m_msk t = m_msk u := by
  unfold m_msk
  rw [h 0 (by omega), h 1 (by omega), h 2 (by omega), h 3 (by omega), h 4 (by omega), h 5 (by omega), h 6 (by omega), h 7 (by omega)]
set_option maxRecDepth 100000 in
set_option maxHeartbeats 8000000 in
theorem d_still {l : Launch} {E : zE} {d y k : Nat} {M : zH} {said told lm fm sm : Int32} {f : Nat → Int32} {wk : Nat → List Nat} (ho : z_mo M y said told lm fm sm) (hf : z_ia M (y + 1) 244 f) (hst : m_st f wk) (hk : k < 4) (h15 : ∀ s ∈ wk k, s < 15) (hs : z_ms M y) : nX6_still l E (d + 2) [.ref y, .int (nI k)] M (z_i fun v M' => v = m_msk (m_unt (m_lets (wk k))) ∧ z_mq M M' y said told) := by
  refine z_cn 6 fun P z C => ?_
  have l2 := (hst k hk).2.1
  have hlk := m_lets_ok h15 l2
  have hlen := hlk.1
  obtain ⟨ls, els⟩ : ∃ ls, ls = m_lets (wk k) := ⟨_, rfl⟩
  obtain ⟨ts, ets⟩ : ∃ ts, ts = m_lst (wk k) := ⟨_, rfl⟩
  rw [← els] at hlk hlen
  rw [← els] at C
  have loop : ∀ (m i : Nat) (M1 : zH), i + m = ls.length → z_lq M M1 y said told fm sm ls ts (m_lay (ls.take i) id) → ∀ u, P (M1, z, 0, 0) 15 [some (.ref y), some (.int (nI k)), some (.int (m_msk (m_unt (ls.take i)))), some (.int (nI i)), u] [] := by
    intro m
    induction m with
    | zero =>
      intro i M1 him hq u
      have hmq := hq.mq
      have ho1 := hq.2.2.1.1
      unfold z_mo at ho1
      refine z_run C [] 20 ?_
      simp only [z_x, z_n, z_stop, z_mem, z_ldi, z_lda, z_sto, z_s1, z_s2, z_sa, z_sv, z_br, z_bn, z_ob, z_ar, z_aq, z_al, z_rt, z_ra, z_at, z_st, z_K0i, z_K0v, zk_0, zk_1, zk_2, zk_3, z_lv, List.map_cons, List.map_nil, List.length_cons, List.length_nil, List.replicate, List.cons_append, List.nil_append, Nat.reduceAdd, Nat.reduceSub, Nat.reduceBEq, Nat.reduceEqDiff, Nat.reduceLT, Nat.reduceLeDiff, Nat.zero_add, Int.cast_ofNat_Int, Int.reduceAdd, Int.reduceNeg, Int.reduceToNat, Int.reduceLE, Int.zero_add, Int.toNat_zero, Int.add_zero, Int.add_neg_cancel_right, Fin.isValue, Int32.reduceOfInt, ↓reduceIte, Bool.false_eq_true, Bool.or_false, Bool.false_or, Bool.or_true, Bool.true_or, if_true, if_false, true_and, and_true, true_or, or_true, false_or, or_false, eq_self, and_self, z_up_i, Nat.add_left_cancel_iff, Nat.left_eq_add, Nat.add_eq_left, reduceCtorEq, Nat.add_one_ne_zero, z_tt, implies_true, zn_0, zn_1, zo_0, zo_1, dX6_still_0, dX6_still_1, dX6_still_2, dX6_still_5, dX6_still_6, dX6_still_9, dX6_still_12, dX6_still_13, dX6_still_14, dX6_still_15, dX6_still_16, dX6_still_17, dX6_still_20, dX6_still_23, dX6_still_24, dX6_still_27, dX6_still_28, dX6_still_29, dX6_still_31, dX6_still_32, dX6_still_34, dX6_still_35, dX6_still_36, dX6_still_37, dX6_still_40, dX6_still_42, dX6_still_43, dX6_still_44, dX6_still_45, dX6_still_46, dX6_still_49, dX6_still_51, dX6_still_52, dX6_still_53, dX6_still_54, dX6_still_55, dX6_still_56, dX6_still_57, dX6_still_58, dX6_still_59, dX6_still_60, dX6_still_61, dX6_still_62, dX6_still_65, dX6_still_66, dX6_still_67, dX6_still_70, dX6_still_73, dX6_still_76, dX6_still_77, zb_10, zf_6_39, zf_6_45, zf_6_98, zi_0, zi_1, zi_m1, zs_255, ho1]
      refine ⟨fun _ => ⟨by rw [List.take_of_length_le (by omega)], hmq⟩, fun c1 => absurd (nI_le (by omega) (by omega)) c1⟩
    | succ m ih =>
      intro i M1 him hq u
      obtain ⟨ho1, hts, ⟨a9, ha, hai⟩, -⟩ := id hq.2.2.1
      obtain ⟨g, hg, hgv⟩ := id hq.2.2.2
      have ho2 := ho1
      unfold z_mo at ho1
      unfold z_ia at ha hg
      have hil : i < ls.length := by omega
      have hgs : ls[i]? = some (ls.getD i 0) := by simp [hil]
      have h7 := hlk.2 _ (List.mem_of_getElem? hgs)
      have hav := hai i hil
      have htk := z_take1 hgs
      generalize ls.getD i 0 = a at h7 hav htk
      have hinj := m_lay_inj (ls := ls.take i) (fun c hc => hlk.2 c (List.mem_of_mem_take hc)) id (fun i _ j _ e => e)
      have hunt := m_lay_unt (ls.take i)
      have hu := hgv (a / 10) (by omega)
      have hw := hgv (a / 10 + 1) (by omega)
      refine z_run C [] 50 ?_
      simp only [z_x, z_n, z_stop, z_mem, z_ldi, z_lda, z_sto, z_s1, z_s2, z_sa, z_sv, z_br, z_bn, z_ob, z_ar, z_aq, z_al, z_rt, z_ra, z_at, z_st, z_K0i, z_K0v, zk_0, zk_1, zk_2, zk_3, z_lv, List.map_cons, List.map_nil, List.length_cons, List.length_nil, List.replicate, List.cons_append, List.nil_append, Nat.reduceAdd, Nat.reduceSub, Nat.reduceBEq, Nat.reduceEqDiff, Nat.reduceLT, Nat.reduceLeDiff, Nat.zero_add, Int.cast_ofNat_Int, Int.reduceAdd, Int.reduceNeg, Int.reduceToNat, Int.reduceLE, Int.zero_add, Int.toNat_zero, Int.add_zero, Int.add_neg_cancel_right, Fin.isValue, Int32.reduceOfInt, ↓reduceIte, Bool.false_eq_true, Bool.or_false, Bool.false_or, Bool.or_true, Bool.true_or, if_true, if_false, true_and, and_true, true_or, or_true, false_or, or_false, eq_self, and_self, z_up_i, Nat.add_left_cancel_iff, Nat.left_eq_add, Nat.add_eq_left, reduceCtorEq, Nat.add_one_ne_zero, z_tt, implies_true, zn_0, zn_1, zo_0, zo_1, dX6_still_0, dX6_still_1, dX6_still_2, dX6_still_5, dX6_still_6, dX6_still_9, dX6_still_12, dX6_still_13, dX6_still_14, dX6_still_15, dX6_still_16, dX6_still_17, dX6_still_20, dX6_still_23, dX6_still_24, dX6_still_27, dX6_still_28, dX6_still_29, dX6_still_31, dX6_still_32, dX6_still_34, dX6_still_35, dX6_still_36, dX6_still_37, dX6_still_40, dX6_still_42, dX6_still_43, dX6_still_44, dX6_still_45, dX6_still_46, dX6_still_49, dX6_still_51, dX6_still_52, dX6_still_53, dX6_still_54, dX6_still_55, dX6_still_56, dX6_still_57, dX6_still_58, dX6_still_59, dX6_still_60, dX6_still_61, dX6_still_62, dX6_still_65, dX6_still_66, dX6_still_67, dX6_still_70, dX6_still_73, dX6_still_76, dX6_still_77, zb_10, zf_6_39, zf_6_45, zf_6_98, zi_0, zi_1, zi_m1, zs_255, ho1, ha, hg]
      rw [nI_clamp (by omega), hav, show nI a / 10 = nI (a / 10) from z_d10 (by omega), nI_1, nI_clamp (by omega), nI_clamp (by omega), hu.1, hw.1, m_and_or, m_msk_c1 _ hu.2, m_msk_c1 _ hw.2]
      have vi : vp_in (nI i) 120 := vp_in_nI (by omega) (by omega)
      refine ⟨fun c1 => absurd ((nI_leI (by omega) (by omega)).mp c1) (by omega), fun _ => ⟨vi, by decide, vp_in_nI (by omega) (by omega), vp_in_nI (by omega) (by omega), vi, ?_⟩⟩
      have e : m_msk (fun j => (m_unt (ls.take i) j && m_lay (ls.take i) id (a / 10) != j) && m_lay (ls.take i) id (a / 10 + 1) != j) = m_msk (m_unt (ls.take (i + 1))) := by
        refine m_msk_ext (fun j hj => ?_)
        have ea : m_unt (ls.take i ++ [a]) j = (m_unt (ls.take i) j && (a / 10 != j && a / 10 + 1 != j)) := by simp [m_unt, List.all_append]
        rw [htk, ea]
        cases hun : m_unt (ls.take i) j with
        | false => rfl
        | true =>
          have ej := hunt j id hun
          have q1 : (m_lay (ls.take i) id (a / 10) = j) ↔ a / 10 = j := ⟨fun q => hinj _ (by omega) _ hj (q.trans ej.symm), fun q => by rw [q]; exact ej⟩
          have q2 : (m_lay (ls.take i) id (a / 10 + 1) = j) ↔ a / 10 + 1 = j := ⟨fun q => hinj _ (by omega) _ hj (q.trans ej.symm), fun q => by rw [q]; exact ej⟩
          rw [Bool.eq_iff_iff]
          simp only [Bool.true_and, Bool.and_eq_true, bne_iff_ne, ne_eq, q1, q2]
      rw [e]
      refine z_vv C dX6_still_67 lk_6_112 (d_change ho2 hq.2.2.2 h7) rfl ho2 (fun M2 hv => ?_)
      obtain ⟨x1, x2⟩ := hv
      refine z_run C [15] 3 ?_
      simp only [z_x, z_n, z_stop, z_mem, z_ldi, z_lda, z_sto, z_s1, z_s2, z_sa, z_sv, z_br, z_bn, z_ob, z_ar, z_aq, z_al, z_rt, z_ra, z_at, z_st, z_K0i, z_K0v, zk_0, zk_1, zk_2, zk_3, z_lv, List.map_cons, List.map_nil, List.length_cons, List.length_nil, List.replicate, List.cons_append, List.nil_append, Nat.reduceAdd, Nat.reduceSub, Nat.reduceBEq, Nat.reduceEqDiff, Nat.reduceLT, Nat.reduceLeDiff, Nat.zero_add, Int.cast_ofNat_Int, Int.reduceAdd, Int.reduceNeg, Int.reduceToNat, Int.reduceLE, Int.zero_add, Int.toNat_zero, Int.add_zero, Int.add_neg_cancel_right, Fin.isValue, Int32.reduceOfInt, ↓reduceIte, Bool.false_eq_true, Bool.or_false, Bool.false_or, Bool.or_true, Bool.true_or, if_true, if_false, true_and, and_true, true_or, or_true, false_or, or_false, eq_self, and_self, z_up_i, Nat.add_left_cancel_iff, Nat.left_eq_add, Nat.add_eq_left, reduceCtorEq, Nat.add_one_ne_zero, z_tt, implies_true, zn_0, zn_1, zo_0, zo_1, dX6_still_0, dX6_still_1, dX6_still_2, dX6_still_5, dX6_still_6, dX6_still_9, dX6_still_12, dX6_still_13, dX6_still_14, dX6_still_15, dX6_still_16, dX6_still_17, dX6_still_20, dX6_still_23, dX6_still_24, dX6_still_27, dX6_still_28, dX6_still_29, dX6_still_31, dX6_still_32, dX6_still_34, dX6_still_35, dX6_still_36, dX6_still_37, dX6_still_40, dX6_still_42, dX6_still_43, dX6_still_44, dX6_still_45, dX6_still_46, dX6_still_49, dX6_still_51, dX6_still_52, dX6_still_53, dX6_still_54, dX6_still_55, dX6_still_56, dX6_still_57, dX6_still_58, dX6_still_59, dX6_still_60, dX6_still_61, dX6_still_62, dX6_still_65, dX6_still_66, dX6_still_67, dX6_still_70, dX6_still_73, dX6_still_76, dX6_still_77, zb_10, zf_6_39, zf_6_45, zf_6_98, zi_0, zi_1, zi_m1, zs_255]
      rw [nI_1]
      refine ih (i + 1) M2 (by omega) ?_ _
      rw [htk, m_lay_1]
      exact hq.chg x1 x2
  refine z_run C [] 3 ?_
  simp only [z_x, z_n, z_stop, z_mem, z_ldi, z_lda, z_sto, z_s1, z_s2, z_sa, z_sv, z_br, z_bn, z_ob, z_ar, z_aq, z_al, z_rt, z_ra, z_at, z_st, z_K0i, z_K0v, zk_0, zk_1, zk_2, zk_3, z_lv, List.map_cons, List.map_nil, List.length_cons, List.length_nil, List.replicate, List.cons_append, List.nil_append, Nat.reduceAdd, Nat.reduceSub, Nat.reduceBEq, Nat.reduceEqDiff, Nat.reduceLT, Nat.reduceLeDiff, Nat.zero_add, Int.cast_ofNat_Int, Int.reduceAdd, Int.reduceNeg, Int.reduceToNat, Int.reduceLE, Int.zero_add, Int.toNat_zero, Int.add_zero, Int.add_neg_cancel_right, Fin.isValue, Int32.reduceOfInt, ↓reduceIte, Bool.false_eq_true, Bool.or_false, Bool.false_or, Bool.or_true, Bool.true_or, if_true, if_false, true_and, and_true, true_or, or_true, false_or, or_false, eq_self, and_self, z_up_i, Nat.add_left_cancel_iff, Nat.left_eq_add, Nat.add_eq_left, reduceCtorEq, Nat.add_one_ne_zero, z_tt, implies_true, zn_0, zn_1, zo_0, zo_1, dX6_still_0, dX6_still_1, dX6_still_2, dX6_still_5, dX6_still_6, dX6_still_9, dX6_still_12, dX6_still_13, dX6_still_14, dX6_still_15, dX6_still_16, dX6_still_17, dX6_still_20, dX6_still_23, dX6_still_24, dX6_still_27, dX6_still_28, dX6_still_29, dX6_still_31, dX6_still_32, dX6_still_34, dX6_still_35, dX6_still_36, dX6_still_37, dX6_still_40, dX6_still_42, dX6_still_43, dX6_still_44, dX6_still_45, dX6_still_46, dX6_still_49, dX6_still_51, dX6_still_52, dX6_still_53, dX6_still_54, dX6_still_55, dX6_still_56, dX6_still_57, dX6_still_58, dX6_still_59, dX6_still_60, dX6_still_61, dX6_still_62, dX6_still_65, dX6_still_66, dX6_still_67, dX6_still_70, dX6_still_73, dX6_still_76, dX6_still_77, zb_10, zf_6_39, zf_6_45, zf_6_98, zi_0, zi_1, zi_m1, zs_255]
  refine z_vv C dX6_still_2 lk_6_105 (d_layLetters ho hf hst hk h15 hs.2.2.2.2.1 hs.2.2.2.2.2.1) rfl ho (fun M6 hv => ?_)
  obtain ⟨x1, x2, x3⟩ := hv
  rw [← els, ← ets] at x3
  obtain ⟨f11, hb11⟩ := hs.2.2.2.2.2.2.1
  have hb2 : ∃ f, z_ia M6 (y + 11) 8 f := ⟨f11, (x1 _ (by unfold z_lA; omega)).trans hb11⟩
  refine z_run C [] 2 ?_
  simp only [z_x, z_n, z_stop, z_mem, z_ldi, z_lda, z_sto, z_s1, z_s2, z_sa, z_sv, z_br, z_bn, z_ob, z_ar, z_aq, z_al, z_rt, z_ra, z_at, z_st, z_K0i, z_K0v, zk_0, zk_1, zk_2, zk_3, z_lv, List.map_cons, List.map_nil, List.length_cons, List.length_nil, List.replicate, List.cons_append, List.nil_append, Nat.reduceAdd, Nat.reduceSub, Nat.reduceBEq, Nat.reduceEqDiff, Nat.reduceLT, Nat.reduceLeDiff, Nat.zero_add, Int.cast_ofNat_Int, Int.reduceAdd, Int.reduceNeg, Int.reduceToNat, Int.reduceLE, Int.zero_add, Int.toNat_zero, Int.add_zero, Int.add_neg_cancel_right, Fin.isValue, Int32.reduceOfInt, ↓reduceIte, Bool.false_eq_true, Bool.or_false, Bool.false_or, Bool.or_true, Bool.true_or, if_true, if_false, true_and, and_true, true_or, or_true, false_or, or_false, eq_self, and_self, z_up_i, Nat.add_left_cancel_iff, Nat.left_eq_add, Nat.add_eq_left, reduceCtorEq, Nat.add_one_ne_zero, z_tt, implies_true, zn_0, zn_1, zo_0, zo_1, dX6_still_0, dX6_still_1, dX6_still_2, dX6_still_5, dX6_still_6, dX6_still_9, dX6_still_12, dX6_still_13, dX6_still_14, dX6_still_15, dX6_still_16, dX6_still_17, dX6_still_20, dX6_still_23, dX6_still_24, dX6_still_27, dX6_still_28, dX6_still_29, dX6_still_31, dX6_still_32, dX6_still_34, dX6_still_35, dX6_still_36, dX6_still_37, dX6_still_40, dX6_still_42, dX6_still_43, dX6_still_44, dX6_still_45, dX6_still_46, dX6_still_49, dX6_still_51, dX6_still_52, dX6_still_53, dX6_still_54, dX6_still_55, dX6_still_56, dX6_still_57, dX6_still_58, dX6_still_59, dX6_still_60, dX6_still_61, dX6_still_62, dX6_still_65, dX6_still_66, dX6_still_67, dX6_still_70, dX6_still_73, dX6_still_76, dX6_still_77, zb_10, zf_6_39, zf_6_45, zf_6_98, zi_0, zi_1, zi_m1, zs_255]
  refine z_vv C dX6_still_6 lk_6_109 (d_begin x3.1 hb2) rfl x3.1 (fun M7 hv => ?_)
  obtain ⟨y1, y2⟩ := hv
  refine z_run C [15] 10 ?_
  simp only [z_x, z_n, z_stop, z_mem, z_ldi, z_lda, z_sto, z_s1, z_s2, z_sa, z_sv, z_br, z_bn, z_ob, z_ar, z_aq, z_al, z_rt, z_ra, z_at, z_st, z_K0i, z_K0v, zk_0, zk_1, zk_2, zk_3, z_lv, List.map_cons, List.map_nil, List.length_cons, List.length_nil, List.replicate, List.cons_append, List.nil_append, Nat.reduceAdd, Nat.reduceSub, Nat.reduceBEq, Nat.reduceEqDiff, Nat.reduceLT, Nat.reduceLeDiff, Nat.zero_add, Int.cast_ofNat_Int, Int.reduceAdd, Int.reduceNeg, Int.reduceToNat, Int.reduceLE, Int.zero_add, Int.toNat_zero, Int.add_zero, Int.add_neg_cancel_right, Fin.isValue, Int32.reduceOfInt, ↓reduceIte, Bool.false_eq_true, Bool.or_false, Bool.false_or, Bool.or_true, Bool.true_or, if_true, if_false, true_and, and_true, true_or, or_true, false_or, or_false, eq_self, and_self, z_up_i, Nat.add_left_cancel_iff, Nat.left_eq_add, Nat.add_eq_left, reduceCtorEq, Nat.add_one_ne_zero, z_tt, implies_true, zn_0, zn_1, zo_0, zo_1, dX6_still_0, dX6_still_1, dX6_still_2, dX6_still_5, dX6_still_6, dX6_still_9, dX6_still_12, dX6_still_13, dX6_still_14, dX6_still_15, dX6_still_16, dX6_still_17, dX6_still_20, dX6_still_23, dX6_still_24, dX6_still_27, dX6_still_28, dX6_still_29, dX6_still_31, dX6_still_32, dX6_still_34, dX6_still_35, dX6_still_36, dX6_still_37, dX6_still_40, dX6_still_42, dX6_still_43, dX6_still_44, dX6_still_45, dX6_still_46, dX6_still_49, dX6_still_51, dX6_still_52, dX6_still_53, dX6_still_54, dX6_still_55, dX6_still_56, dX6_still_57, dX6_still_58, dX6_still_59, dX6_still_60, dX6_still_61, dX6_still_62, dX6_still_65, dX6_still_66, dX6_still_67, dX6_still_70, dX6_still_73, dX6_still_76, dX6_still_77, zb_10, zf_6_39, zf_6_45, zf_6_98, zi_0, zi_1, zi_m1, zs_255]
  exact loop ls.length 0 M7 (by omega) (z_lq.mk hb2 x1 x2 x3 y1 y2) _
/-! the order of a permutation of eight is at most 15 -/
theorem m_pw_add (p : Nat → Nat) (a b j : Nat) : m_pw p (a + b) j = m_pw p a (m_pw p b j) := by
  induction a with
  | zero => rw [Nat.zero_add]; rfl
  | succ a ih => rw [Nat.succ_add]; show p _ = p _; rw [ih]
theorem m_pw_comm (p : Nat → Nat) (t j : Nat) : m_pw p t (p j) = p (m_pw p t j) := (m_pw_add p t 1 j).symm.trans (by rw [Nat.add_comm, m_pw_add]; rfl)
theorem m_pw_lt {p : Nat → Nat} (h : ∀ j, j < 8 → p j < 8) (t : Nat) : ∀ j, j < 8 → m_pw p t j < 8 := by
  induction t with
  | zero => intro j hj; exact hj
  | succ t ih => intro j hj; exact h _ (ih j hj)
theorem m_pw_inj {p : Nat → Nat} (h : ∀ j, j < 8 → p j < 8) (hi : m_inj p) (t : Nat) : m_inj (m_pw p t) := by
  induction t with
  | zero => intro i _ j _ e; exact e
  | succ t ih => intro i hi' j hj e; exact ih i hi' j hj (hi _ (m_pw_lt h t i hi') _ (m_pw_lt h t j hj) e)
theorem m_pig : ∀ (n : Nat) (l : List Nat), l.Nodup → (∀ x ∈ l, x < n) → l.length ≤ n
  | 0, l, _, hb => by
    cases l with
    | nil => simp
    | cons a l => exact absurd (hb a List.mem_cons_self) (by omega)
  | n + 1, l, hn, hb => by
    have hd : (l.erase n).Nodup := hn.erase n
    have h1 := m_pig n (l.erase n) hd (fun x hx => by
      have h2 := (hn.mem_erase_iff).mp hx
      have := hb x h2.2
      have := h2.1
      omega)
    by_cases hm : n ∈ l
    · rw [List.length_erase_of_mem hm] at h1; omega
    · rw [List.erase_of_not_mem hm] at h1; omega
theorem m_cyc {p : Nat → Nat} (h : ∀ j, j < 8 → p j < 8) (hi : m_inj p) {j : Nat} (hj : j < 8) : ∃ t, t < 8 ∧ m_pw p (t + 1) j = j := by
  refine Classical.byContradiction fun hno => ?_
  have hd : ((List.range 9).map (fun t => m_pw p t j)).Nodup := by
    refine List.pairwise_map.mpr ?_
    refine List.Pairwise.imp_of_mem ?_ (List.pairwise_lt_range (n := 9))
    intro a b ha hb hab e
    rw [List.mem_range] at ha hb
    have e1 : m_pw p b j = m_pw p a (m_pw p (b - a) j) := by rw [← m_pw_add]; congr 1; omega
    have e2 := m_pw_inj h hi a j hj _ (m_pw_lt h _ j hj) (e.trans e1)
    exact hno ⟨b - a - 1, by omega, by rw [show b - a - 1 + 1 = b - a by omega]; exact e2.symm⟩
  have := m_pig 8 _ hd (fun x hx => by
    obtain ⟨t, -, rfl⟩ := List.mem_map.mp hx
    exact m_pw_lt h t j hj)
  simp at this
/-- the least period, less 1 -/
def m_per (p : Nat → Nat) (j : Nat) : Option Nat := (List.range 8).find? (fun t => m_pw p (t + 1) j == j)
theorem m_per_p {p : Nat → Nat} (h : ∀ j, j < 8 → p j < 8) (hi : m_inj p) {j : Nat} (hj : j < 8) : m_per p (p j) = m_per p j := by
  unfold m_per
  congr 1
  funext t
  rw [Bool.eq_iff_iff, beq_iff_eq, beq_iff_eq, m_pw_comm]
  exact ⟨fun e => hi _ (m_pw_lt h _ j hj) _ hj e, fun e => by rw [e]⟩
theorem m_per_pw {p : Nat → Nat} (h : ∀ j, j < 8 → p j < 8) (hi : m_inj p) {j : Nat} (hj : j < 8) (t : Nat) : m_per p (m_pw p t j) = m_per p j := by
  induction t with
  | zero => rfl
  | succ t ih => exact (m_per_p h hi (m_pw_lt h t j hj)).trans ih
theorem m_per_s {p : Nat → Nat} {j t : Nat} (h : m_per p j = some t) : t < 8 ∧ m_pw p (t + 1) j = j ∧ ∀ u, u < t → m_pw p (u + 1) j ≠ j := by
  unfold m_per at h
  rw [List.find?_range_eq_some] at h
  obtain ⟨h1, h2, h3⟩ := h
  rw [List.mem_range] at h2
  rw [beq_iff_eq] at h1
  refine ⟨h2, h1, fun u hu e => ?_⟩
  have := h3 u hu
  simp [e] at this
theorem m_per_ex {p : Nat → Nat} (h : ∀ j, j < 8 → p j < 8) (hi : m_inj p) {j : Nat} (hj : j < 8) : ∃ t, m_per p j = some t := by
  obtain ⟨t, h1, h2⟩ := m_cyc h hi hj
  cases e : m_per p j with
  | some t => exact ⟨t, rfl⟩
  | none =>
    unfold m_per at e
    rw [List.find?_eq_none] at e
    exact absurd (beq_iff_eq.mpr h2) (e t (List.mem_range.mpr h1))
theorem m_lcmB : ∀ b0 b1 b2 b3 b4 b5 b6 b7 : Bool, (if b0 then 1 else 0) + (if b1 then 2 else 0) + (if b2 then 3 else 0) + (if b3 then 4 else 0) + (if b4 then 5 else 0) + (if b5 then 6 else 0) + (if b6 then 7 else 0) + (if b7 then 8 else 0) ≤ 8 → (List.range 15).any (fun t => (!b0 || (t + 1) % 1 == 0) && (!b1 || (t + 1) % 2 == 0) && (!b2 || (t + 1) % 3 == 0) && (!b3 || (t + 1) % 4 == 0) && (!b4 || (t + 1) % 5 == 0) && (!b5 || (t + 1) % 6 == 0) && (!b6 || (t + 1) % 7 == 0) && (!b7 || (t + 1) % 8 == 0)) = true := by decide +kernel
theorem m_lcm (b0 b1 b2 b3 b4 b5 b6 b7 : Bool) (h : (if b0 then 1 else 0) + (if b1 then 2 else 0) + (if b2 then 3 else 0) + (if b3 then 4 else 0) + (if b4 then 5 else 0) + (if b5 then 6 else 0) + (if b6 then 7 else 0) + (if b7 then 8 else 0) ≤ 8) : ∃ t, t < 15 ∧ (b0 = true → (t + 1) % 1 = 0) ∧ (b1 = true → (t + 1) % 2 = 0) ∧ (b2 = true → (t + 1) % 3 = 0) ∧ (b3 = true → (t + 1) % 4 = 0) ∧ (b4 = true → (t + 1) % 5 = 0) ∧ (b5 = true → (t + 1) % 6 = 0) ∧ (b6 = true → (t + 1) % 7 = 0) ∧ (b7 = true → (t + 1) % 8 = 0) := by
  obtain ⟨t, h1, h2⟩ := List.any_eq_true.mp (m_lcmB b0 b1 b2 b3 b4 b5 b6 b7 h)
  simp only [Bool.and_eq_true, Bool.or_eq_true, Bool.not_eq_true', beq_iff_eq] at h2
  obtain ⟨⟨⟨⟨⟨⟨⟨d0, d1⟩, d2⟩, d3⟩, d4⟩, d5⟩, d6⟩, d7⟩ := h2
  have im : ∀ {b : Bool} {q : Prop}, b = false ∨ q → b = true → q := fun h e => h.elim (fun z => absurd (z.symm.trans e) (by decide)) id
  exact ⟨t, List.mem_range.mp h1, im d0, im d1, im d2, im d3, im d4, im d5, im d6, im d7⟩
theorem m_pw_mul {p : Nat → Nat} {t j : Nat} (h : m_pw p t j = j) (k : Nat) : m_pw p (t * k) j = j := by
  induction k with
  | zero => rfl
  | succ k ih => rw [Nat.mul_succ, m_pw_add, h, ih]
theorem m_ord15 {p : Nat → Nat} (h : ∀ j, j < 8 → p j < 8) (hi : m_inj p) : ∃ t, 1 ≤ t ∧ t ≤ 15 ∧ ∀ j, j < 8 → m_pw p t j = j := by
  have key : ∃ b : Nat → Bool, ∃ r : Nat → Nat, (∀ t, t < 8 → b t = true → r t < 8 ∧ m_per p (r t) = some t) ∧ ∀ t, t < 8 → b t = false → ∀ j, j < 8 → m_per p j ≠ some t := by
    refine ⟨fun t => @decide (∃ j, j < 8 ∧ m_per p j = some t) (Classical.propDecidable _), fun t => @dite _ (∃ j, j < 8 ∧ m_per p j = some t) (Classical.propDecidable _) (fun h => h.choose) (fun _ => 0), fun t ht hb => ?_, fun t ht hb j hj e => ?_⟩
    · have hex := @of_decide_eq_true _ (Classical.propDecidable _) hb
      simp only [dif_pos hex]
      exact hex.choose_spec
    · exact absurd ⟨j, hj, e⟩ (@of_decide_eq_false _ (Classical.propDecidable _) hb)
  obtain ⟨b, r, hb1, hb2⟩ := key
  let F : Nat → List Nat := fun t => if b t then (List.range (t + 1)).map (fun u => m_pw p u (r t)) else []
  have memF : ∀ t, t < 8 → ∀ x ∈ F t, x < 8 ∧ m_per p x = some t := by
    intro t ht x hx
    simp only [F] at hx
    split at hx
    · rename_i hbt
      obtain ⟨u, -, rfl⟩ := List.mem_map.mp hx
      obtain ⟨q1, q2⟩ := hb1 t ht hbt
      exact ⟨m_pw_lt h u _ q1, (m_per_pw h hi q1 u).trans q2⟩
    · simp at hx
  have hnd : ((List.range 8).flatMap F).Nodup := by
    refine List.pairwise_flatMap.mpr ⟨fun t ht => ?_, ?_⟩
    · rw [List.mem_range] at ht
      simp only [F]
      split
      · rename_i hbt
        obtain ⟨q1, q2⟩ := hb1 t ht hbt
        obtain ⟨-, -, q3⟩ := m_per_s q2
        refine List.pairwise_map.mpr (List.Pairwise.imp_of_mem ?_ (List.pairwise_lt_range (n := t + 1)))
        intro a c ha hc hac e
        rw [List.mem_range] at ha hc
        have e1 : m_pw p c (r t) = m_pw p a (m_pw p (c - a) (r t)) := by rw [← m_pw_add]; congr 1; omega
        have e2 := m_pw_inj h hi a _ q1 _ (m_pw_lt h _ _ q1) (e.trans e1)
        exact q3 (c - a - 1) (by omega) (by rw [show c - a - 1 + 1 = c - a by omega]; exact e2.symm)
      · exact List.Pairwise.nil
    · refine List.Pairwise.imp_of_mem ?_ (List.pairwise_lt_range (n := 8))
      intro a c ha hc hac x hx y hy e
      rw [List.mem_range] at ha hc
      have q1 := (memF a ha x hx).2
      have q2 := (memF c hc y hy).2
      rw [e, q2] at q1
      injection q1 with q1
      omega
  have hlen := m_pig 8 _ hnd (fun x hx => by
    obtain ⟨t, ht, hx⟩ := List.mem_flatMap.mp hx
    exact (memF t (List.mem_range.mp ht) x hx).1)
  have hF : ∀ t, (F t).length = if b t then t + 1 else 0 := fun t => by simp only [F]; split <;> simp
  rw [List.length_flatMap] at hlen
  simp only [show List.range 8 = [0, 1, 2, 3, 4, 5, 6, 7] from rfl, List.map_cons, List.map_nil, hF, List.sum_cons, List.sum_nil, Nat.zero_add, Nat.reduceAdd] at hlen
  obtain ⟨t, t1, t2⟩ := m_lcm (b 0) (b 1) (b 2) (b 3) (b 4) (b 5) (b 6) (b 7) (by omega)
  refine ⟨t + 1, by omega, by omega, fun j hj => ?_⟩
  obtain ⟨u, hu⟩ := m_per_ex h hi hj
  obtain ⟨u1, u2, -⟩ := m_per_s hu
  have hbu : b u = true := by
    cases e : b u with
    | true => rfl
    | false => exact absurd hu (hb2 u u1 e j hj)
  have hdv : u + 1 ∣ t + 1 := by
    refine Nat.dvd_of_mod_eq_zero ?_
    obtain ⟨d0, d1, d2, d3, d4, d5, d6, d7⟩ := t2
    match u, u1, hbu with
    | 0, _, q => exact d0 q
    | 1, _, q => exact d1 q
    | 2, _, q => exact d2 q
    | 3, _, q => exact d3 q
    | 4, _, q => exact d4 q
    | 5, _, q => exact d5 q
    | 6, _, q => exact d6 q
    | 7, _, q => exact d7 q
  obtain ⟨k, hk⟩ := hdv
  rw [hk]
  exact m_pw_mul u2 k

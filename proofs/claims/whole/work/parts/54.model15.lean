/-- the reference's own reading: B and T are its rows of begins and times, w what is made -/
def z_us (M M1 : zH) (y : Nat) (w : List Nat) (B T : Nat → Int32) : Prop := z_fp M M1 (fun q => q = y + 5 ∨ q = y + 6 ∨ q = y + 7) ∧ z_kp M M1 y ∧ z_ia M1 (y + 5) 3 B ∧ z_ia M1 (y + 6) 3 T ∧ ∃ m, z_ia M1 (y + 7) 60 m ∧ ∀ i, i < w.length → m i = nI (w.getD i 0)
theorem z_us.T {M M1 : zH} {y : Nat} {w : List Nat} {B T : Nat → Int32} (h : z_us M M1 y w B T) (T' : Nat → Int32) : z_us M (z_up M1 (y + 6) (.inl (0, 3, .inl T'))) y w B T' := by
  obtain ⟨u1, u2, u3, u4, ⟨m, u6, u7⟩⟩ := h
  have f1 : z_fp M1 (z_up M1 (y + 6) (.inl (0, 3, .inl T'))) (fun q => q = y + 6) := fun q hq => z_up_n hq
  exact ⟨u1.tr (f1.sub (fun q hq => by omega)), u2.tr (z_kp.one f1 u4 (z_up_s _ _ _)), (f1 _ (by omega)).trans u3, z_up_s _ _ _, m, (f1 _ (by omega)).trans u6, u7⟩
theorem z_us.B {M M1 : zH} {y : Nat} {w : List Nat} {B T : Nat → Int32} (h : z_us M M1 y w B T) (B' : Nat → Int32) : z_us M (z_up M1 (y + 5) (.inl (0, 3, .inl B'))) y w B' T := by
  obtain ⟨u1, u2, u3, u4, ⟨m, u6, u7⟩⟩ := h
  have f1 : z_fp M1 (z_up M1 (y + 5) (.inl (0, 3, .inl B'))) (fun q => q = y + 5) := fun q hq => z_up_n hq
  exact ⟨u1.tr (f1.sub (fun q hq => by omega)), u2.tr (z_kp.one f1 u3 (z_up_s _ _ _)), z_up_s _ _ _, (f1 _ (by omega)).trans u4, m, (f1 _ (by omega)).trans u6, u7⟩
theorem z_us.mk {M M1 : zH} {y x : Nat} {w : List Nat} {B T m : Nat → Int32} (h : z_us M M1 y w B T) (u6 : z_ia M1 (y + 7) 60 m) (u7 : ∀ i, i < w.length → m i = nI (w.getD i 0)) : z_us M (z_up M1 (y + 7) (.inl (0, 60, .inl (upd m w.length (nI x))))) y (w ++ [x]) B T := by
  obtain ⟨u1, u2, u3, u4, -⟩ := h
  have f1 : z_fp M1 (z_up M1 (y + 7) (.inl (0, 60, .inl (upd m w.length (nI x))))) (fun q => q = y + 7) := fun q hq => z_up_n hq
  exact ⟨u1.tr (f1.sub (fun q hq => by omega)), u2.tr (z_kp.one f1 u6 (z_up_s _ _ _)), (f1 _ (by omega)).trans u3, (f1 _ (by omega)).trans u4, _, z_up_s _ _ _, m_snoc (α := Nat) u7⟩
set_option maxRecDepth 100000 in
set_option maxHeartbeats 16000000 in
theorem d_unfold {l : Launch} {E : zE} {d y : Nat} {M : zH} {pad : List Nat} {told lm fm sm : Int32} {p : Nat → Int32} (ho : z_mo M y (nI pad.length) told lm fm sm) (hpl : pad.length ≤ 40) (hp1 : z_ia M (y + 4) 40 p) (hp2 : ∀ i, i < pad.length → p i = nI (pad.getD i 0)) (hs : ∀ c ∈ pad, c < 128) (hsc : z_ms M y) (hw : m_wf pad 0 false) : nX6_unfold l E (d + 1) [.ref y] M (z_i fun v M' => (∃ w B T, z_us M M' y w B T ∧ (((m_stp pad).length ≤ 60 ∧ v = nI (m_stp pad).length ∧ w = m_stp pad) ∨ (60 < (m_stp pad).length ∧ v = -6)))) := by
  refine z_cn 6 fun P z C => ?_
  obtain ⟨G, hG⟩ : ∃ G, G = (m_stp pad).length := ⟨_, rfl⟩
  rw [← hG] at C
  have text : ∀ (n i o : Nat) (M1 : zH) (w0 : List Nat) (s : Nat) (B T : Nat → Int32), (pad.drop i).length ≤ n → i ≤ pad.length → m_wf (pad.drop i) o false → o ≤ 3 → w0.length ≤ 60 → s < 3 → z_us M M1 y w0 B T → w0.length + (m_app (m_dn (pad.drop i)).1 s).length ≤ G → (∀ (M2 : zH) (i' : Nat) (B' T' : Nat → Int32), i' ≤ pad.length → pad.drop i' = (m_dn (pad.drop i)).2 → (w0 ++ m_app (m_dn (pad.drop i)).1 s).length ≤ 60 → z_us M M2 y (w0 ++ m_app (m_dn (pad.drop i)).1 s) B' T' → (∀ e, e < o → B' e = B e ∧ T' e = T e) → ∀ u5, P (M2, z, 0, 0) 9 [some (.ref y), some (.int (nI (w0 ++ m_app (m_dn (pad.drop i)).1 s).length)), some (.int (nI (m_spt (m_dn (pad.drop i)).1 s))), some (.int (nI o)), some (.int (nI i')), u5] []) → ∀ u5, P (M1, z, 0, 0) 9 [some (.ref y), some (.int (nI w0.length)), some (.int (nI s)), some (.int (nI o)), some (.int (nI i)), u5] [] := by
    intro n
    induction n with
    | zero =>
      intro i o M1 w0 s B T hn hi hwf ho3 hw60 hs3 hus hG K u5
      have e : pad.drop i = [] := List.eq_nil_of_length_eq_zero (by omega)
      rw [e, m_dn_nil] at K
      simp only [m_app, m_spt, List.append_nil] at K
      exact K M1 i B T hi e hw60 hus (fun e _ => ⟨rfl, rfl⟩) u5
    | succ n ih =>
      intro i o M1 w0 s B T hn hi hwf ho3 hw60 hs3 hus hG K u5
      cases hd : pad.drop i with
      | nil =>
        rw [hd, m_dn_nil] at K
        simp only [m_app, m_spt, List.append_nil] at K
        exact K M1 i B T hi hd hw60 hus (fun e _ => ⟨rfl, rfl⟩) u5
      | cons c tl =>
        obtain ⟨q1, q2, q3⟩ := m_dh hd
        rw [hd] at hwf K hn hG
        simp only [List.length_cons] at hn
        have hc128 : c < 128 := by rw [← q2]; exact hs _ (m_in q1)
        have hpi := hp2 i q1
        rw [q2] at hpi
        obtain ⟨u1, u2, u3, u4, ⟨m, u6, u7⟩⟩ := id hus
        have ho1 : z_mo M1 y (nI pad.length) told lm fm sm := (u1 _ (by omega)).trans ho
        have ho1' := ho1
        have hp11 : z_ia M1 (y + 4) 40 p := (u1 _ (by omega)).trans hp1
        have hp11' := hp11
        have u3' := u3
        have u4' := u4
        have u6' := u6
        unfold z_mo at ho1'
        unfold z_ia at hp11' u3' u4' u6'
        have vi : vp_in (nI i) 40 := vp_in_nI (by omega) (by omega)
        by_cases c1 : c = 41
        · subst c1
          rw [m_dn_close] at K
          simp only [m_app, m_spt, List.append_nil] at K
          exact K M1 i B T hi hd hw60 hus (fun e _ => ⟨rfl, rfl⟩) u5
        · by_cases c2 : c = 40
          · subst c2
            obtain ⟨o3, hw2⟩ := m_wf_open hwf
            obtain ⟨t, r, e1, e2, e3, e4, e5, e6⟩ := m_dn_body hw2
            rw [m_dn_open tl e1] at K hG
            dsimp only at K hG
            rw [m_app_app] at K hG
            rw [m_spt_app] at K
            obtain ⟨f1, ef⟩ : ∃ f1, f1 = (m_dn tl).1 := ⟨_, rfl⟩
            rw [← ef] at K hG e5 e1
            have e1' : (m_dn tl).2 = 41 :: t :: r := by rw [e1]
            have hsp : ∀ q, m_spt (m_rep q f1) s < 3 := fun q => (m_app_lt _ s hs3 (m_flatok_rep e5 q)).2
            have hW : ∀ q, w0 ++ m_app (m_rep q f1) s ++ m_app f1 (m_spt (m_rep q f1) s) = w0 ++ m_app (m_rep (q + 1) f1) s := fun q => by rw [m_rep_s', m_app_app, List.append_assoc]
            have hS : ∀ q, m_spt f1 (m_spt (m_rep q f1) s) = m_spt (m_rep (q + 1) f1) s := fun q => by rw [m_rep_s', m_spt_app]
            rw [List.length_append] at hG
            have rep : ∀ (c : Nat) (M1 : zH) (B1 T1 : Nat → Int32), 1 ≤ c → c ≤ t - 48 → (w0 ++ m_app (m_rep (t - 48 - c) f1) s).length ≤ 60 → z_us M M1 y (w0 ++ m_app (m_rep (t - 48 - c) f1) s) B1 T1 → B1 o = nI (i + 1) → T1 o = nI c → (∀ e, e < o → B1 e = B e ∧ T1 e = T e) → ∀ u5, P (M1, z, 0, 0) 9 [some (.ref y), some (.int (nI (w0 ++ m_app (m_rep (t - 48 - c) f1) s).length)), some (.int (nI (m_spt (m_rep (t - 48 - c) f1) s))), some (.int (nI (o + 1))), some (.int (nI (i + 1))), u5] [] := by
              intro c
              induction c with
              | zero => intro M1 B1 T1 h1; omega
              | succ c ihc =>
                intro M1 B1 T1 h1 h2 h3 h4 h5 h6 h7 u5
                obtain ⟨q, hq⟩ : ∃ q, q = t - 48 - (c + 1) := ⟨_, rfl⟩
                have hq1 : q + 1 = t - 48 - c := by omega
                rw [← hq] at h3 h4 ⊢
                have mono := m_app_rep_mono f1 s (show q + 1 ≤ t - 48 by omega)
                have len1 := congrArg List.length (hW q)
                simp only [List.length_append] at len1 h3
                refine ih (i + 1) (o + 1) M1 _ _ B1 T1 (by rw [q3]; omega) (by omega) (by rw [q3]; exact hw2) (by omega) (by rw [List.length_append]; exact h3) (hsp q) h4 (by rw [q3, ← ef, List.length_append]; omega) (fun M2 i' B' T' hi' hd' hl' hus' hBT u5 => ?_) u5
                rw [q3, e1'] at hd'
                rw [q3, ← ef, hW] at hl' hus' ⊢
                rw [hS]
                rw [hq1] at hl' hus' ⊢
                obtain ⟨p1, p2, p3⟩ := m_dh hd'
                obtain ⟨s1, s2, s3⟩ := m_dh p3
                have hpi' := hp2 i' p1
                rw [p2] at hpi'
                obtain ⟨x1, x2, x3, x4, -⟩ := id hus'
                have ho2 : z_mo M2 y (nI pad.length) told lm fm sm := (x1 _ (by omega)).trans ho
                have hp12 : z_ia M2 (y + 4) 40 p := (x1 _ (by omega)).trans hp1
                unfold z_mo at ho2
                unfold z_ia at hp12 x3 x4
                have hT : T' o = nI (c + 1) := (hBT o (by omega)).2.trans h6
                have hB : B' o = nI (i + 1) := (hBT o (by omega)).1.trans h5
                have hlow : ∀ e, e < o → B' e = B e ∧ T' e = T e := fun e he => ⟨(hBT e (by omega)).1.trans (h7 e he).1, (hBT e (by omega)).2.trans (h7 e he).2⟩
                refine z_run C [9] 50 ?_
                simp only [z_x, z_n, z_stop, z_mem, z_ldi, z_lda, z_sto, z_s1, z_s2, z_sa, z_sv, z_br, z_bn, z_ob, z_ar, z_aq, z_al, z_rt, z_ra, z_at, z_st, z_K0i, z_K0v, zk_0, zk_1, zk_2, zk_3, z_lv, List.map_cons, List.map_nil, List.length_cons, List.length_nil, List.replicate, List.cons_append, List.nil_append, Nat.reduceAdd, Nat.reduceSub, Nat.reduceBEq, Nat.reduceEqDiff, Nat.reduceLT, Nat.reduceLeDiff, Nat.zero_add, Int.cast_ofNat_Int, Int.reduceAdd, Int.reduceNeg, Int.reduceToNat, Int.reduceLE, Int.zero_add, Int.toNat_zero, Int.add_zero, Int.add_neg_cancel_right, Fin.isValue, Int32.reduceOfInt, ↓reduceIte, Bool.false_eq_true, Bool.or_false, Bool.false_or, Bool.or_true, Bool.true_or, if_true, if_false, true_and, and_true, true_or, or_true, false_or, or_false, eq_self, and_self, z_up_i, Nat.add_left_cancel_iff, Nat.left_eq_add, Nat.add_eq_left, reduceCtorEq, Nat.add_one_ne_zero, z_tt, implies_true, zn_0, zn_1, zo_0, zo_1, dX6_unfold_0, dX6_unfold_1, dX6_unfold_2, dX6_unfold_3, dX6_unfold_4, dX6_unfold_5, dX6_unfold_6, dX6_unfold_7, dX6_unfold_9, dX6_unfold_11, dX6_unfold_12, dX6_unfold_15, dX6_unfold_18, dX6_unfold_19, dX6_unfold_22, dX6_unfold_24, dX6_unfold_25, dX6_unfold_27, dX6_unfold_29, dX6_unfold_31, dX6_unfold_34, dX6_unfold_35, dX6_unfold_38, dX6_unfold_39, dX6_unfold_41, dX6_unfold_42, dX6_unfold_43, dX6_unfold_44, dX6_unfold_45, dX6_unfold_48, dX6_unfold_49, dX6_unfold_50, dX6_unfold_53, dX6_unfold_54, dX6_unfold_56, dX6_unfold_59, dX6_unfold_60, dX6_unfold_61, dX6_unfold_62, dX6_unfold_64, dX6_unfold_65, dX6_unfold_66, dX6_unfold_69, dX6_unfold_72, dX6_unfold_75, dX6_unfold_77, dX6_unfold_79, dX6_unfold_82, dX6_unfold_83, dX6_unfold_86, dX6_unfold_87, dX6_unfold_88, dX6_unfold_89, dX6_unfold_90, dX6_unfold_91, dX6_unfold_92, dX6_unfold_93, dX6_unfold_94, dX6_unfold_95, dX6_unfold_98, dX6_unfold_99, dX6_unfold_100, dX6_unfold_101, dX6_unfold_102, dX6_unfold_105, dX6_unfold_106, dX6_unfold_109, dX6_unfold_110, dX6_unfold_111, dX6_unfold_112, dX6_unfold_113, dX6_unfold_115, dX6_unfold_118, dX6_unfold_121, dX6_unfold_124, dX6_unfold_127, dX6_unfold_129, dX6_unfold_131, dX6_unfold_133, dX6_unfold_136, dX6_unfold_139, dX6_unfold_141, dX6_unfold_143, dX6_unfold_144, dX6_unfold_145, dX6_unfold_148, dX6_unfold_149, dX6_unfold_151, dX6_unfold_154, dX6_unfold_156, dX6_unfold_157, dX6_unfold_158, dX6_unfold_161, dX6_unfold_162, dX6_unfold_163, dX6_unfold_165, dX6_unfold_168, dX6_unfold_169, dX6_unfold_170, dX6_unfold_171, dX6_unfold_172, dX6_unfold_175, dX6_unfold_178, dX6_unfold_181, dX6_unfold_182, zb_40, zb_41, zb_48, zb_50, zb_60, zb_m6, zf_6_20, zf_6_27, zf_6_30, zf_6_33, zf_6_61, zi_0, zi_1, zi_2, zi_3, zi_m1, ho2, hp12, x3, x4]
                rw [nI_clamp (show i' < 2 ^ 31 by omega), hpi', nI_pred, nI_clamp (show o < 2 ^ 31 by omega), pk_us, hT, nI_pred, hB, pk_m1, show nI i' + 2 = nI (i' + 2) from nI_add i' 2]
                have vo : vp_in (nI o) 3 := vp_in_nI (by omega) (by omega)
                have us3 := hus'.T (upd T' o (nI c))
                have low3 : ∀ e, e < o → B' e = B e ∧ upd T' o (nI c) e = T e := fun e he => ⟨(hlow e he).1, by rw [pk_un (by omega)]; exact (hlow e he).2⟩
                refine ⟨fun q => absurd ((nI_leI (by omega) (by omega)).mp q) (by omega), fun _ => ⟨vp_in_nI (by omega) (by omega), fun q => absurd q (by decide), fun _ => ⟨fun _ => ⟨vo, vo, vo, fun hc => ?_, fun hc => ⟨vo, ?_⟩⟩, fun q => absurd rfl q⟩⟩⟩
                · have c0 : c = 0 := by
                    rcases Nat.eq_zero_or_pos c with z | z
                    · exact z
                    · exact absurd hc (nI_nle z (by omega))
                  subst c0
                  rw [Nat.sub_zero] at hl' us3 ⊢
                  have hd2 : pad.drop (i' + 2) = r := s3
                  refine ih (i' + 2) o _ _ _ B' _ (by rw [hd2]; omega) (by omega) (by rw [hd2]; exact e4) ho3 hl' (hsp _) us3 (by rw [hd2, List.length_append]; omega) (fun M4 i4 B4 T4 g1 g2 g3 g4 g5 u5 => ?_) _
                  rw [hd2] at g2 g3 g4 ⊢
                  rw [List.append_assoc] at g3 g4 ⊢
                  exact K M4 i4 B4 T4 g1 g2 g3 g4 (fun e he => ⟨(g5 e he).1.trans (low3 e he).1, (g5 e he).2.trans (low3 e he).2⟩) u5
                · have c0 : 1 ≤ c := by
                    rcases Nat.eq_zero_or_pos c with z | z
                    · subst z; exact absurd (by decide) hc
                    · exact z
                  exact ihc _ B' _ c0 (by omega) hl' us3 hB pk_us low3 _
            have vo : vp_in (nI o) 3 := vp_in_nI (by omega) (by omega)
            refine z_run C [] 30 ?_
            simp only [z_x, z_n, z_stop, z_mem, z_ldi, z_lda, z_sto, z_s1, z_s2, z_sa, z_sv, z_br, z_bn, z_ob, z_ar, z_aq, z_al, z_rt, z_ra, z_at, z_st, z_K0i, z_K0v, zk_0, zk_1, zk_2, zk_3, z_lv, List.map_cons, List.map_nil, List.length_cons, List.length_nil, List.replicate, List.cons_append, List.nil_append, Nat.reduceAdd, Nat.reduceSub, Nat.reduceBEq, Nat.reduceEqDiff, Nat.reduceLT, Nat.reduceLeDiff, Nat.zero_add, Int.cast_ofNat_Int, Int.reduceAdd, Int.reduceNeg, Int.reduceToNat, Int.reduceLE, Int.zero_add, Int.toNat_zero, Int.add_zero, Int.add_neg_cancel_right, Fin.isValue, Int32.reduceOfInt, ↓reduceIte, Bool.false_eq_true, Bool.or_false, Bool.false_or, Bool.or_true, Bool.true_or, if_true, if_false, true_and, and_true, true_or, or_true, false_or, or_false, eq_self, and_self, z_up_i, Nat.add_left_cancel_iff, Nat.left_eq_add, Nat.add_eq_left, reduceCtorEq, Nat.add_one_ne_zero, z_tt, implies_true, zn_0, zn_1, zo_0, zo_1, dX6_unfold_0, dX6_unfold_1, dX6_unfold_2, dX6_unfold_3, dX6_unfold_4, dX6_unfold_5, dX6_unfold_6, dX6_unfold_7, dX6_unfold_9, dX6_unfold_11, dX6_unfold_12, dX6_unfold_15, dX6_unfold_18, dX6_unfold_19, dX6_unfold_22, dX6_unfold_24, dX6_unfold_25, dX6_unfold_27, dX6_unfold_29, dX6_unfold_31, dX6_unfold_34, dX6_unfold_35, dX6_unfold_38, dX6_unfold_39, dX6_unfold_41, dX6_unfold_42, dX6_unfold_43, dX6_unfold_44, dX6_unfold_45, dX6_unfold_48, dX6_unfold_49, dX6_unfold_50, dX6_unfold_53, dX6_unfold_54, dX6_unfold_56, dX6_unfold_59, dX6_unfold_60, dX6_unfold_61, dX6_unfold_62, dX6_unfold_64, dX6_unfold_65, dX6_unfold_66, dX6_unfold_69, dX6_unfold_72, dX6_unfold_75, dX6_unfold_77, dX6_unfold_79, dX6_unfold_82, dX6_unfold_83, dX6_unfold_86, dX6_unfold_87, dX6_unfold_88, dX6_unfold_89, dX6_unfold_90, dX6_unfold_91, dX6_unfold_92, dX6_unfold_93, dX6_unfold_94, dX6_unfold_95, dX6_unfold_98, dX6_unfold_99, dX6_unfold_100, dX6_unfold_101, dX6_unfold_102, dX6_unfold_105, dX6_unfold_106, dX6_unfold_109, dX6_unfold_110, dX6_unfold_111, dX6_unfold_112, dX6_unfold_113, dX6_unfold_115, dX6_unfold_118, dX6_unfold_121, dX6_unfold_124, dX6_unfold_127, dX6_unfold_129, dX6_unfold_131, dX6_unfold_133, dX6_unfold_136, dX6_unfold_139, dX6_unfold_141, dX6_unfold_143, dX6_unfold_144, dX6_unfold_145, dX6_unfold_148, dX6_unfold_149, dX6_unfold_151, dX6_unfold_154, dX6_unfold_156, dX6_unfold_157, dX6_unfold_158, dX6_unfold_161, dX6_unfold_162, dX6_unfold_163, dX6_unfold_165, dX6_unfold_168, dX6_unfold_169, dX6_unfold_170, dX6_unfold_171, dX6_unfold_172, dX6_unfold_175, dX6_unfold_178, dX6_unfold_181, dX6_unfold_182, zb_40, zb_41, zb_48, zb_50, zb_60, zb_m6, zf_6_20, zf_6_27, zf_6_30, zf_6_33, zf_6_61, zi_0, zi_1, zi_2, zi_3, zi_m1, ho1', hp11', u3', u4']
            rw [nI_clamp (show i < 2 ^ 31 by omega), hpi, nI_clamp (show o < 2 ^ 31 by omega), nI_1]
            refine ⟨fun q => absurd ((nI_leI (by omega) (by omega)).mp q) (by omega), fun _ => ⟨vi, fun _ => ⟨vo, ?_⟩, fun q => absurd rfl q⟩⟩
            have us2 := hus.B (upd B o (nI (i + 1)))
            generalize hM2 : z_up M1 (y + 5) _ = M2 at us2 ⊢
            obtain ⟨v1, v2, v3, v4, -⟩ := id us2
            have ho2 : z_mo M2 y (nI pad.length) told lm fm sm := (v1 _ (by omega)).trans ho
            have hp12 : z_ia M2 (y + 4) 40 p := (v1 _ (by omega)).trans hp1
            refine z_vi C dX6_unfold_56 lk_6_68 (d_endOf (o := o) ho2 hpl hp12 hp2 hs hd hw2 e1') rfl ho2 (fun v M3 hv => ?_)
            obtain ⟨⟨j, rfl, hj⟩, rfl⟩ := hv
            obtain ⟨p1, p2, p3⟩ := m_dh hj
            obtain ⟨s1, s2, s3⟩ := m_dh p3
            have hpj := hp2 (j + 1) s1
            rw [s2] at hpj
            unfold z_ia at hp12 v4
            refine z_run C [9] 14 ?_
            simp only [z_x, z_n, z_stop, z_mem, z_ldi, z_lda, z_sto, z_s1, z_s2, z_sa, z_sv, z_br, z_bn, z_ob, z_ar, z_aq, z_al, z_rt, z_ra, z_at, z_st, z_K0i, z_K0v, zk_0, zk_1, zk_2, zk_3, z_lv, List.map_cons, List.map_nil, List.length_cons, List.length_nil, List.replicate, List.cons_append, List.nil_append, Nat.reduceAdd, Nat.reduceSub, Nat.reduceBEq, Nat.reduceEqDiff, Nat.reduceLT, Nat.reduceLeDiff, Nat.zero_add, Int.cast_ofNat_Int, Int.reduceAdd, Int.reduceNeg, Int.reduceToNat, Int.reduceLE, Int.zero_add, Int.toNat_zero, Int.add_zero, Int.add_neg_cancel_right, Fin.isValue, Int32.reduceOfInt, ↓reduceIte, Bool.false_eq_true, Bool.or_false, Bool.false_or, Bool.or_true, Bool.true_or, if_true, if_false, true_and, and_true, true_or, or_true, false_or, or_false, eq_self, and_self, z_up_i, Nat.add_left_cancel_iff, Nat.left_eq_add, Nat.add_eq_left, reduceCtorEq, Nat.add_one_ne_zero, z_tt, implies_true, zn_0, zn_1, zo_0, zo_1, dX6_unfold_0, dX6_unfold_1, dX6_unfold_2, dX6_unfold_3, dX6_unfold_4, dX6_unfold_5, dX6_unfold_6, dX6_unfold_7, dX6_unfold_9, dX6_unfold_11, dX6_unfold_12, dX6_unfold_15, dX6_unfold_18, dX6_unfold_19, dX6_unfold_22, dX6_unfold_24, dX6_unfold_25, dX6_unfold_27, dX6_unfold_29, dX6_unfold_31, dX6_unfold_34, dX6_unfold_35, dX6_unfold_38, dX6_unfold_39, dX6_unfold_41, dX6_unfold_42, dX6_unfold_43, dX6_unfold_44, dX6_unfold_45, dX6_unfold_48, dX6_unfold_49, dX6_unfold_50, dX6_unfold_53, dX6_unfold_54, dX6_unfold_56, dX6_unfold_59, dX6_unfold_60, dX6_unfold_61, dX6_unfold_62, dX6_unfold_64, dX6_unfold_65, dX6_unfold_66, dX6_unfold_69, dX6_unfold_72, dX6_unfold_75, dX6_unfold_77, dX6_unfold_79, dX6_unfold_82, dX6_unfold_83, dX6_unfold_86, dX6_unfold_87, dX6_unfold_88, dX6_unfold_89, dX6_unfold_90, dX6_unfold_91, dX6_unfold_92, dX6_unfold_93, dX6_unfold_94, dX6_unfold_95, dX6_unfold_98, dX6_unfold_99, dX6_unfold_100, dX6_unfold_101, dX6_unfold_102, dX6_unfold_105, dX6_unfold_106, dX6_unfold_109, dX6_unfold_110, dX6_unfold_111, dX6_unfold_112, dX6_unfold_113, dX6_unfold_115, dX6_unfold_118, dX6_unfold_121, dX6_unfold_124, dX6_unfold_127, dX6_unfold_129, dX6_unfold_131, dX6_unfold_133, dX6_unfold_136, dX6_unfold_139, dX6_unfold_141, dX6_unfold_143, dX6_unfold_144, dX6_unfold_145, dX6_unfold_148, dX6_unfold_149, dX6_unfold_151, dX6_unfold_154, dX6_unfold_156, dX6_unfold_157, dX6_unfold_158, dX6_unfold_161, dX6_unfold_162, dX6_unfold_163, dX6_unfold_165, dX6_unfold_168, dX6_unfold_169, dX6_unfold_170, dX6_unfold_171, dX6_unfold_172, dX6_unfold_175, dX6_unfold_178, dX6_unfold_181, dX6_unfold_182, zb_40, zb_41, zb_48, zb_50, zb_60, zb_m6, zf_6_20, zf_6_27, zf_6_30, zf_6_33, zf_6_61, zi_0, zi_1, zi_2, zi_3, zi_m1, hp12, v4]
            rw [nI_1, nI_1, nI_1, nI_clamp (show j + 1 < 2 ^ 31 by omega), hpj, nI_clamp (show o < 2 ^ 31 by omega), show nI t - 48 = nI (t - 48) from pk_sub (b := 48) (by omega)]
            refine ⟨vp_in_nI (by omega) (by omega), vo, ?_⟩
            have us3 := us2.T (upd T o (nI (t - 48)))
            have := rep (t - 48) _ _ _ (by omega) (Nat.le_refl _) (by rw [Nat.sub_self, m_rep_0]; simpa [m_app] using hw60) (by rw [Nat.sub_self, m_rep_0]; simpa [m_app] using us3) pk_us pk_us (fun e he => ⟨pk_un (by omega), pk_un (by omega)⟩)
            rw [Nat.sub_self, m_rep_0] at this
            simp only [m_app, m_spt, List.append_nil] at this
            exact this _
          · obtain ⟨hb, hw2⟩ := m_wf_basic c1 c2 hwf
            rw [m_dn_basic tl c1 c2] at K hG
            have c1' : ¬ nI c = 41 := fun q => c1 ((z_eqn 41 (by omega) (by omega)).mp q)
            have c2' : ¬ nI c = 40 := fun q => c2 ((z_eqn 40 (by omega) (by omega)).mp q)
            refine z_run C [] 24 ?_
            simp only [z_x, z_n, z_stop, z_mem, z_ldi, z_lda, z_sto, z_s1, z_s2, z_sa, z_sv, z_br, z_bn, z_ob, z_ar, z_aq, z_al, z_rt, z_ra, z_at, z_st, z_K0i, z_K0v, zk_0, zk_1, zk_2, zk_3, z_lv, List.map_cons, List.map_nil, List.length_cons, List.length_nil, List.replicate, List.cons_append, List.nil_append, Nat.reduceAdd, Nat.reduceSub, Nat.reduceBEq, Nat.reduceEqDiff, Nat.reduceLT, Nat.reduceLeDiff, Nat.zero_add, Int.cast_ofNat_Int, Int.reduceAdd, Int.reduceNeg, Int.reduceToNat, Int.reduceLE, Int.zero_add, Int.toNat_zero, Int.add_zero, Int.add_neg_cancel_right, Fin.isValue, Int32.reduceOfInt, ↓reduceIte, Bool.false_eq_true, Bool.or_false, Bool.false_or, Bool.or_true, Bool.true_or, if_true, if_false, true_and, and_true, true_or, or_true, false_or, or_false, eq_self, and_self, z_up_i, Nat.add_left_cancel_iff, Nat.left_eq_add, Nat.add_eq_left, reduceCtorEq, Nat.add_one_ne_zero, z_tt, implies_true, zn_0, zn_1, zo_0, zo_1, dX6_unfold_0, dX6_unfold_1, dX6_unfold_2, dX6_unfold_3, dX6_unfold_4, dX6_unfold_5, dX6_unfold_6, dX6_unfold_7, dX6_unfold_9, dX6_unfold_11, dX6_unfold_12, dX6_unfold_15, dX6_unfold_18, dX6_unfold_19, dX6_unfold_22, dX6_unfold_24, dX6_unfold_25, dX6_unfold_27, dX6_unfold_29, dX6_unfold_31, dX6_unfold_34, dX6_unfold_35, dX6_unfold_38, dX6_unfold_39, dX6_unfold_41, dX6_unfold_42, dX6_unfold_43, dX6_unfold_44, dX6_unfold_45, dX6_unfold_48, dX6_unfold_49, dX6_unfold_50, dX6_unfold_53, dX6_unfold_54, dX6_unfold_56, dX6_unfold_59, dX6_unfold_60, dX6_unfold_61, dX6_unfold_62, dX6_unfold_64, dX6_unfold_65, dX6_unfold_66, dX6_unfold_69, dX6_unfold_72, dX6_unfold_75, dX6_unfold_77, dX6_unfold_79, dX6_unfold_82, dX6_unfold_83, dX6_unfold_86, dX6_unfold_87, dX6_unfold_88, dX6_unfold_89, dX6_unfold_90, dX6_unfold_91, dX6_unfold_92, dX6_unfold_93, dX6_unfold_94, dX6_unfold_95, dX6_unfold_98, dX6_unfold_99, dX6_unfold_100, dX6_unfold_101, dX6_unfold_102, dX6_unfold_105, dX6_unfold_106, dX6_unfold_109, dX6_unfold_110, dX6_unfold_111, dX6_unfold_112, dX6_unfold_113, dX6_unfold_115, dX6_unfold_118, dX6_unfold_121, dX6_unfold_124, dX6_unfold_127, dX6_unfold_129, dX6_unfold_131, dX6_unfold_133, dX6_unfold_136, dX6_unfold_139, dX6_unfold_141, dX6_unfold_143, dX6_unfold_144, dX6_unfold_145, dX6_unfold_148, dX6_unfold_149, dX6_unfold_151, dX6_unfold_154, dX6_unfold_156, dX6_unfold_157, dX6_unfold_158, dX6_unfold_161, dX6_unfold_162, dX6_unfold_163, dX6_unfold_165, dX6_unfold_168, dX6_unfold_169, dX6_unfold_170, dX6_unfold_171, dX6_unfold_172, dX6_unfold_175, dX6_unfold_178, dX6_unfold_181, dX6_unfold_182, zb_40, zb_41, zb_48, zb_50, zb_60, zb_m6, zf_6_20, zf_6_27, zf_6_30, zf_6_33, zf_6_61, zi_0, zi_1, zi_2, zi_3, zi_m1, ho1', hp11']
            rw [nI_clamp (by omega), hpi]
            refine ⟨fun q => absurd ((nI_leI (by omega) (by omega)).mp q) (by omega), fun _ => ⟨vi, fun q => absurd q c2', fun _ => ⟨fun q => absurd q c1', fun _ => ?_⟩⟩⟩
            refine z_si C dX6_unfold_133 lk_6_57 (d_in (nI c) 48 50) rfl (fun v M2 hv => ?_)
            obtain ⟨hv, rfl⟩ := hv
            rw [show (nI c < 48) = (c < 48) from propext (nI_ltI (b := 48) (by omega) (by omega)), show (50 < nI c) = (50 < c) from propext (nI_ltI (a := 50) (by omega) (by omega))] at hv
            dsimp only at K hG
            rcases hv with ⟨rfl, a1, a2⟩ | ⟨rfl, hv⟩
            · have hS : 48 ≤ c ∧ c < 51 := by omega
              simp only [m_app, m_spt, if_pos hS] at K hG
              refine z_run C [9] 10 ?_
              simp only [z_x, z_n, z_stop, z_mem, z_ldi, z_lda, z_sto, z_s1, z_s2, z_sa, z_sv, z_br, z_bn, z_ob, z_ar, z_aq, z_al, z_rt, z_ra, z_at, z_st, z_K0i, z_K0v, zk_0, zk_1, zk_2, zk_3, z_lv, List.map_cons, List.map_nil, List.length_cons, List.length_nil, List.replicate, List.cons_append, List.nil_append, Nat.reduceAdd, Nat.reduceSub, Nat.reduceBEq, Nat.reduceEqDiff, Nat.reduceLT, Nat.reduceLeDiff, Nat.zero_add, Int.cast_ofNat_Int, Int.reduceAdd, Int.reduceNeg, Int.reduceToNat, Int.reduceLE, Int.zero_add, Int.toNat_zero, Int.add_zero, Int.add_neg_cancel_right, Fin.isValue, Int32.reduceOfInt, ↓reduceIte, Bool.false_eq_true, Bool.or_false, Bool.false_or, Bool.or_true, Bool.true_or, if_true, if_false, true_and, and_true, true_or, or_true, false_or, or_false, eq_self, and_self, z_up_i, Nat.add_left_cancel_iff, Nat.left_eq_add, Nat.add_eq_left, reduceCtorEq, Nat.add_one_ne_zero, z_tt, implies_true, zn_0, zn_1, zo_0, zo_1, dX6_unfold_0, dX6_unfold_1, dX6_unfold_2, dX6_unfold_3, dX6_unfold_4, dX6_unfold_5, dX6_unfold_6, dX6_unfold_7, dX6_unfold_9, dX6_unfold_11, dX6_unfold_12, dX6_unfold_15, dX6_unfold_18, dX6_unfold_19, dX6_unfold_22, dX6_unfold_24, dX6_unfold_25, dX6_unfold_27, dX6_unfold_29, dX6_unfold_31, dX6_unfold_34, dX6_unfold_35, dX6_unfold_38, dX6_unfold_39, dX6_unfold_41, dX6_unfold_42, dX6_unfold_43, dX6_unfold_44, dX6_unfold_45, dX6_unfold_48, dX6_unfold_49, dX6_unfold_50, dX6_unfold_53, dX6_unfold_54, dX6_unfold_56, dX6_unfold_59, dX6_unfold_60, dX6_unfold_61, dX6_unfold_62, dX6_unfold_64, dX6_unfold_65, dX6_unfold_66, dX6_unfold_69, dX6_unfold_72, dX6_unfold_75, dX6_unfold_77, dX6_unfold_79, dX6_unfold_82, dX6_unfold_83, dX6_unfold_86, dX6_unfold_87, dX6_unfold_88, dX6_unfold_89, dX6_unfold_90, dX6_unfold_91, dX6_unfold_92, dX6_unfold_93, dX6_unfold_94, dX6_unfold_95, dX6_unfold_98, dX6_unfold_99, dX6_unfold_100, dX6_unfold_101, dX6_unfold_102, dX6_unfold_105, dX6_unfold_106, dX6_unfold_109, dX6_unfold_110, dX6_unfold_111, dX6_unfold_112, dX6_unfold_113, dX6_unfold_115, dX6_unfold_118, dX6_unfold_121, dX6_unfold_124, dX6_unfold_127, dX6_unfold_129, dX6_unfold_131, dX6_unfold_133, dX6_unfold_136, dX6_unfold_139, dX6_unfold_141, dX6_unfold_143, dX6_unfold_144, dX6_unfold_145, dX6_unfold_148, dX6_unfold_149, dX6_unfold_151, dX6_unfold_154, dX6_unfold_156, dX6_unfold_157, dX6_unfold_158, dX6_unfold_161, dX6_unfold_162, dX6_unfold_163, dX6_unfold_165, dX6_unfold_168, dX6_unfold_169, dX6_unfold_170, dX6_unfold_171, dX6_unfold_172, dX6_unfold_175, dX6_unfold_178, dX6_unfold_181, dX6_unfold_182, zb_40, zb_41, zb_48, zb_50, zb_60, zb_m6, zf_6_20, zf_6_27, zf_6_30, zf_6_33, zf_6_61, zi_0, zi_1, zi_2, zi_3, zi_m1]
              refine ⟨fun q => absurd q (by decide), fun _ => ?_⟩
              rw [nI_1, show nI c - 48 = nI (c - 48) from pk_sub (b := 48) (by omega)]
              exact ih (i + 1) o M2 w0 (c - 48) B T (by rw [q3]; omega) (by omega) (by rw [q3]; exact hw2) ho3 hw60 (by omega) hus (by rw [q3]; exact hG) (fun M3 i' B' T' => by rw [q3]; exact K M3 i' B' T') _
            · have hS : ¬ (48 ≤ c ∧ c < 51) := by omega
              have hK : m_isK c := hb.elim (fun q => absurd q hS) id
              simp only [m_app, m_spt, if_neg hS, List.length_cons] at K hG
              refine z_run C [] 14 ?_
              simp only [z_x, z_n, z_stop, z_mem, z_ldi, z_lda, z_sto, z_s1, z_s2, z_sa, z_sv, z_br, z_bn, z_ob, z_ar, z_aq, z_al, z_rt, z_ra, z_at, z_st, z_K0i, z_K0v, zk_0, zk_1, zk_2, zk_3, z_lv, List.map_cons, List.map_nil, List.length_cons, List.length_nil, List.replicate, List.cons_append, List.nil_append, Nat.reduceAdd, Nat.reduceSub, Nat.reduceBEq, Nat.reduceEqDiff, Nat.reduceLT, Nat.reduceLeDiff, Nat.zero_add, Int.cast_ofNat_Int, Int.reduceAdd, Int.reduceNeg, Int.reduceToNat, Int.reduceLE, Int.zero_add, Int.toNat_zero, Int.add_zero, Int.add_neg_cancel_right, Fin.isValue, Int32.reduceOfInt, ↓reduceIte, Bool.false_eq_true, Bool.or_false, Bool.false_or, Bool.or_true, Bool.true_or, if_true, if_false, true_and, and_true, true_or, or_true, false_or, or_false, eq_self, and_self, z_up_i, Nat.add_left_cancel_iff, Nat.left_eq_add, Nat.add_eq_left, reduceCtorEq, Nat.add_one_ne_zero, z_tt, implies_true, zn_0, zn_1, zo_0, zo_1, dX6_unfold_0, dX6_unfold_1, dX6_unfold_2, dX6_unfold_3, dX6_unfold_4, dX6_unfold_5, dX6_unfold_6, dX6_unfold_7, dX6_unfold_9, dX6_unfold_11, dX6_unfold_12, dX6_unfold_15, dX6_unfold_18, dX6_unfold_19, dX6_unfold_22, dX6_unfold_24, dX6_unfold_25, dX6_unfold_27, dX6_unfold_29, dX6_unfold_31, dX6_unfold_34, dX6_unfold_35, dX6_unfold_38, dX6_unfold_39, dX6_unfold_41, dX6_unfold_42, dX6_unfold_43, dX6_unfold_44, dX6_unfold_45, dX6_unfold_48, dX6_unfold_49, dX6_unfold_50, dX6_unfold_53, dX6_unfold_54, dX6_unfold_56, dX6_unfold_59, dX6_unfold_60, dX6_unfold_61, dX6_unfold_62, dX6_unfold_64, dX6_unfold_65, dX6_unfold_66, dX6_unfold_69, dX6_unfold_72, dX6_unfold_75, dX6_unfold_77, dX6_unfold_79, dX6_unfold_82, dX6_unfold_83, dX6_unfold_86, dX6_unfold_87, dX6_unfold_88, dX6_unfold_89, dX6_unfold_90, dX6_unfold_91, dX6_unfold_92, dX6_unfold_93, dX6_unfold_94, dX6_unfold_95, dX6_unfold_98, dX6_unfold_99, dX6_unfold_100, dX6_unfold_101, dX6_unfold_102, dX6_unfold_105, dX6_unfold_106, dX6_unfold_109, dX6_unfold_110, dX6_unfold_111, dX6_unfold_112, dX6_unfold_113, dX6_unfold_115, dX6_unfold_118, dX6_unfold_121, dX6_unfold_124, dX6_unfold_127, dX6_unfold_129, dX6_unfold_131, dX6_unfold_133, dX6_unfold_136, dX6_unfold_139, dX6_unfold_141, dX6_unfold_143, dX6_unfold_144, dX6_unfold_145, dX6_unfold_148, dX6_unfold_149, dX6_unfold_151, dX6_unfold_154, dX6_unfold_156, dX6_unfold_157, dX6_unfold_158, dX6_unfold_161, dX6_unfold_162, dX6_unfold_163, dX6_unfold_165, dX6_unfold_168, dX6_unfold_169, dX6_unfold_170, dX6_unfold_171, dX6_unfold_172, dX6_unfold_175, dX6_unfold_178, dX6_unfold_181, dX6_unfold_182, zb_40, zb_41, zb_48, zb_50, zb_60, zb_m6, zf_6_20, zf_6_27, zf_6_30, zf_6_33, zf_6_61, zi_0, zi_1, zi_2, zi_3, zi_m1, ho1', u6']
              rw [show (nI w0.length = 60) = (w0.length = 60) from propext (z_eqn 60 (by omega) (by omega))]
              refine ⟨fun _ => ⟨fun q => ⟨w0, B, T, hus, Or.inr ⟨by omega, rfl⟩⟩, fun q => ?_⟩, fun q => absurd trivial q⟩
              refine z_si C dX6_unfold_165 lk_6_64 (d_kindBy c (by omega)) rfl (fun v M3 hv => ?_)
              obtain ⟨hv, rfl⟩ := hv
              rcases hv with ⟨-, rfl⟩ | ⟨hv, -⟩
              rotate_left
              · exact absurd hK hv
              refine z_run C [9] 8 ?_
              simp only [z_x, z_n, z_stop, z_mem, z_ldi, z_lda, z_sto, z_s1, z_s2, z_sa, z_sv, z_br, z_bn, z_ob, z_ar, z_aq, z_al, z_rt, z_ra, z_at, z_st, z_K0i, z_K0v, zk_0, zk_1, zk_2, zk_3, z_lv, List.map_cons, List.map_nil, List.length_cons, List.length_nil, List.replicate, List.cons_append, List.nil_append, Nat.reduceAdd, Nat.reduceSub, Nat.reduceBEq, Nat.reduceEqDiff, Nat.reduceLT, Nat.reduceLeDiff, Nat.zero_add, Int.cast_ofNat_Int, Int.reduceAdd, Int.reduceNeg, Int.reduceToNat, Int.reduceLE, Int.zero_add, Int.toNat_zero, Int.add_zero, Int.add_neg_cancel_right, Fin.isValue, Int32.reduceOfInt, ↓reduceIte, Bool.false_eq_true, Bool.or_false, Bool.false_or, Bool.or_true, Bool.true_or, if_true, if_false, true_and, and_true, true_or, or_true, false_or, or_false, eq_self, and_self, z_up_i, Nat.add_left_cancel_iff, Nat.left_eq_add, Nat.add_eq_left, reduceCtorEq, Nat.add_one_ne_zero, z_tt, implies_true, zn_0, zn_1, zo_0, zo_1, dX6_unfold_0, dX6_unfold_1, dX6_unfold_2, dX6_unfold_3, dX6_unfold_4, dX6_unfold_5, dX6_unfold_6, dX6_unfold_7, dX6_unfold_9, dX6_unfold_11, dX6_unfold_12, dX6_unfold_15, dX6_unfold_18, dX6_unfold_19, dX6_unfold_22, dX6_unfold_24, dX6_unfold_25, dX6_unfold_27, dX6_unfold_29, dX6_unfold_31, dX6_unfold_34, dX6_unfold_35, dX6_unfold_38, dX6_unfold_39, dX6_unfold_41, dX6_unfold_42, dX6_unfold_43, dX6_unfold_44, dX6_unfold_45, dX6_unfold_48, dX6_unfold_49, dX6_unfold_50, dX6_unfold_53, dX6_unfold_54, dX6_unfold_56, dX6_unfold_59, dX6_unfold_60, dX6_unfold_61, dX6_unfold_62, dX6_unfold_64, dX6_unfold_65, dX6_unfold_66, dX6_unfold_69, dX6_unfold_72, dX6_unfold_75, dX6_unfold_77, dX6_unfold_79, dX6_unfold_82, dX6_unfold_83, dX6_unfold_86, dX6_unfold_87, dX6_unfold_88, dX6_unfold_89, dX6_unfold_90, dX6_unfold_91, dX6_unfold_92, dX6_unfold_93, dX6_unfold_94, dX6_unfold_95, dX6_unfold_98, dX6_unfold_99, dX6_unfold_100, dX6_unfold_101, dX6_unfold_102, dX6_unfold_105, dX6_unfold_106, dX6_unfold_109, dX6_unfold_110, dX6_unfold_111, dX6_unfold_112, dX6_unfold_113, dX6_unfold_115, dX6_unfold_118, dX6_unfold_121, dX6_unfold_124, dX6_unfold_127, dX6_unfold_129, dX6_unfold_131, dX6_unfold_133, dX6_unfold_136, dX6_unfold_139, dX6_unfold_141, dX6_unfold_143, dX6_unfold_144, dX6_unfold_145, dX6_unfold_148, dX6_unfold_149, dX6_unfold_151, dX6_unfold_154, dX6_unfold_156, dX6_unfold_157, dX6_unfold_158, dX6_unfold_161, dX6_unfold_162, dX6_unfold_163, dX6_unfold_165, dX6_unfold_168, dX6_unfold_169, dX6_unfold_170, dX6_unfold_171, dX6_unfold_172, dX6_unfold_175, dX6_unfold_178, dX6_unfold_181, dX6_unfold_182, zb_40, zb_41, zb_48, zb_50, zb_60, zb_m6, zf_6_20, zf_6_27, zf_6_30, zf_6_33, zf_6_61, zi_0, zi_1, zi_2, zi_3, zi_m1, u6']
              rw [nI_clamp (by omega), nI_1, nI_1, show (3 : Int32) * nI (m_kd c) = nI (3 * m_kd c) from pk_mul 3 _, nI_add]
              refine ⟨vp_in_nI (by omega) (by omega), ?_⟩
              have us2 := hus.mk (x := 3 * m_kd c + s) u6 u7
              have hl2 : (w0 ++ [3 * m_kd c + s]).length = w0.length + 1 := by simp
              have := ih (i + 1) o _ (w0 ++ [3 * m_kd c + s]) s B T (by rw [q3]; omega) (by omega) (by rw [q3]; exact hw2) ho3 (by rw [hl2]; omega) hs3 us2 (by rw [q3, hl2]; omega) (fun M3 i' B' T' => by rw [q3, ← List.append_cons]; exact K M3 i' B' T')
              rw [hl2] at this
              exact this _
  obtain ⟨⟨B0, t5⟩, ⟨T0, t6⟩, ⟨m0, t7⟩, -⟩ := id hsc
  have us0 : z_us M M y [] B0 T0 := ⟨z_fp.rf, z_kp.rf, t5, t6, m0, t7, fun i hi => by simp at hi⟩
  have e0 : m_stp pad = m_app (m_dn pad).1 0 := rfl
  have hdn0 := (m_dn_wf pad.length pad 0 (Nat.le_refl _) hw).2
  have hr0 : (m_dn pad).2 = [] := by
    rcases hdn0 with ⟨-, q⟩ | ⟨q, -⟩
    · exact q
    · omega
  refine z_run C [9] 9 ?_
  simp only [z_x, z_n, z_stop, z_mem, z_ldi, z_lda, z_sto, z_s1, z_s2, z_sa, z_sv, z_br, z_bn, z_ob, z_ar, z_aq, z_al, z_rt, z_ra, z_at, z_st, z_K0i, z_K0v, zk_0, zk_1, zk_2, zk_3, z_lv, List.map_cons, List.map_nil, List.length_cons, List.length_nil, List.replicate, List.cons_append, List.nil_append, Nat.reduceAdd, Nat.reduceSub, Nat.reduceBEq, Nat.reduceEqDiff, Nat.reduceLT, Nat.reduceLeDiff, Nat.zero_add, Int.cast_ofNat_Int, Int.reduceAdd, Int.reduceNeg, Int.reduceToNat, Int.reduceLE, Int.zero_add, Int.toNat_zero, Int.add_zero, Int.add_neg_cancel_right, Fin.isValue, Int32.reduceOfInt, ↓reduceIte, Bool.false_eq_true, Bool.or_false, Bool.false_or, Bool.or_true, Bool.true_or, if_true, if_false, true_and, and_true, true_or, or_true, false_or, or_false, eq_self, and_self, z_up_i, Nat.add_left_cancel_iff, Nat.left_eq_add, Nat.add_eq_left, reduceCtorEq, Nat.add_one_ne_zero, z_tt, implies_true, zn_0, zn_1, zo_0, zo_1, dX6_unfold_0, dX6_unfold_1, dX6_unfold_2, dX6_unfold_3, dX6_unfold_4, dX6_unfold_5, dX6_unfold_6, dX6_unfold_7, dX6_unfold_9, dX6_unfold_11, dX6_unfold_12, dX6_unfold_15, dX6_unfold_18, dX6_unfold_19, dX6_unfold_22, dX6_unfold_24, dX6_unfold_25, dX6_unfold_27, dX6_unfold_29, dX6_unfold_31, dX6_unfold_34, dX6_unfold_35, dX6_unfold_38, dX6_unfold_39, dX6_unfold_41, dX6_unfold_42, dX6_unfold_43, dX6_unfold_44, dX6_unfold_45, dX6_unfold_48, dX6_unfold_49, dX6_unfold_50, dX6_unfold_53, dX6_unfold_54, dX6_unfold_56, dX6_unfold_59, dX6_unfold_60, dX6_unfold_61, dX6_unfold_62, dX6_unfold_64, dX6_unfold_65, dX6_unfold_66, dX6_unfold_69, dX6_unfold_72, dX6_unfold_75, dX6_unfold_77, dX6_unfold_79, dX6_unfold_82, dX6_unfold_83, dX6_unfold_86, dX6_unfold_87, dX6_unfold_88, dX6_unfold_89, dX6_unfold_90, dX6_unfold_91, dX6_unfold_92, dX6_unfold_93, dX6_unfold_94, dX6_unfold_95, dX6_unfold_98, dX6_unfold_99, dX6_unfold_100, dX6_unfold_101, dX6_unfold_102, dX6_unfold_105, dX6_unfold_106, dX6_unfold_109, dX6_unfold_110, dX6_unfold_111, dX6_unfold_112, dX6_unfold_113, dX6_unfold_115, dX6_unfold_118, dX6_unfold_121, dX6_unfold_124, dX6_unfold_127, dX6_unfold_129, dX6_unfold_131, dX6_unfold_133, dX6_unfold_136, dX6_unfold_139, dX6_unfold_141, dX6_unfold_143, dX6_unfold_144, dX6_unfold_145, dX6_unfold_148, dX6_unfold_149, dX6_unfold_151, dX6_unfold_154, dX6_unfold_156, dX6_unfold_157, dX6_unfold_158, dX6_unfold_161, dX6_unfold_162, dX6_unfold_163, dX6_unfold_165, dX6_unfold_168, dX6_unfold_169, dX6_unfold_170, dX6_unfold_171, dX6_unfold_172, dX6_unfold_175, dX6_unfold_178, dX6_unfold_181, dX6_unfold_182, zb_40, zb_41, zb_48, zb_50, zb_60, zb_m6, zf_6_20, zf_6_27, zf_6_30, zf_6_33, zf_6_61, zi_0, zi_1, zi_2, zi_3, zi_m1]
  refine text pad.length 0 0 M [] 0 B0 T0 (by simp) (by omega) (by simpa using hw) (by omega) (by simp) (by omega) us0 (by rw [List.drop_zero, ← e0, hG]; simp) (fun M2 i' B' T' g1 g2 g3 g4 g5 u5 => ?_) _
  rw [List.drop_zero, hr0] at g2
  rw [List.drop_zero, ← e0, List.nil_append] at g3 g4 ⊢
  rw [← hG] at g3 ⊢
  have hi' : i' = pad.length := by
    have := congrArg List.length g2
    simp only [List.length_drop, List.length_nil] at this
    omega
  subst hi'
  have ho2 : z_mo M2 y (nI pad.length) told lm fm sm := (g4.1 _ (by omega)).trans ho
  unfold z_mo at ho2
  refine z_run C [] 6 ?_
  simp only [z_x, z_n, z_stop, z_mem, z_ldi, z_lda, z_sto, z_s1, z_s2, z_sa, z_sv, z_br, z_bn, z_ob, z_ar, z_aq, z_al, z_rt, z_ra, z_at, z_st, z_K0i, z_K0v, zk_0, zk_1, zk_2, zk_3, z_lv, List.map_cons, List.map_nil, List.length_cons, List.length_nil, List.replicate, List.cons_append, List.nil_append, Nat.reduceAdd, Nat.reduceSub, Nat.reduceBEq, Nat.reduceEqDiff, Nat.reduceLT, Nat.reduceLeDiff, Nat.zero_add, Int.cast_ofNat_Int, Int.reduceAdd, Int.reduceNeg, Int.reduceToNat, Int.reduceLE, Int.zero_add, Int.toNat_zero, Int.add_zero, Int.add_neg_cancel_right, Fin.isValue, Int32.reduceOfInt, ↓reduceIte, Bool.false_eq_true, Bool.or_false, Bool.false_or, Bool.or_true, Bool.true_or, if_true, if_false, true_and, and_true, true_or, or_true, false_or, or_false, eq_self, and_self, z_up_i, Nat.add_left_cancel_iff, Nat.left_eq_add, Nat.add_eq_left, reduceCtorEq, Nat.add_one_ne_zero, z_tt, implies_true, zn_0, zn_1, zo_0, zo_1, dX6_unfold_0, dX6_unfold_1, dX6_unfold_2, dX6_unfold_3, dX6_unfold_4, dX6_unfold_5, dX6_unfold_6, dX6_unfold_7, dX6_unfold_9, dX6_unfold_11, dX6_unfold_12, dX6_unfold_15, dX6_unfold_18, dX6_unfold_19, dX6_unfold_22, dX6_unfold_24, dX6_unfold_25, dX6_unfold_27, dX6_unfold_29, dX6_unfold_31, dX6_unfold_34, dX6_unfold_35, dX6_unfold_38, dX6_unfold_39, dX6_unfold_41, dX6_unfold_42, dX6_unfold_43, dX6_unfold_44, dX6_unfold_45, dX6_unfold_48, dX6_unfold_49, dX6_unfold_50, dX6_unfold_53, dX6_unfold_54, dX6_unfold_56, dX6_unfold_59, dX6_unfold_60, dX6_unfold_61, dX6_unfold_62, dX6_unfold_64, dX6_unfold_65, dX6_unfold_66, dX6_unfold_69, dX6_unfold_72, dX6_unfold_75, dX6_unfold_77, dX6_unfold_79, dX6_unfold_82, dX6_unfold_83, dX6_unfold_86, dX6_unfold_87, dX6_unfold_88, dX6_unfold_89, dX6_unfold_90, dX6_unfold_91, dX6_unfold_92, dX6_unfold_93, dX6_unfold_94, dX6_unfold_95, dX6_unfold_98, dX6_unfold_99, dX6_unfold_100, dX6_unfold_101, dX6_unfold_102, dX6_unfold_105, dX6_unfold_106, dX6_unfold_109, dX6_unfold_110, dX6_unfold_111, dX6_unfold_112, dX6_unfold_113, dX6_unfold_115, dX6_unfold_118, dX6_unfold_121, dX6_unfold_124, dX6_unfold_127, dX6_unfold_129, dX6_unfold_131, dX6_unfold_133, dX6_unfold_136, dX6_unfold_139, dX6_unfold_141, dX6_unfold_143, dX6_unfold_144, dX6_unfold_145, dX6_unfold_148, dX6_unfold_149, dX6_unfold_151, dX6_unfold_154, dX6_unfold_156, dX6_unfold_157, dX6_unfold_158, dX6_unfold_161, dX6_unfold_162, dX6_unfold_163, dX6_unfold_165, dX6_unfold_168, dX6_unfold_169, dX6_unfold_170, dX6_unfold_171, dX6_unfold_172, dX6_unfold_175, dX6_unfold_178, dX6_unfold_181, dX6_unfold_182, zb_40, zb_41, zb_48, zb_50, zb_60, zb_m6, zf_6_20, zf_6_27, zf_6_30, zf_6_33, zf_6_61, zi_0, zi_1, zi_2, zi_3, zi_m1, ho2]
  exact ⟨fun _ => ⟨_, _, _, g4, Or.inl ⟨g3, rfl, rfl⟩⟩, fun q => absurd (nI_le (Nat.le_refl _) (by omega)) q⟩

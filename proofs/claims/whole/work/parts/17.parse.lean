/-! WHAT A PAD TELLS -/
def m_kd (c : Nat) : Nat := if c = 67 then 0 else if c = 68 then 1 else if c = 84 then 2 else if c = 85 then 3 else 4
def m_isK (c : Nat) : Prop := c = 67 ∨ c = 68 ∨ c = 84 ∨ c = 85 ∨ c = 80
def m_isS (c : Nat) : Prop := 48 ≤ c ∧ c < 51
theorem m_kI_k {c : Nat} (h : m_isK c) : m_kI c = nI (m_kd c) ∧ m_kd c < 5 := by
  rcases h with rfl | rfl | rfl | rfl | rfl <;> decide
theorem m_kI_n {c : Nat} (h : ¬ m_isK c) : m_kI c = -1 := by
  unfold m_isK at h
  simp only [not_or] at h
  simp only [m_kI, h.1, h.2.1, h.2.2.1, h.2.2.2.1, h.2.2.2.2, if_false]
/-- whether a sign can stand there -/
def m_ok (c o : Nat) (due : Bool) : Prop := if due = true then 49 ≤ c ∧ c ≤ 57 else if c = 40 then o < 3 else if c = 41 then 0 < o else m_isS c ∨ m_isK c
def m_opn (c o : Nat) : Nat := if c = 40 then o + 1 else if c = 41 then o - 1 else o
def m_wf : List Nat → Nat → Bool → Prop
  | [], o, due => o = 0 ∧ due = false
  | c :: l, o, due => m_ok c o due ∧ m_wf l (m_opn c o) (c == 41)
def m_rep (n : Nat) (f : List Nat) : List Nat := (List.replicate n f).flatten
def m_den : Nat → List Nat → List Nat × List Nat
  | 0, l => ([], l)
  | _ + 1, [] => ([], [])
  | n + 1, c :: l => if c = 41 then ([], c :: l) else if c = 40 then
      (m_rep ((m_den n l).2.getD 1 0 - 48) (m_den n l).1 ++ (m_den n ((m_den n l).2.drop 2)).1, (m_den n ((m_den n l).2.drop 2)).2)
    else (c :: (m_den n l).1, (m_den n l).2)
theorem m_den_len : ∀ (n : Nat) (l : List Nat), (m_den n l).2.length ≤ l.length
  | 0, l => Nat.le_refl _
  | n + 1, [] => Nat.le_refl _
  | n + 1, c :: l => by
    have h1 := m_den_len n l
    have h2 := m_den_len n ((m_den n l).2.drop 2)
    rw [List.length_drop] at h2
    unfold m_den
    split
    · exact Nat.le_refl _
    · split
      · simp only [List.length_cons]; omega
      · simp only [List.length_cons]; omega
theorem m_den_s : ∀ (n : Nat) (l : List Nat), l.length ≤ n → m_den (n + 1) l = m_den n l
  | 0, [], _ => rfl
  | n + 1, [], _ => rfl
  | n + 1, c :: l, h => by
    have hl : l.length ≤ n := by simp only [List.length_cons] at h; omega
    have h1 := m_den_s n l hl
    have h3 := m_den_len n l
    have h2 := m_den_s n ((m_den n l).2.drop 2) (by rw [List.length_drop]; omega)
    rw [m_den.eq_def (n + 1 + 1) (c :: l), m_den.eq_def (n + 1) (c :: l)]
    simp only [h1, h2]
theorem m_den_ge {n : Nat} {l : List Nat} (h : l.length ≤ n) : m_den n l = m_den l.length l := by
  induction n with
  | zero => have : l.length = 0 := by omega
            rw [this]
  | succ n ih =>
    by_cases hn : l.length ≤ n
    · rw [m_den_s n l hn, ih hn]
    · rw [show l.length = n + 1 by omega]
def m_dn (l : List Nat) : List Nat × List Nat := m_den l.length l
theorem m_dn_nil : m_dn [] = ([], []) := rfl
theorem m_dn_close (l : List Nat) : m_dn (41 :: l) = ([], 41 :: l) := rfl
theorem m_dn_basic {c : Nat} (l : List Nat) (h1 : c ≠ 41) (h2 : c ≠ 40) : m_dn (c :: l) = (c :: (m_dn l).1, (m_dn l).2) := by
  unfold m_dn
  simp only [List.length_cons]
  rw [m_den.eq_def]
  simp only [h1, h2, if_false]
theorem m_dn_open (l : List Nat) {f r : List Nat} {d : Nat} (h : m_dn l = (f, 41 :: d :: r)) : m_dn (40 :: l) = (m_rep (d - 48) f ++ (m_dn r).1, (m_dn r).2) := by
  have h3 := m_den_len l.length l
  unfold m_dn at h ⊢
  rw [h] at h3
  simp only [List.length_cons] at h3 ⊢
  rw [m_den.eq_def]
  simp only [h, show ¬ (40 : Nat) = 41 by omega, if_false, if_true, List.getD_cons_succ, List.getD_cons_zero, List.drop_succ_cons, List.drop_zero]
  rw [m_den_ge (by omega)]
def m_flatok (f : List Nat) : Prop := ∀ c ∈ f, m_isS c ∨ m_isK c
theorem m_flatok_rep {f : List Nat} (h : m_flatok f) (n : Nat) : m_flatok (m_rep n f) := by
  intro c hc
  unfold m_rep at hc
  obtain ⟨g, hg, hcg⟩ := List.mem_flatten.mp hc
  rw [List.mem_replicate] at hg
  rw [hg.2] at hcg
  exact h c hcg
/-- a text that can stand ends at its ) or at the pad's end -/
theorem m_dn_wf : ∀ (n : Nat) (l : List Nat) (o : Nat), l.length ≤ n → m_wf l o false → m_flatok (m_dn l).1 ∧ ((o = 0 ∧ (m_dn l).2 = []) ∨ (0 < o ∧ ∃ d r, (m_dn l).2 = 41 :: d :: r ∧ 49 ≤ d ∧ d ≤ 57 ∧ m_wf r (o - 1) false ∧ ∃ p, l = p ++ 41 :: d :: r)) := by
  intro n
  induction n with
  | zero =>
    intro l o hl hw
    have : l = [] := List.eq_nil_of_length_eq_zero (by omega)
    subst this
    exact ⟨fun c hc => by simp [m_dn_nil] at hc, Or.inl ⟨hw.1, rfl⟩⟩
  | succ n ih =>
    intro l o hl hw
    match l, hl, hw with
    | [], hl, hw => exact ⟨fun c hc => by simp [m_dn_nil] at hc, Or.inl ⟨hw.1, rfl⟩⟩
    | c :: l, hl, hw =>
      obtain ⟨h1, h2⟩ := hw
      simp only [List.length_cons] at hl
      by_cases c1 : c = 41
      · subst c1
        simp only [m_ok, m_opn] at h1 h2
        simp at h1 h2
        refine ⟨fun c hc => by simp [m_dn_close] at hc, Or.inr ⟨h1, ?_⟩⟩
        match l, h2 with
        | [], h2 => exact absurd h2.2 (by simp)
        | d :: r, h2 =>
          obtain ⟨g1, g2⟩ := h2
          simp [m_ok] at g1
          have hd : ¬ d = 41 := by omega
          have hd2 : ¬ d = 40 := by omega
          simp [m_opn, hd, hd2] at g2
          rw [show (d == 41) = false from by simp [hd]] at g2
          exact ⟨d, r, rfl, g1.1, g1.2, g2, [], rfl⟩
      · by_cases c2 : c = 40
        · subst c2
          simp [m_ok, m_opn] at h1 h2
          obtain ⟨i1, i2⟩ := ih l (o + 1) (by omega) h2
          rcases i2 with ⟨i2, -⟩ | ⟨-, d, r, e1, e2, e3, e4, p, e5⟩
          · omega
          · have hr : r.length ≤ n := by
              have := congrArg List.length e5
              simp at this; omega
            simp only [Nat.add_sub_cancel] at e4
            obtain ⟨j1, j2⟩ := ih r o hr e4
            have e6 : m_dn l = ((m_dn l).1, 41 :: d :: r) := by rw [← e1]
            rw [m_dn_open l e6]
            refine ⟨fun c hc => ?_, ?_⟩
            · rcases List.mem_append.mp hc with hc | hc
              · exact m_flatok_rep i1 _ c hc
              · exact j1 c hc
            · rcases j2 with j2 | ⟨k1, d2, r2, k2, k3, k4, k5, p2, k6⟩
              · exact Or.inl j2
              · exact Or.inr ⟨k1, d2, r2, k2, k3, k4, k5, 40 :: p ++ 41 :: d :: p2, by rw [e5, k6]; simp⟩
        · simp [m_ok, m_opn, c1, c2] at h1 h2
          rw [show (c == 41) = false from by simp [c1]] at h2
          obtain ⟨i1, i2⟩ := ih l o (by omega) h2
          rw [m_dn_basic l c1 c2]
          refine ⟨fun a ha => ?_, ?_⟩
          · rcases List.mem_cons.mp ha with rfl | ha
            · exact h1
            · exact i1 a ha
          · rcases i2 with i2 | ⟨k1, d2, r2, k2, k3, k4, k5, p2, k6⟩
            · exact Or.inl i2
            · exact Or.inr ⟨k1, d2, r2, k2, k3, k4, k5, c :: p2, by rw [k6]; simp⟩
def m_app : List Nat → Nat → List Nat
  | [], _ => []
  | c :: f, s => if 48 ≤ c ∧ c < 51 then m_app f (c - 48) else (3 * m_kd c + s) :: m_app f s
def m_spt : List Nat → Nat → Nat
  | [], s => s
  | c :: f, s => if 48 ≤ c ∧ c < 51 then m_spt f (c - 48) else m_spt f s
theorem m_app_app : ∀ (f g : List Nat) (s : Nat), m_app (f ++ g) s = m_app f s ++ m_app g (m_spt f s)
  | [], g, s => rfl
  | c :: f, g, s => by
    simp only [List.cons_append, m_app, m_spt]
    split
    · exact m_app_app f g _
    · rw [m_app_app f g s]; rfl
theorem m_spt_app : ∀ (f g : List Nat) (s : Nat), m_spt (f ++ g) s = m_spt g (m_spt f s)
  | [], g, s => rfl
  | c :: f, g, s => by
    simp only [List.cons_append, m_spt]
    split <;> exact m_spt_app f g _
theorem m_app_len : ∀ (f : List Nat) (s t : Nat), (m_app f s).length = (m_app f t).length
  | [], s, t => rfl
  | c :: f, s, t => by
    simp only [m_app]
    split
    · rfl
    · simp only [List.length_cons]; rw [m_app_len f s t]
theorem m_spt_or : ∀ (f : List Nat), (∀ s, m_spt f s = s) ∨ ∃ k, ∀ s, m_spt f s = k
  | [] => Or.inl fun s => rfl
  | c :: f => by
    simp only [m_spt]
    split
    · exact Or.inr ⟨_, fun s => rfl⟩
    · exact m_spt_or f
theorem m_spt_idem (f : List Nat) (s : Nat) : m_spt f (m_spt f s) = m_spt f s := by
  rcases m_spt_or f with h | ⟨k, h⟩
  · rw [h, h]
  · rw [h, h]
theorem m_rep_0 (f : List Nat) : m_rep 0 f = [] := rfl
theorem m_rep_s (n : Nat) (f : List Nat) : m_rep (n + 1) f = f ++ m_rep n f := by simp [m_rep, List.replicate_succ]
theorem m_rep_s' (n : Nat) (f : List Nat) : m_rep (n + 1) f = m_rep n f ++ f := by simp [m_rep, List.replicate_succ']
theorem m_spt_rep (f : List Nat) (s : Nat) : ∀ n, m_spt (m_rep (n + 1) f) s = m_spt f s
  | 0 => by simp [m_rep]
  | n + 1 => by rw [m_rep_s', m_spt_app, m_spt_rep f s n, m_spt_idem]
theorem m_app_rep0 (f : List Nat) (h : ∀ s, (m_app f s).length = 0) : ∀ n s, m_app (m_rep n f) s = []
  | 0, s => rfl
  | n + 1, s => by rw [m_rep_s, m_app_app, List.eq_nil_of_length_eq_zero (h s), m_app_rep0 f h n]; rfl
theorem m_app_lt : ∀ (f : List Nat) (s : Nat), s < 3 → m_flatok f → (∀ a ∈ m_app f s, a < 15) ∧ m_spt f s < 3
  | [], s, hs, _ => ⟨fun a ha => by simp [m_app] at ha, hs⟩
  | c :: f, s, hs, hf => by
    have hf' : m_flatok f := fun a ha => hf a (List.mem_cons_of_mem _ ha)
    simp only [m_app, m_spt]
    split
    · exact m_app_lt f _ (by omega) hf'
    · obtain ⟨h1, h2⟩ := m_app_lt f s hs hf'
      refine ⟨fun a ha => ?_, h2⟩
      rcases List.mem_cons.mp ha with rfl | ha
      · have : m_kd c < 5 := by unfold m_kd; split; omega; split; omega; split; omega; split; omega; omega
        omega
      · exact h1 a ha

/-! THE SHORT FORM, by the places of letters in their row: J are those that stay -/
def m_pq (ls : List Nat) (j : Nat) : Nat := ls.getD j 0 / 10 + 1
def m_ap (ls : List Nat) (i j : Nat) : Prop := m_pq ls i + 1 < m_pq ls j ∨ m_pq ls j + 1 < m_pq ls i
def m_hit (ls J : List Nat) (i o : Nat) : Prop := o ∈ J ∧ m_pq ls o = m_pq ls i ∧ ls.getD o 0 ≠ ls.getD i 0 ∧ ∀ j ∈ J, o < j → m_ap ls j i
noncomputable def m_mk (ls J : List Nat) (i : Nat) : List Nat := @dite _ (∃ o, m_hit ls J i o) (Classical.propDecidable _) (fun h => J.filter (fun j => j != h.choose)) (fun _ => J ++ [i])
theorem m_hit_uniq {ls J : List Nat} {i o o' : Nat} (h : m_hit ls J i o) (h' : m_hit ls J i o') : o = o' := by
  obtain ⟨a1, a2, a3, a4⟩ := h
  obtain ⟨b1, b2, b3, b4⟩ := h'
  rcases Nat.lt_trichotomy o o' with h | h | h
  · have := a4 o' b1 h; unfold m_ap at this; omega
  · exact h
  · have := b4 o a1 h; unfold m_ap at this; omega
theorem m_mk_hit {ls J : List Nat} {i o : Nat} (h : m_hit ls J i o) : m_mk ls J i = J.filter (fun j => j != o) := by
  have hex : ∃ o, m_hit ls J i o := ⟨o, h⟩
  unfold m_mk
  rw [dif_pos hex, m_hit_uniq hex.choose_spec h]
theorem m_mk_no {ls J : List Nat} {i : Nat} (h : ∀ o, ¬ m_hit ls J i o) : m_mk ls J i = J ++ [i] := by
  unfold m_mk
  rw [dif_neg (fun ⟨o, ho⟩ => h o ho)]
noncomputable def m_mks (ls : List Nat) (n : Nat) : List Nat := (List.range n).foldl (m_mk ls) []
theorem m_mks_s (ls : List Nat) (n : Nat) : m_mks ls (n + 1) = m_mk ls (m_mks ls n) n := by
  unfold m_mks
  rw [List.range_succ, List.foldl_append]; rfl
theorem m_mk_ok (ls : List Nat) {J : List Nat} {i : Nat} (h : J.Pairwise (· < ·)) (hb : ∀ j ∈ J, j < i) : (m_mk ls J i).Pairwise (· < ·) ∧ ∀ j ∈ m_mk ls J i, j < i + 1 := by
  by_cases hex : ∃ o, m_hit ls J i o
  · obtain ⟨o, ho⟩ := hex
    rw [m_mk_hit ho]
    exact ⟨h.filter _, fun j hj => by have := hb j (List.mem_filter.mp hj).1; omega⟩
  · rw [m_mk_no (fun o ho => hex ⟨o, ho⟩)]
    refine ⟨List.pairwise_append.mpr ⟨h, List.pairwise_singleton _ _, fun a ha c hc => ?_⟩, fun j hj => ?_⟩
    · rw [List.mem_singleton.mp hc]; exact hb a ha
    · rcases List.mem_append.mp hj with hj | hj
      · have := hb j hj; omega
      · rw [List.mem_singleton.mp hj]; omega
theorem m_mks_ok (ls : List Nat) : ∀ n, (m_mks ls n).Pairwise (· < ·) ∧ ∀ j ∈ m_mks ls n, j < n
  | 0 => ⟨List.Pairwise.nil, fun j hj => by simp [m_mks] at hj⟩
  | n + 1 => by
    obtain ⟨h1, h2⟩ := m_mks_ok ls n
    rw [m_mks_s]
    exact m_mk_ok ls h1 h2
def m_cnd (ls J : List Nat) (j : Nat) : Prop := j ∈ J ∧ ∀ e ∈ J, e < j → m_ap ls e j
def m_frt (ls J : List Nat) (j : Nat) : Prop := m_cnd ls J j ∧ ∀ j', m_cnd ls J j' → m_pq ls j ≤ m_pq ls j'
theorem m_cnd_pq {ls J : List Nat} {j j' : Nat} (h : m_cnd ls J j) (h' : m_cnd ls J j') (e : m_pq ls j = m_pq ls j') : j = j' := by
  rcases Nat.lt_trichotomy j j' with q | q | q
  · have := h'.2 j h.1 q; unfold m_ap at this; omega
  · exact q
  · have := h.2 j' h'.1 q; unfold m_ap at this; omega
theorem m_frt_uniq {ls J : List Nat} {j j' : Nat} (h : m_frt ls J j) (h' : m_frt ls J j') : j = j' := m_cnd_pq h.1 h'.1 (Nat.le_antisymm (h.2 _ h'.1) (h'.2 _ h.1))
noncomputable def m_out (ls : List Nat) : Nat → List Nat → List Nat
  | 0, _ => []
  | n + 1, J => @dite _ (∃ j, m_frt ls J j) (Classical.propDecidable _) (fun h => ls.getD h.choose 0 :: m_out ls n (J.filter (fun k => k != h.choose))) (fun _ => [])
theorem m_out_s {ls J : List Nat} {j : Nat} (n : Nat) (h : m_frt ls J j) : m_out ls (n + 1) J = ls.getD j 0 :: m_out ls n (J.filter (fun k => k != j)) := by
  have hex : ∃ j, m_frt ls J j := ⟨j, h⟩
  rw [m_out, dif_pos hex, m_frt_uniq hex.choose_spec h]
theorem m_out_e {ls : List Nat} (n : Nat) : m_out ls n [] = [] := by
  cases n with
  | zero => rfl
  | succ n =>
    rw [m_out, dif_neg]
    rintro ⟨j, h, -⟩
    exact absurd h.1 (by simp)
noncomputable def m_sh (ls : List Nat) : List Nat := m_out ls ls.length (m_mks ls ls.length)
theorem m_fl_len {J : List Nat} {j : Nat} (hp : J.Pairwise (· < ·)) (hj : j ∈ J) : (J.filter (fun k => k != j)).length + 1 = J.length := by
  induction J with
  | nil => simp at hj
  | cons a J ih =>
    have hp' := List.pairwise_cons.mp hp
    rcases List.mem_cons.mp hj with rfl | hj'
    · have : J.filter (fun k => k != j) = J := List.filter_eq_self.mpr (fun k hk => by have := hp'.1 k hk; simp; omega)
      simp [this]
    · have hne : a ≠ j := by have := hp'.1 j hj'; omega
      simp only [List.filter_cons, bne_iff_ne, ne_eq, hne, not_false_eq_true, if_true, List.length_cons]
      have := ih hp'.2 hj'
      omega
/-- v tells the last of J of place p, below B -/
def m_isL (ls J : List Nat) (B p : Nat) (v : Int32) : Prop := (v = -1 ∧ ∀ j ∈ J, j < B → m_pq ls j ≠ p) ∨ ∃ j, j ∈ J ∧ j < B ∧ v = nI j ∧ m_pq ls j = p ∧ ∀ k ∈ J, k < B → m_pq ls k = p → k ≤ j
/-- what the class's rows hold behind i letters -/
def m_inv (ls J : List Nat) (i : Nat) (bef st lst : Nat → Int32) : Prop := J.Pairwise (· < ·) ∧ (∀ j ∈ J, j < i) ∧ (∀ p, p ≤ 8 → m_isL ls J i p (lst p)) ∧ (∀ j ∈ J, m_isL ls J j (m_pq ls j) (bef j)) ∧ ∀ j, j < i → (j ∈ J → st j = 1) ∧ (j ∉ J → st j = 0)
theorem m_inv_add {ls J : List Nat} {i : Nat} {bef st lst : Nat → Int32} (h : m_inv ls J i bef st lst) : m_inv ls (J ++ [i]) (i + 1) (upd bef i (lst (m_pq ls i))) (upd st i 1) (upd lst (m_pq ls i) (nI i)) ∨ ¬ m_pq ls i ≤ 8 := by
  by_cases hp8 : m_pq ls i ≤ 8
  · left
    obtain ⟨h1, h2, h3, h4, h5⟩ := h
    have hni : i ∉ J := fun hh => by have := h2 i hh; omega
    refine ⟨List.pairwise_append.mpr ⟨h1, List.pairwise_singleton _ _, fun a ha c hc => by rw [List.mem_singleton.mp hc]; exact h2 a ha⟩, fun j hj => ?_, fun p hp => ?_, fun j hj => ?_, fun j hj => ?_⟩
    · rcases List.mem_append.mp hj with hj | hj
      · have := h2 j hj; omega
      · rw [List.mem_singleton.mp hj]; omega
    · by_cases e : p = m_pq ls i
      · subst e
        rw [pk_us]
        refine Or.inr ⟨i, by simp, by omega, rfl, rfl, fun k hk hki _ => by omega⟩
      · rw [pk_un e]
        rcases h3 p hp with ⟨a1, a2⟩ | ⟨j, a1, a2, a3, a4, a5⟩
        · refine Or.inl ⟨a1, fun j hj hji => ?_⟩
          rcases List.mem_append.mp hj with hj | hj
          · exact a2 j hj (h2 j hj)
          · rw [List.mem_singleton.mp hj]; exact fun q => e q.symm
        · refine Or.inr ⟨j, List.mem_append_left _ a1, by omega, a3, a4, fun k hk hki hkp => ?_⟩
          rcases List.mem_append.mp hk with hk | hk
          · exact a5 k hk (h2 k hk) hkp
          · rw [List.mem_singleton.mp hk] at hkp; exact absurd hkp.symm e
    · rcases List.mem_append.mp hj with hj | hj
      · have hji := h2 j hj
        rw [pk_un (by omega)]
        rcases h4 j hj with ⟨a1, a2⟩ | ⟨k, a1, a2, a3, a4, a5⟩
        · refine Or.inl ⟨a1, fun k hk hkj => ?_⟩
          rcases List.mem_append.mp hk with hk | hk
          · exact a2 k hk hkj
          · rw [List.mem_singleton.mp hk] at hkj; omega
        · refine Or.inr ⟨k, List.mem_append_left _ a1, a2, a3, a4, fun q hq hqj hqp => ?_⟩
          rcases List.mem_append.mp hq with hq | hq
          · exact a5 q hq hqj hqp
          · rw [List.mem_singleton.mp hq] at hqj; omega
      · rw [List.mem_singleton.mp hj, pk_us]
        rcases h3 _ hp8 with ⟨a1, a2⟩ | ⟨k, a1, a2, a3, a4, a5⟩
        · refine Or.inl ⟨a1, fun k hk hkj => ?_⟩
          rcases List.mem_append.mp hk with hk | hk
          · exact a2 k hk hkj
          · rw [List.mem_singleton.mp hk] at hkj; omega
        · refine Or.inr ⟨k, List.mem_append_left _ a1, a2, a3, a4, fun q hq hqj hqp => ?_⟩
          rcases List.mem_append.mp hq with hq | hq
          · exact a5 q hq hqj hqp
          · rw [List.mem_singleton.mp hq] at hqj; omega
    · by_cases e : j = i
      · subst e
        rw [pk_us]
        exact ⟨fun _ => rfl, fun hh => absurd (by simp) hh⟩
      · rw [pk_un e]
        obtain ⟨a1, a2⟩ := h5 j (by omega)
        refine ⟨fun hj => ?_, fun hj => ?_⟩
        · rcases List.mem_append.mp hj with hj | hj
          · exact a1 hj
          · exact absurd (List.mem_singleton.mp hj) e
        · exact a2 (fun hh => hj (List.mem_append_left _ hh))
  · exact Or.inr hp8
theorem m_inv_del {ls J : List Nat} {i o : Nat} {bef st lst : Nat → Int32} (h : m_inv ls J i bef st lst) (hh : m_hit ls J i o) : m_inv ls (J.filter (fun j => j != o)) (i + 1) bef (upd (upd st i 0) o 0) (upd lst (m_pq ls i) (bef o)) := by
  obtain ⟨h1, h2, h3, h4, h5⟩ := h
  obtain ⟨b1, b2, b3, b4⟩ := hh
  have hmem : ∀ j, j ∈ J.filter (fun j => j != o) ↔ j ∈ J ∧ j ≠ o := fun j => by simp [List.mem_filter]
  have hmax : ∀ k ∈ J, m_pq ls k = m_pq ls i → k ≤ o := fun k hk hkp => by
    rcases Nat.lt_or_ge o k with q | q
    · have := b4 k hk q; unfold m_ap at this; omega
    · exact q
  have hoi := h2 o b1
  refine ⟨h1.filter _, fun j hj => by have := h2 j ((hmem j).mp hj).1; omega, fun p hp => ?_, fun j hj => ?_, fun j hj => ?_⟩
  · by_cases e : p = m_pq ls i
    · subst e
      rw [pk_us]
      have h6 := h4 o b1
      rw [b2] at h6
      rcases h6 with ⟨a1, a2⟩ | ⟨k, a1, a2, a3, a4, a5⟩
      · refine Or.inl ⟨a1, fun k hk _ hkp => ?_⟩
        obtain ⟨k1, k2⟩ := (hmem k).mp hk
        exact a2 k k1 (by have := hmax k k1 hkp; omega) hkp
      · refine Or.inr ⟨k, (hmem k).mpr ⟨a1, by omega⟩, by omega, a3, a4, fun q hq _ hqp => ?_⟩
        obtain ⟨k1, k2⟩ := (hmem q).mp hq
        exact a5 q k1 (by have := hmax q k1 hqp; omega) hqp
    · rw [pk_un e]
      rcases h3 p hp with ⟨a1, a2⟩ | ⟨j, a1, a2, a3, a4, a5⟩
      · refine Or.inl ⟨a1, fun j hj _ => ?_⟩
        obtain ⟨k1, k2⟩ := (hmem j).mp hj
        exact a2 j k1 (h2 j k1)
      · refine Or.inr ⟨j, (hmem j).mpr ⟨a1, fun q => by subst q; exact e (a4.symm.trans b2)⟩, by omega, a3, a4, fun q hq _ hqp => ?_⟩
        obtain ⟨k1, k2⟩ := (hmem q).mp hq
        exact a5 q k1 (h2 q k1) hqp
  · obtain ⟨k1, k2⟩ := (hmem j).mp hj
    rcases h4 j k1 with ⟨a1, a2⟩ | ⟨k, a1, a2, a3, a4, a5⟩
    · exact Or.inl ⟨a1, fun q hq hqj => a2 q ((hmem q).mp hq).1 hqj⟩
    · refine Or.inr ⟨k, (hmem k).mpr ⟨a1, fun q => ?_⟩, a2, a3, a4, fun q hq hqj hqp => a5 q ((hmem q).mp hq).1 hqj hqp⟩
      subst q
      have := hmax j k1 (by rw [← a4, b2])
      omega
  · by_cases e : j = o
    · subst e
      rw [pk_us]
      exact ⟨fun hh => absurd rfl ((hmem j).mp hh).2, fun _ => rfl⟩
    · rw [pk_un e]
      by_cases e2 : j = i
      · subst e2
        rw [pk_us]
        exact ⟨fun hh => by have := h2 j ((hmem j).mp hh).1; omega, fun _ => rfl⟩
      · rw [pk_un e2]
        obtain ⟨a1, a2⟩ := h5 j (by omega)
        exact ⟨fun hh => a1 ((hmem j).mp hh).1, fun hh => a2 (fun q => hh ((hmem j).mpr ⟨q, e⟩))⟩
/-- the class's own look: a hit, or none -/
theorem m_isL_lt {ls J : List Nat} {i p q o : Nat} {u : Int32} (hi : i < 2 ^ 31) (hu : m_isL ls J i q u) (ho : o < i) : ¬ nI o ≤ u ↔ ∀ k ∈ J, k < i → m_pq ls k = q → k < o := by
  rcases hu with ⟨a1, a2⟩ | ⟨j, a1, a2, a3, a4, a5⟩
  · subst a1
    refine ⟨fun _ k hk hki hkp => absurd hkp (a2 k hk hki), fun _ hle => ?_⟩
    have h1 := Int32.le_iff_toInt_le.mp hle
    rw [nI_toInt (by omega), show (-1 : Int32).toInt = -1 from by decide] at h1
    omega
  · subst a3
    rw [nI_leI (by omega) (by omega)]
    refine ⟨fun h k hk hki hkp => ?_, fun h => ?_⟩
    · have := a5 k hk hki hkp; omega
    · have := h j a1 a2 a4; omega
theorem m_hit_iff {ls J : List Nat} {i o : Nat} (hb : ∀ j ∈ J, j < i) (ho : o ∈ J) (hop : m_pq ls o = m_pq ls i) (hmax : ∀ k ∈ J, k < i → m_pq ls k = m_pq ls i → k ≤ o) (hd : ls.getD o 0 ≠ ls.getD i 0) (h1 : ∀ k ∈ J, k < i → m_pq ls k = m_pq ls i - 1 → k < o) (h2 : ∀ k ∈ J, k < i → m_pq ls k = m_pq ls i + 1 → k < o) : m_hit ls J i o := by
  refine ⟨ho, hop, hd, fun j hj hoj => ?_⟩
  have a0 := hb j hj
  have a1 := h1 j hj a0
  have a2 := h2 j hj a0
  have a3 := hmax j hj a0
  unfold m_ap
  omega

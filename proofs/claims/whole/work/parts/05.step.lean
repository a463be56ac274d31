/-! ONE STEP, over the pure heap; K goes on, Kr is where the method returns -/
def z_ldi (lv : zL) (i : Nat) (k : Int32 → Prop) : Prop := match z_at lv i with
  | some (some (.int a)) => k a
  | _ => False
def z_lda (lv : zL) (i : Nat) (k : Value → Prop) : Prop := match z_at lv i with
  | some (some (.ref a)) => k (.ref a)
  | some (some .null) => k .null
  | _ => False
def z_sto (lv : zL) (i : Nat) (v : Value) (k : zL → Prop) : Prop := match z_at lv i with
  | some _ => k (z_st lv i (some v))
  | none => False
def z_s1 (st : List Value) (k : Int32 → List Value → Prop) : Prop := match st with
  | .int a :: r => k a r
  | _ => False
def z_s2 (st : List Value) (k : Int32 → Int32 → List Value → Prop) : Prop := match st with
  | .int b :: .int a :: r => k a b r
  | _ => False
def z_sa (st : List Value) (k : Value → List Value → Prop) : Prop := match st with
  | .ref a :: r => k (.ref a) r
  | .null :: r => k .null r
  | _ => False
def z_sv (st : List Value) (k : Value → List Value → Prop) : Prop := match st with
  | .int a :: r => k (.int a) r
  | .ref a :: r => k (.ref a) r
  | .null :: r => k .null r
  | _ => False
def z_br (K : zP) (S : zS) (pc : Nat) (off : Int) (lv : zL) (st : List Value) (c : Prop) : Prop := 0 ≤ (pc : Int) + off ∧ (c → K S ((pc : Int) + off).toNat lv st) ∧ (¬ c → K S (pc + 3) lv st)
def z_bn (K : zP) (S : zS) (pc : Nat) (off : Int) (lv : zL) (st : List Value) (c : Prop) : Prop := 0 ≤ (pc : Int) + off ∧ (c → K S (pc + 3) lv st) ∧ (¬ c → K S ((pc : Int) + off).toNat lv st)
def z_ob (S : zS) (a ci : Nat) (k : List Value → Prop) : Prop := match S.1 a with
  | some (.inr (cj, fs)) => cj = ci ∧ k fs
  | _ => False
def z_ar (S : zS) (a t : Nat) (k : Nat → (Nat → Int32) → Prop) : Prop := match S.1 a with
  | some (.inl (u, n, .inl f)) => u = t ∧ k n f
  | _ => False
def z_aq (S : zS) (a : Nat) (k : Nat → (Nat → Option Nat) → Prop) : Prop := match S.1 a with
  | some (.inl (u, n, .inr (.inr (.inr (.inr f))))) => (u = 2 ∨ u = 3) ∧ k n f
  | _ => False
def z_al (S : zS) (a : Nat) (k : Nat → Prop) : Prop := match S.1 a with
  | some (.inl (u, n, _)) => u < 4 ∧ k n
  | _ => False
def z_rt (rt : Option FieldType) (a : Int32) : Prop := match rt with
  | some .int => True
  | some .boolean => narrow .boolean (.int a) = .int a
  | some .char => narrow .char (.int a) = .int a
  | some .byte => narrow .byte (.int a) = .int a
  | _ => False
def z_ra (rt : Option FieldType) : Prop := match rt with
  | some (.object _) => True
  | _ => False
def z_stop (i : Instr) : Bool := match i with
  | .invokevirtual _ => true
  | .invokestatic _ => true
  | .invokespecial _ => true
  | .new _ => true
  | .newarray _ => true
  | .anewarray _ => true
  | .aastore => true
  | .tableswitch _ _ _ _ => true
  | .ldc _ => true
  | .getstatic _ => true
  | _ => false
def z_n (K : zP) (Kr : Option Value → zS → Prop) (cn : Nat) (rt : Option FieldType) (ini : Bool) (S : zS) (pc : Nat) (lv : zL) (st : List Value) (len : Nat) (i : Instr) : Prop := match i with
  | .iconst n => len = 1 ∧ K S (pc + 1) lv (.int (Int32.ofInt n) :: st)
  | .bipush n => len = 2 ∧ K S (pc + 2) lv (.int (Int8.ofInt n).toInt32 :: st)
  | .sipush n => len = 3 ∧ K S (pc + 3) lv (.int (Int16.ofInt n).toInt32 :: st)
  | .aconst_null => len = 1 ∧ K S (pc + 1) lv (.null :: st)
  | .iload_n k => len = 1 ∧ z_ldi lv k.val (fun a => K S (pc + 1) lv (.int a :: st))
  | .iload k => len = 2 ∧ z_ldi lv k (fun a => K S (pc + 2) lv (.int a :: st))
  | .aload_n k => len = 1 ∧ z_lda lv k.val (fun v => K S (pc + 1) lv (v :: st))
  | .aload k => len = 2 ∧ z_lda lv k (fun v => K S (pc + 2) lv (v :: st))
  | .istore_n k => len = 1 ∧ z_s1 st (fun a r => z_sto lv k.val (.int a) (fun lv' => K S (pc + 1) lv' r))
  | .istore k => len = 2 ∧ z_s1 st (fun a r => z_sto lv k (.int a) (fun lv' => K S (pc + 2) lv' r))
  | .astore_n k => len = 1 ∧ z_sa st (fun a r => z_sto lv k.val a (fun lv' => K S (pc + 1) lv' r))
  | .astore k => len = 2 ∧ z_sa st (fun a r => z_sto lv k a (fun lv' => K S (pc + 2) lv' r))
  | .iinc k n => len = 3 ∧ z_ldi lv k (fun a => K S (pc + 3) (z_st lv k (some (.int (a + Int32.ofInt n)))) st)
  | .iadd => len = 1 ∧ z_s2 st (fun a b r => K S (pc + 1) lv (.int (a + b) :: r))
  | .isub => len = 1 ∧ z_s2 st (fun a b r => K S (pc + 1) lv (.int (a - b) :: r))
  | .imul => len = 1 ∧ z_s2 st (fun a b r => K S (pc + 1) lv (.int (a * b) :: r))
  | .iand => len = 1 ∧ z_s2 st (fun a b r => K S (pc + 1) lv (.int (a &&& b) :: r))
  | .ior => len = 1 ∧ z_s2 st (fun a b r => K S (pc + 1) lv (.int (a ||| b) :: r))
  | .ixor => len = 1 ∧ z_s2 st (fun a b r => K S (pc + 1) lv (.int (a ^^^ b) :: r))
  | .ishl => len = 1 ∧ z_s2 st (fun a b r => K S (pc + 1) lv (.int (a <<< (b &&& 31)) :: r))
  | .ishr => len = 1 ∧ z_s2 st (fun a b r => K S (pc + 1) lv (.int (a >>> (b &&& 31)) :: r))
  | .i2b => len = 1 ∧ z_s1 st (fun a r => K S (pc + 1) lv (.int a.toInt8.toInt32 :: r))
  | .idiv => len = 1 ∧ z_s2 st (fun a b r => ¬ b = 0 ∧ K S (pc + 1) lv (.int (a / b) :: r))
  | .irem => len = 1 ∧ z_s2 st (fun a b r => ¬ b = 0 ∧ K S (pc + 1) lv (.int (a - a / b * b) :: r))
  | .i2c => len = 1 ∧ z_s1 st (fun a r => K S (pc + 1) lv (.int (a.toUInt32 % 65536).toInt32 :: r))
  | .dup => len = 1 ∧ z_sv st (fun v r => K S (pc + 1) lv (v :: v :: r))
  | .dup2 => len = 1 ∧ z_sv st (fun v r => z_sv r (fun w r => K S (pc + 1) lv (v :: w :: v :: w :: r)))
  | .pop => len = 1 ∧ z_sv st (fun _ r => K S (pc + 1) lv r)
  | .goto off => len = 3 ∧ 0 ≤ (pc : Int) + off ∧ K S ((pc : Int) + off).toNat lv st
  | .ifCond .eq off => len = 3 ∧ z_s1 st (fun a r => z_br K S pc off lv r (a = 0))
  | .ifCond .ne off => len = 3 ∧ z_s1 st (fun a r => z_bn K S pc off lv r (a = 0))
  | .ifCond .lt off => len = 3 ∧ z_s1 st (fun a r => z_br K S pc off lv r (a < 0))
  | .ifCond .ge off => len = 3 ∧ z_s1 st (fun a r => z_br K S pc off lv r (0 ≤ a))
  | .ifCond .gt off => len = 3 ∧ z_s1 st (fun a r => z_br K S pc off lv r (0 < a))
  | .ifCond .le off => len = 3 ∧ z_s1 st (fun a r => z_br K S pc off lv r (a ≤ 0))
  | .if_icmp .eq off => len = 3 ∧ z_s2 st (fun a b r => z_br K S pc off lv r (a = b))
  | .if_icmp .ne off => len = 3 ∧ z_s2 st (fun a b r => z_bn K S pc off lv r (a = b))
  | .if_icmp .lt off => len = 3 ∧ z_s2 st (fun a b r => z_br K S pc off lv r (a < b))
  | .if_icmp .ge off => len = 3 ∧ z_s2 st (fun a b r => z_br K S pc off lv r (b ≤ a))
  | .if_icmp .gt off => len = 3 ∧ z_s2 st (fun a b r => z_br K S pc off lv r (b < a))
  | .if_icmp .le off => len = 3 ∧ z_s2 st (fun a b r => z_br K S pc off lv r (a ≤ b))
  | .ifnull off => len = 3 ∧ 0 ≤ (pc : Int) + off ∧ z_sa st (fun v r => match v with
    | .null => K S ((pc : Int) + off).toNat lv r
    | _ => K S (pc + 3) lv r)
  | .ifnonnull off => len = 3 ∧ 0 ≤ (pc : Int) + off ∧ z_sa st (fun v r => match v with
    | .null => K S (pc + 3) lv r
    | _ => K S ((pc : Int) + off).toNat lv r)
  | .getfield ix => len = 3 ∧ (match st with
    | .ref a :: r => (match z_fld cn ix with
      | some (ci, k) => z_ob S a ci (fun fs => match z_at fs k with
        | some v => K S (pc + 3) lv (v :: r)
        | none => False)
      | none => False)
    | _ => False)
  | .putfield ix => len = 3 ∧ (match st with
    | v :: .ref a :: r => (match z_fld cn ix with
      | some (ci, k) => z_ob S a ci (fun fs => z_fit cn ini ci k v ∧ (match z_at fs k with
        | some _ => K (z_up S.1 a (.inr (ci, z_st fs k v)), S.2) (pc + 3) lv r
        | none => False))
      | none => False)
    | _ => False)
  | .iaload => len = 1 ∧ (match st with
    | .int j :: .ref a :: r => z_ar S a 0 (fun n f => vp_in j n ∧ K S (pc + 1) lv (.int (f j.toNatClampNeg) :: r))
    | _ => False)
  | .baload => len = 1 ∧ (match st with
    | .int j :: .ref a :: r => z_ar S a 1 (fun n f => vp_in j n ∧ K S (pc + 1) lv (.int (f j.toNatClampNeg) :: r))
    | _ => False)
  | .aaload => len = 1 ∧ (match st with
    | .int j :: .ref a :: r => z_aq S a (fun n f => vp_in j n ∧ K S (pc + 1) lv (va_rf (f j.toNatClampNeg) :: r))
    | _ => False)
  | .iastore => len = 1 ∧ (match st with
    | .int b :: .int j :: .ref a :: r => z_ar S a 0 (fun n f => vp_in j n ∧ K (z_up S.1 a (.inl (0, n, .inl (upd f j.toNatClampNeg b))), S.2) (pc + 1) lv r)
    | _ => False)
  | .bastore => len = 1 ∧ (match st with
    | .int b :: .int j :: .ref a :: r => z_ar S a 1 (fun n f => vp_in j n ∧ K (z_up S.1 a (.inl (1, n, .inl (upd f j.toNatClampNeg (vp_nar .boolean b)))), S.2) (pc + 1) lv r)
    | _ => False)
  | .arraylength => len = 1 ∧ (match st with
    | .ref a :: r => z_al S a (fun n => K S (pc + 1) lv (.int (nI n) :: r))
    | _ => False)
  | .ireturn => len = 1 ∧ (match st with
    | [.int v] => z_rt rt v ∧ Kr (some (.int v)) S
    | _ => False)
  | .areturn => len = 1 ∧ z_ra rt ∧ (match st with
    | [.ref v] => Kr (some (.ref v)) S
    | [.null] => Kr (some .null) S
    | _ => False)
  | .return_ => len = 1 ∧ rt = none ∧ (match st with
    | [] => Kr none S
    | _ => False)
  | _ => False
theorem z_R.cell {E : zE} {M : zH} {z : Nat} {H : Heap} {a : Nat} {e : zC} (h : z_R E M z H) (ha : M a = some e) : va_P E.1 vwCl [(a, z_cv E e)] H := by
  intro k q hq
  have hz : k < 1 := (List.getElem?_eq_some_iff.mp hq).1
  rw [show k = 0 by omega] at hq
  cases hq
  exact (h.2 a e ha).2
theorem z_R.put {E : zE} {M : zH} {z : Nat} {H H1 : Heap} {a : Nat} {e e' : zC} (h : z_R E M z H) (ha : M a = some e) (hz : H1.size = H.size) (he : va_at E.1 vwCl (a, z_cv E e') H1) (oq : ∀ q : Nat, q ≠ a → H1[q]? = H[q]?) : z_R E (z_up M a e') z H1 := by
  refine ⟨hz.trans h.1, fun b e2 hb => ?_⟩
  by_cases hba : b = a
  · subst hba
    rw [z_up_s] at hb
    cases hb
    exact ⟨(h.2 b e ha).1, he⟩
  · rw [z_up_n hba] at hb
    obtain ⟨h1, h2⟩ := h.2 b e2 hb
    exact ⟨h1, h2.kept (oq b hba)⟩
theorem z_ob_spec {S : zS} {a ci : Nat} {k : List Value → Prop} (h : z_ob S a ci k) : ∃ fs, S.1 a = some (.inr (ci, fs)) ∧ k fs := by
  unfold z_ob at h
  split at h
  · rename_i cj fs he
    obtain ⟨rfl, h⟩ := h
    exact ⟨fs, he, h⟩
  · exact h.elim
theorem z_ar_spec {S : zS} {a t : Nat} {k : Nat → (Nat → Int32) → Prop} (h : z_ar S a t k) : ∃ n f, S.1 a = some (.inl (t, n, .inl f)) ∧ k n f := by
  unfold z_ar at h
  split at h
  · rename_i u n f he
    obtain ⟨rfl, h⟩ := h
    exact ⟨n, f, he, h⟩
  · exact h.elim
theorem z_aq_spec {S : zS} {a : Nat} {k : Nat → (Nat → Option Nat) → Prop} (h : z_aq S a k) : ∃ t n f, (t = 2 ∨ t = 3) ∧ S.1 a = some (.inl (t, n, .inr (.inr (.inr (.inr f))))) ∧ k n f := by
  unfold z_aq at h
  split at h
  · rename_i u n f he
    exact ⟨u, n, f, h.1, he, h.2⟩
  · exact h.elim
theorem z_al_spec {S : zS} {a : Nat} {k : Nat → Prop} (h : z_al S a k) : ∃ t y, t < 4 ∧ S.1 a = some (.inl (t, y)) ∧ k y.1 := by
  unfold z_al at h
  split at h
  · rename_i u n y he
    exact ⟨u, (n, y), h.1, he, h.2⟩
  · exact h.elim
theorem z_ldi_spec {lv : zL} {i : Nat} {k : Int32 → Prop} (h : z_ldi lv i k) : ∃ a, z_at lv i = some (some (.int a)) ∧ k a := by
  unfold z_ldi at h
  split at h
  · rename_i a he
    exact ⟨a, he, h⟩
  · exact h.elim
theorem z_lda_spec {lv : zL} {i : Nat} {k : Value → Prop} (h : z_lda lv i k) : (∃ a, z_at lv i = some (some (.ref a)) ∧ k (.ref a)) ∨ (z_at lv i = some (some .null) ∧ k .null) := by
  unfold z_lda at h
  split at h
  · rename_i a he
    exact Or.inl ⟨a, he, h⟩
  · rename_i he
    exact Or.inr ⟨he, h⟩
  · exact h.elim
theorem z_sto_spec {lv : zL} {i : Nat} {v : Value} {k : zL → Prop} (h : z_sto lv i v k) : i < lv.length ∧ k (z_st lv i (some v)) := by
  unfold z_sto at h
  split at h
  · rename_i a he
    exact ⟨z_at_lt he, h⟩
  · exact h.elim
theorem z_s1_spec {st : List Value} {k : Int32 → List Value → Prop} (h : z_s1 st k) : ∃ a r, st = .int a :: r ∧ k a r := by
  unfold z_s1 at h
  split at h
  · exact ⟨_, _, rfl, h⟩
  · exact h.elim
theorem z_s2_spec {st : List Value} {k : Int32 → Int32 → List Value → Prop} (h : z_s2 st k) : ∃ a b r, st = .int b :: .int a :: r ∧ k a b r := by
  unfold z_s2 at h
  split at h
  · exact ⟨_, _, _, rfl, h⟩
  · exact h.elim
theorem z_sa_spec {st : List Value} {k : Value → List Value → Prop} (h : z_sa st k) : (∃ a r, st = .ref a :: r ∧ k (.ref a) r) ∨ ∃ r, st = .null :: r ∧ k .null r := by
  unfold z_sa at h
  split at h
  · exact Or.inl ⟨_, _, rfl, h⟩
  · exact Or.inr ⟨_, rfl, h⟩
  · exact h.elim
theorem z_sv_spec {st : List Value} {k : Value → List Value → Prop} (h : z_sv st k) : ∃ v r, st = v :: r ∧ v.category = 1 ∧ k v r := by
  unfold z_sv at h
  split at h
  · exact ⟨_, _, rfl, rfl, h⟩
  · exact ⟨_, _, rfl, rfl, h⟩
  · exact ⟨_, _, rfl, rfl, h⟩
  · exact h.elim

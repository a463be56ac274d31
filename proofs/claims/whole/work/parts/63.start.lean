set_option maxRecDepth 100000 in
set_option maxHeartbeats 8000000 in
/-- THE LAW, from its entry -/
theorem whole_start {p : Program} {e : Env} {s : State} {m : MethodId} {below : List Frame} {meth : Method} {c : Code} (l : Launch) (hflags : l.flags = flags0) {b L : Nat} {xs : Nat → Int32} (hL : L ≤ 2560) (C0 : lw_At p s m meth c b L xs) : W p l e room_1 s m #[Value.ref b] below meth c s.heap [] 0 0 (lw_Z below #[Value.ref b] s) (entryFrame m ([Value.ref b] : List Value).toArray 4) := by
  obtain ⟨hx, hb, hr, hml, hown, hts, hX, hbl, hlocks, hgv⟩ := id C0
  obtain ⟨E, hE, hK, hN⟩ := law_world hts hgv
  have hbA : ¬ z_A E b := by show ¬ E.2.1 ≤ b; rw [hE]; omega
  have C : z_OK (z_W p l e room_1 s m #[Value.ref b] below meth c E 4 (lw_Z below #[Value.ref b] s)) l E room_1 7 cL_law 4 ret false (fun _ _ => False) := ⟨p, e, s, m, #[Value.ref b], below, meth, c, _, rfl, ⟨hx, hb, hml, hr, hown, fun w hw => hts w (List.mem_filter.mp hw).1, hlocks, (fun h => absurd h (by decide)), hK, hN, by rw [hE]; exact Nat.le_refl _⟩, fun v S h => h.elim⟩
  have hsl : z_SL (z_W p l e room_1 s m #[Value.ref b] below meth c E 4 (lw_Z below #[Value.ref b] s)) b L xs := by
    intro S pc lv st i hd hi kk H locs ls hR hS hl
    refine va_sld hx hb hX hbl hbA hS (vp_in_nI hi (by omega)) hd ?_
    rw [nI_clamp (by omega)]
    exact kk H locs ls hR hS hl
  have hsn : ∀ (S : zS) (pc : Nat) (lv : zL) (st : List Value), decode cL_law pc = .ok (.arraylength, 1) → z_W p l e room_1 s m #[Value.ref b] below meth c E 4 (lw_Z below #[Value.ref b] s) S (pc + 1) lv (.int (nI L) :: st) → z_W p l e room_1 s m #[Value.ref b] below meth c E 4 (lw_Z below #[Value.ref b] s) S pc lv (.ref b :: st) := by
    intro S pc lv st hd kk H locs ls hR hS hl
    exact va_slen hx hb hX hbl hbA hS hd (kk H locs ls hR hS hl)
  have hfin : ∀ (M : zH) (z c0 n0 : Nat) (lv : zL), c0 ≤ 600000 → n0 ≤ 7302250 → z_W p l e room_1 s m #[Value.ref b] below meth c E 4 (lw_Z below #[Value.ref b] s) (M, z, c0, n0) 718 lv [.int 1] := by
    intro M z c0 n0 lv h1 h2 H locs ls hR hS hl
    refine W.widen h1 h2 (va_forget (fun q hq => ?_) (lw_ret hx hb hr hlocks dL_law_718))
    have := hS.2.2 q hq
    rw [← hE]
    exact this
  have go := law_begin (N0 := s.heap.size) C hsl hsn hL hfin
  have hl := lv_entry ([.ref b]) (n := 4) (Nat.le_of_ble_eq_true rfl)
  rw [lg_entry_eq]
  obtain ⟨g1, g2⟩ := z_args [.ref b] 0 (by simp [Value.category])
  refine go s.heap [] _ ⟨rfl, fun a e h => by cases h⟩ va_S.rf ⟨_, hl, g1, rfl, fun i v hi => ?_⟩
  match i, hi with
  | 0, hi => cases hi; exact g2 0 _ rfl
  | 1, hi => cases hi
  | 2, hi => cases hi
  | 3, hi => cases hi
  | k + 4, hi => simp [z_at] at hi

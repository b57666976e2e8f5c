theorem whole_go (hfp : f_all) {p : Program} {e : Env} {s : State} {m : MethodId} {below : List Frame} {meth : Method} {c : Code} (l : Launch) (hflags : l.flags = flags0) {b L : Nat} {xs : Nat → Int32} (hL : L ≤ 2560) (C0 : lw_At p s m meth c b L xs) : W p l e room_1 s m #[Value.ref b] below meth c s.heap [] 0 0 (lw_Z below #[Value.ref b] s) (entryFrame m ([Value.ref b] : List Value).toArray 10) := by
  obtain ⟨hx, hb, hr, hml, hown, hts, hX, hbl, hlocks, hg⟩ := C0
  obtain ⟨G, hG, hw⟩ := m_start hts hg
  have hcs := m_cstr hts hg
  have hnt : l.stackTraces = false := by unfold Launch.stackTraces; rw [hflags]; decide
  have C : lw_cx p l s m c b L xs G := ⟨hx, hb, hml, hown, fun w h => lw_tbx_ok hts w (wsL_law_in w h), hX, hbl, by rw [hG]; exact Nat.not_le.mpr hbl, hnt, hcs, hL⟩
  have hl := lv_entry ([.ref b]) (n := 10) (Nat.le_of_ble_eq_true rfl)
  rw [lg_entry_eq]
  generalize (lg_sl ([Value.ref b]) ++ List.replicate (10 - (lg_sl ([Value.ref b])).length) Slot.unset).toArray = ls at hl ⊢
  refine lo_start C hfp hw hl (fun H locs ls hq hsz => ?_)
  refine lv_iconst (v := 1) hx hb dL_law_2026 (by decide) ?_
  refine va_forget (fun q h => by rw [← hG]; exact hq q h) ?_
  exact lw_ret (d0 := s.drawn) (Drawn.sameBut.refl s.drawn lw_cs) hx hb hr hlocks dL_law_2027

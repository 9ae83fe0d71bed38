/-! the walk of the law -/
theorem whole_start {p : Program} {e : Env} {s : State} {m : MethodId} {below : List Frame} {meth : Method} {c : Code} (l : Launch) (hflags : l.flags = flags0) {b L : Nat} {xs : Nat → Int32} (hL : L ≤ 320) (C0 : lw_At p s m meth c b L xs) : W p l e room_1 s m #[Value.ref b] below meth c s.heap [] 0 0 (lw_Z below #[Value.ref b] s) (entryFrame m ([Value.ref b] : List Value).toArray 4) := by
  obtain ⟨hx, hb, hr, hml, hown, hts, hXs, hbz, hlk, hgv⟩ := id C0
  obtain ⟨D, cI, cR, hE⟩ := gE_of hts
  obtain ⟨o, v, fm, hG, hfm⟩ := strG_entry hgv hts
  obtain ⟨w7, h1, h2, h3⟩ := c75n (nat := natS) (d := 5) (w := wJ) natS_s rfl rfl rfl
  exact law_main l hL C0 hE (o := o) (SX := strG s.heap.size o v fm) (w7 := w7) (fun U hq hW => strG_tr hG hW hq) (fun U g mk a h => strG_same h rfl rfl) h2 h3 (fun ad h0 hS hF hO => met75 l hfm h0 hS hF hO h1)

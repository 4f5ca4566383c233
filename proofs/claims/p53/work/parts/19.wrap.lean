set_option maxHeartbeats 4000000 in
set_option maxRecDepth 100000 in
/-- type: IAE -/
theorem w_type_bad (l : Launch) (dC : Nat → ClassId) (dI : Nat → Nat → Nat) (sz : Nat) (cI cC : ClassId) (o a0 a1 a2 : Nat) (tc : Int32) (nc : Nat) (ad : Nat → Option Nat) (hfl : l.stackTraces = false) : Met l yL_type wsL_type ({ frames := 7, cells := 1, slots := 6, locals := 112 }) (va_Pc [.ref o, .int 256] (zPcX (dC, dI) [(o, .inr (6, [.ref a0, .int tc, .ref a1, .int (nI nc), .null, .int 40, .int 48, .int 0, .ref a2]))] [(cI, .int), (cC, (.object RX0))] sz)) (va_Qi (fun (r : Int32) (_ : Unit) => r = (-900001)) (fun _ _ => True) (zq sz)) 1 6 (zq sz) := by
  refine va_MetW (cc := cL_type) (maxL := 3) (ret := (some .int)) (hh := [(0, 5, 6, 15), (0, 5, 10, 18)]) (by decide) rfl ?_
  intro p e s m args below meth c s₁ B hml hv
  obtain ⟨rfl, hsz, hP, hK, hE⟩ := hv
  have hx := B.exec
  have hb := B.bytes
  have hr := B.returns
  have hts := atoms_spec (ws := wsL_type) B.pre
  have hown : s.vm.findClass RL = some m.cls := findClass_of_methodNamed B.named
  have hlocks := B.notSynchronized
  subst hsz
  have htab : c.exceptionTable.toList = tableOf [(0, 5, 6, 15), (0, 5, 10, 18)] := vx_table (x := yL_type) B (hts _ (List.mem_of_getElem? (i := 0) rfl))
  have hA : ∀ q : Nat, s.heap.size ≤ q → zq s.heap.size q := fun q h => h
  have hS : va_S (zq s.heap.size) s.heap s.heap [] := va_S.rf
  have hl := lv_entry ([.ref o, .int 256]) (n := 3) (Nat.le_of_ble_eq_true rfl)
  rw [lg_entry_eq]
  generalize (lg_sl ([.ref o, .int 256]) ++ List.replicate (3 - (lg_sl ([.ref o, .int 256])).length) Slot.unset).toArray = ls at hl ⊢
  have hl : lv_has ls 3 [(0, .ref o), (1, .int 256)] := hl
  refine lv_aload_n hx hb dL_type_0 rfl (lv_at hl 0 rfl) ?_
  refine lv_iload_n hx hb dL_type_1 rfl (lv_at hl 1 rfl) ?_
  refine z_callx (vx_runV (As := [.int 256]) (rest := []) ⟨hx, hb, hml, hown, hts⟩ (x_type l dC dI s.heap.size cI cC o a0 a1 a2 tc nc ad hfl) (cwV 1 hts gL_type_X6_type rfl rfl rfl (by decide +kernel) ⟨Nat.le_of_ble_eq_true rfl, Nat.le_of_ble_eq_true rfl⟩) ⟨zfbX, va_recv hK hP (ci := 6) (q0 := 0) rfl rfl, zpreX (hP.sub (ws' := [(o, .inr (6, [.ref a0, .int tc, .ref a1, .int (nI nc), .null, .int 40, .int 48, .int 0, .ref a2]))]) [0] rfl) (hK.sub (tys' := [(cI, .int), (cC, (.object RX0))]) [0, 1] rfl) hE hS hA⟩ rfl rfl hl.1 rfl (lv_room (Nat.le_of_ble_eq_true rfl)) dL_type_2 ⟨Nat.le_of_ble_eq_true rfl, Nat.le_of_ble_eq_true rfl⟩) hS hA (fun ce q9 H1 locs hz1 hk1 hS hce hcv hcl => ?_)
  refine vx_catch (E := "java/lang/IllegalArgumentException") hown [] ⟨0, 5, 6, 15⟩ [⟨0, 5, 10, 18⟩] htab (fun z hz => nomatch hz) rfl (by decide) (hts (.classLink RL 15 "java/lang/IllegalArgumentException") (List.mem_of_getElem? (i := 1) rfl)) (va_Nw.use rfl (hE.2.2.1 _ (List.mem_of_getElem? (i := 5) rfl))) hce hcv hcl ?_
  refine lv_astore_n (lv' := [(2, .ref q9), (0, .ref o), (1, .int 256)]) hx hb dL_type_6 rfl hl (by decide) rfl (fun ls hl => ?_)
  refine lv_ldc hx hb hown (hts (.constant RL 17 (-900001)) (List.mem_of_getElem? (i := 3) rfl)) dL_type_7 ?_
  exact W.iret (v := (-900001)) hx hb hr (fun t9 ht hW => ⟨⟨_, (), rfl, rfl, trivial⟩, hS.F ht⟩) hS.2.2 dL_type_9

set_option maxHeartbeats 4000000 in
set_option maxRecDepth 100000 in
/-- ring: UOE -/
theorem w_ring_bad (l : Launch) (dC : Nat → ClassId) (dI : Nat → Nat → Nat) (sz : Nat) (cI cC : ClassId) (o a0 a1 a2 : Nat) (w nc : Nat) (f : Nat → Int32) (hfl : l.stackTraces = false) (hwm : w ≤ 64) (hnr : ztg f w = false) : Met l yL_ring wsL_ring ({ frames := 7, cells := 1, slots := 6, locals := 112 }) (va_Pc [.ref o] (zPcX (dC, dI) [(o, .inr (6, [.ref a0, .int (nI w), .ref a1, .int (nI nc), .null, .int 40, .int 48, .int 0, .ref a2])), (a0, .inl (cI, 64, .inl f))] [(cI, .int), (cC, (.object RX0))] sz)) (va_Qi (fun (r : Int32) (_ : Unit) => r = (-900001)) (fun _ _ => True) (zq sz)) 1 6 (zq sz) := by
  refine va_MetW (cc := cL_ring) (maxL := 2) (ret := (some .int)) (hh := [(0, 4, 5, 25), (0, 4, 9, 18)]) (by decide) rfl ?_
  intro p e s m args below meth c s₁ B hml hv
  obtain ⟨rfl, hsz, hP, hK, hE⟩ := hv
  have hx := B.exec
  have hb := B.bytes
  have hr := B.returns
  have hts := atoms_spec (ws := wsL_ring) B.pre
  have hown : s.vm.findClass RL = some m.cls := findClass_of_methodNamed B.named
  have hlocks := B.notSynchronized
  subst hsz
  have htab : c.exceptionTable.toList = tableOf [(0, 4, 5, 25), (0, 4, 9, 18)] := vx_table (x := yL_ring) B (hts _ (List.mem_of_getElem? (i := 0) rfl))
  have hA : ∀ q : Nat, s.heap.size ≤ q → zq s.heap.size q := fun q h => h
  have hS : va_S (zq s.heap.size) s.heap s.heap [] := va_S.rf
  have hl := lv_entry ([.ref o]) (n := 2) (Nat.le_of_ble_eq_true rfl)
  rw [lg_entry_eq]
  generalize (lg_sl ([.ref o]) ++ List.replicate (2 - (lg_sl ([.ref o])).length) Slot.unset).toArray = ls at hl ⊢
  have hl : lv_has ls 2 [(0, .ref o)] := hl
  refine lv_aload_n hx hb dL_ring_0 rfl (lv_at hl 0 rfl) ?_
  refine z_callx (vx_runV (As := []) (rest := []) ⟨hx, hb, hml, hown, hts⟩ (x_ring l dC dI s.heap.size cI cC o a0 a1 a2 w nc f hfl hwm hnr) (cwV 0 hts gL_ring_X6_ring rfl rfl rfl (by decide +kernel) ⟨Nat.le_of_ble_eq_true rfl, Nat.le_of_ble_eq_true rfl⟩) ⟨zfbX, va_recv hK hP (ci := 6) (q0 := 0) rfl rfl, zpreX (hP.sub (ws' := [(o, .inr (6, [.ref a0, .int (nI w), .ref a1, .int (nI nc), .null, .int 40, .int 48, .int 0, .ref a2])), (a0, .inl (cI, 64, .inl f))]) [0, 1] rfl) (hK.sub (tys' := [(cI, .int), (cC, (.object RX0))]) [0, 1] rfl) hE hS hA⟩ rfl rfl hl.1 rfl (lv_room (Nat.le_of_ble_eq_true rfl)) dL_ring_1 ⟨Nat.le_of_ble_eq_true rfl, Nat.le_of_ble_eq_true rfl⟩) hS hA (fun ce q9 H1 locs hz1 hk1 hS hce hcv hcl => ?_)
  refine vx_catch (E := "java/lang/UnsupportedOperationException") hown [] ⟨0, 4, 5, 25⟩ [⟨0, 4, 9, 18⟩] htab (fun z hz => nomatch hz) rfl (by decide) (hts (.classLink RL 25 "java/lang/UnsupportedOperationException") (List.mem_of_getElem? (i := 1) rfl)) (va_Nw.use rfl (hE.2.2.1 _ (List.mem_of_getElem? (i := 6) rfl))) hce hcv hcl ?_
  refine lv_astore_n (lv' := [(1, .ref q9), (0, .ref o)]) hx hb dL_ring_5 rfl hl (by decide) rfl (fun ls hl => ?_)
  refine lv_ldc hx hb hown (hts (.constant RL 17 (-900001)) (List.mem_of_getElem? (i := 3) rfl)) dL_ring_6 ?_
  exact W.iret (v := (-900001)) hx hb hr (fun t9 ht hW => ⟨⟨_, (), rfl, rfl, trivial⟩, hS.F ht⟩) hS.2.2 dL_ring_8

set_option maxHeartbeats 4000000 in
set_option maxRecDepth 100000 in
/-- reflected: IAE -/
theorem w_reflected_bad (l : Launch) (dC : Nat → ClassId) (dI : Nat → Nat → Nat) (sz : Nat) (cI cC : ClassId) (o a0 a1 a2 : Nat) (tc : Int32) (nc : Nat) (ad : Nat → Option Nat) (w : Int32) (hfl : l.stackTraces = false) (hwr : (decide ((2 : Int32) ≤ w) && decide (w ≤ 6)) = false) : Met l yL_reflected wsL_reflected ({ frames := 7, cells := 1, slots := 6, locals := 114 }) (va_Pc [.ref o, .int w] (zPcX (dC, dI) [(o, .inr (6, [.ref a0, .int tc, .ref a1, .int (nI nc), .null, .int 40, .int 48, .int 0, .ref a2]))] [(cI, .int), (cC, (.object RX0))] sz)) (va_Qi (fun (r : Int32) (_ : Unit) => r = (-900001)) (fun _ _ => True) (zq sz)) 1 6 (zq sz) := by
  refine va_MetW (cc := cL_reflected) (maxL := 3) (ret := (some .int)) (hh := [(0, 5, 6, 15), (0, 5, 10, 18)]) (by decide) rfl ?_
  intro p e s m args below meth c s₁ B hml hv
  obtain ⟨rfl, hsz, hP, hK, hE⟩ := hv
  have hx := B.exec
  have hb := B.bytes
  have hr := B.returns
  have hts := atoms_spec (ws := wsL_reflected) B.pre
  have hown : s.vm.findClass RL = some m.cls := findClass_of_methodNamed B.named
  have hlocks := B.notSynchronized
  subst hsz
  have htab : c.exceptionTable.toList = tableOf [(0, 5, 6, 15), (0, 5, 10, 18)] := vx_table (x := yL_reflected) B (hts _ (List.mem_of_getElem? (i := 0) rfl))
  have hA : ∀ q : Nat, s.heap.size ≤ q → zq s.heap.size q := fun q h => h
  have hS : va_S (zq s.heap.size) s.heap s.heap [] := va_S.rf
  have hl := lv_entry ([.ref o, .int w]) (n := 3) (Nat.le_of_ble_eq_true rfl)
  rw [lg_entry_eq]
  generalize (lg_sl ([.ref o, .int w]) ++ List.replicate (3 - (lg_sl ([.ref o, .int w])).length) Slot.unset).toArray = ls at hl ⊢
  have hl : lv_has ls 3 [(0, .ref o), (1, .int w)] := hl
  refine lv_aload_n hx hb dL_reflected_0 rfl (lv_at hl 0 rfl) ?_
  refine lv_iload_n hx hb dL_reflected_1 rfl (lv_at hl 1 rfl) ?_
  refine z_callx (vx_runV (As := [.int w]) (rest := []) ⟨hx, hb, hml, hown, hts⟩ (x_reflected l dC dI s.heap.size cI cC o a0 a1 a2 tc nc ad w hfl hwr) (cwV 1 hts gL_reflected_X6_reflected rfl rfl rfl (by decide +kernel) ⟨Nat.le_of_ble_eq_true rfl, Nat.le_of_ble_eq_true rfl⟩) ⟨zfbX, va_recv hK hP (ci := 6) (q0 := 0) rfl rfl, zpreX (hP.sub (ws' := [(o, .inr (6, [.ref a0, .int tc, .ref a1, .int (nI nc), .null, .int 40, .int 48, .int 0, .ref a2]))]) [0] rfl) (hK.sub (tys' := [(cI, .int), (cC, (.object RX0))]) [0, 1] rfl) hE hS hA⟩ rfl rfl hl.1 rfl (lv_room (Nat.le_of_ble_eq_true rfl)) dL_reflected_2 ⟨Nat.le_of_ble_eq_true rfl, Nat.le_of_ble_eq_true rfl⟩) hS hA (fun ce q9 H1 locs hz1 hk1 hS hce hcv hcl => ?_)
  refine vx_catch (E := "java/lang/IllegalArgumentException") hown [] ⟨0, 5, 6, 15⟩ [⟨0, 5, 10, 18⟩] htab (fun z hz => nomatch hz) rfl (by decide) (hts (.classLink RL 15 "java/lang/IllegalArgumentException") (List.mem_of_getElem? (i := 1) rfl)) (va_Nw.use rfl (hE.2.2.1 _ (List.mem_of_getElem? (i := 5) rfl))) hce hcv hcl ?_
  refine lv_astore_n (lv' := [(2, .ref q9), (0, .ref o), (1, .int w)]) hx hb dL_reflected_6 rfl hl (by decide) rfl (fun ls hl => ?_)
  refine lv_ldc hx hb hown (hts (.constant RL 17 (-900001)) (List.mem_of_getElem? (i := 3) rfl)) dL_reflected_7 ?_
  exact W.iret (v := (-900001)) hx hb hr (fun t9 ht hW => ⟨⟨_, (), rfl, rfl, trivial⟩, hS.F ht⟩) hS.2.2 dL_reflected_9

set_option maxHeartbeats 4000000 in
set_option maxRecDepth 100000 in
/-- words: IOB -/
theorem w_words_bad (l : Launch) (dC : Nat → ClassId) (dI : Nat → Nat → Nat) (sz : Nat) (cI cC : ClassId) (o a0 a1 a2 : Nat) (tc : Int32) (nc : Nat) (ad : Nat → Option Nat) (k : Nat) (hfl : l.stackTraces = false) (hk : nc ≤ k) (hk2 : k < 2 ^ 30) : Met l yL_words wsL_words ({ frames := 8, cells := 1, slots := 6, locals := 134 }) (va_Pc [.ref o, .int (nI k)] (zPcX (dC, dI) [(o, .inr (6, [.ref a0, .int tc, .ref a1, .int (nI nc), .null, .int 40, .int 48, .int 0, .ref a2])), (a1, .inl (cC, 4, .inr (.inr (.inr (.inr ad)))))] [(cI, .int), (cC, (.object RX0))] sz)) (va_Qi (fun (r : Int32) (_ : Unit) => r = (-900001)) (fun _ _ => True) (zq sz)) 1 6 (zq sz) := by
  refine va_MetW (cc := cL_words) (maxL := 3) (ret := (some .int)) (hh := [(0, 5, 6, 33)]) (by decide) rfl ?_
  intro p e s m args below meth c s₁ B hml hv
  obtain ⟨rfl, hsz, hP, hK, hE⟩ := hv
  have hx := B.exec
  have hb := B.bytes
  have hr := B.returns
  have hts := atoms_spec (ws := wsL_words) B.pre
  have hown : s.vm.findClass RL = some m.cls := findClass_of_methodNamed B.named
  have hlocks := B.notSynchronized
  subst hsz
  have htab : c.exceptionTable.toList = tableOf [(0, 5, 6, 33)] := vx_table (x := yL_words) B (hts _ (List.mem_of_getElem? (i := 0) rfl))
  have hA : ∀ q : Nat, s.heap.size ≤ q → zq s.heap.size q := fun q h => h
  have hS : va_S (zq s.heap.size) s.heap s.heap [] := va_S.rf
  have hl := lv_entry ([.ref o, .int (nI k)]) (n := 3) (Nat.le_of_ble_eq_true rfl)
  rw [lg_entry_eq]
  generalize (lg_sl ([.ref o, .int (nI k)]) ++ List.replicate (3 - (lg_sl ([.ref o, .int (nI k)])).length) Slot.unset).toArray = ls at hl ⊢
  have hl : lv_has ls 3 [(0, .ref o), (1, .int (nI k))] := hl
  refine lv_aload_n hx hb dL_words_0 rfl (lv_at hl 0 rfl) ?_
  refine lv_iload_n hx hb dL_words_1 rfl (lv_at hl 1 rfl) ?_
  refine z_callx (vx_runV (As := [.int (nI k)]) (rest := []) ⟨hx, hb, hml, hown, hts⟩ (x_words l dC dI s.heap.size cI cC o a0 a1 a2 tc nc ad k hfl hk hk2) (cwV 1 hts gL_words_X6_words rfl rfl rfl (by decide +kernel) ⟨Nat.le_of_ble_eq_true rfl, Nat.le_of_ble_eq_true rfl⟩) ⟨zfbX, va_recv hK hP (ci := 6) (q0 := 0) rfl rfl, zpreX (hP.sub (ws' := [(o, .inr (6, [.ref a0, .int tc, .ref a1, .int (nI nc), .null, .int 40, .int 48, .int 0, .ref a2])), (a1, .inl (cC, 4, .inr (.inr (.inr (.inr ad)))))]) [0, 1] rfl) (hK.sub (tys' := [(cI, .int), (cC, (.object RX0))]) [0, 1] rfl) hE hS hA⟩ rfl rfl hl.1 rfl (lv_room (Nat.le_of_ble_eq_true rfl)) dL_words_2 ⟨Nat.le_of_ble_eq_true rfl, Nat.le_of_ble_eq_true rfl⟩) hS hA (fun ce q9 H1 locs hz1 hk1 hS hce hcv hcl => ?_)
  refine vx_catch (E := "java/lang/IndexOutOfBoundsException") hown [] ⟨0, 5, 6, 33⟩ [] htab (fun z hz => nomatch hz) rfl (by decide) (hts (.classLink RL 33 "java/lang/IndexOutOfBoundsException") (List.mem_of_getElem? (i := 1) rfl)) (va_Nw.use rfl (hE.2.2.1 _ (List.mem_of_getElem? (i := 7) rfl))) hce hcv hcl ?_
  refine lv_astore_n (lv' := [(2, .ref q9), (0, .ref o), (1, .int (nI k))]) hx hb dL_words_6 rfl hl (by decide) rfl (fun ls hl => ?_)
  refine lv_ldc hx hb hown (hts (.constant RL 17 (-900001)) (List.mem_of_getElem? (i := 2) rfl)) dL_words_7 ?_
  exact W.iret (v := (-900001)) hx hb hr (fun t9 ht hW => ⟨⟨_, (), rfl, rfl, trivial⟩, hS.F ht⟩) hS.2.2 dL_words_9

set_option maxHeartbeats 4000000 in
set_option maxRecDepth 100000 in
/-- word: IAE -/
theorem w_word_bad (l : Launch) (dC : Nat → ClassId) (dI : Nat → Nat → Nat) (sz : Nat) (cI cC : ClassId) (o a0 a1 a2 : Nat) (tc : Int32) (nc : Nat) (ad : Nat → Option Nat) (h0 h1 h2 n T : Nat) (f g : Nat → Int32) (k j : Nat) (hfl : l.stackTraces = false) (hk : k < nc) (hc4 : nc ≤ 4) (had : ad k = some h0) (hjn : n ≤ j) (hj : j < 2 ^ 31) : Met l yL_word wsL_word ({ frames := 7, cells := 1, slots := 6, locals := 114 }) (va_Pc [.ref o, .int (nI k), .int (nI j)] (zPcX (dC, dI) [(o, .inr (6, [.ref a0, .int tc, .ref a1, .int (nI nc), .null, .int 40, .int 48, .int 0, .ref a2])), (a1, .inl (cC, 4, .inr (.inr (.inr (.inr ad))))), (h0, .inr (0, [.ref h1, .int (nI T), .ref h2])), (h1, .inl (cI, n, .inl f)), (h2, .inl (cI, 256, .inl g))] [(cI, .int), (cC, (.object RX0))] sz)) (va_Qi (fun (r : Int32) (_ : Unit) => r = (-900002)) (fun _ _ => True) (zq sz)) 1 6 (zq sz) := by
  refine va_MetW (cc := cL_word) (maxL := 4) (ret := (some .int)) (hh := [(0, 6, 7, 33), (0, 6, 11, 15)]) (by decide) rfl ?_
  intro p e s m args below meth c s₁ B hml hv
  obtain ⟨rfl, hsz, hP, hK, hE⟩ := hv
  have hx := B.exec
  have hb := B.bytes
  have hr := B.returns
  have hts := atoms_spec (ws := wsL_word) B.pre
  have hown : s.vm.findClass RL = some m.cls := findClass_of_methodNamed B.named
  have hlocks := B.notSynchronized
  subst hsz
  have htab : c.exceptionTable.toList = tableOf [(0, 6, 7, 33), (0, 6, 11, 15)] := vx_table (x := yL_word) B (hts _ (List.mem_of_getElem? (i := 0) rfl))
  have hA : ∀ q : Nat, s.heap.size ≤ q → zq s.heap.size q := fun q h => h
  have hS : va_S (zq s.heap.size) s.heap s.heap [] := va_S.rf
  have hl := lv_entry ([.ref o, .int (nI k), .int (nI j)]) (n := 4) (Nat.le_of_ble_eq_true rfl)
  rw [lg_entry_eq]
  generalize (lg_sl ([.ref o, .int (nI k), .int (nI j)]) ++ List.replicate (4 - (lg_sl ([.ref o, .int (nI k), .int (nI j)])).length) Slot.unset).toArray = ls at hl ⊢
  have hl : lv_has ls 4 [(0, .ref o), (1, .int (nI k)), (2, .int (nI j))] := hl
  refine lv_aload_n hx hb dL_word_0 rfl (lv_at hl 0 rfl) ?_
  refine lv_iload_n hx hb dL_word_1 rfl (lv_at hl 1 rfl) ?_
  refine lv_iload_n hx hb dL_word_2 rfl (lv_at hl 2 rfl) ?_
  refine z_callx (vx_runV (As := [.int (nI k), .int (nI j)]) (rest := []) ⟨hx, hb, hml, hown, hts⟩ (x_word l dC dI s.heap.size cI cC o a0 a1 a2 tc nc ad h0 h1 h2 n T f g k j hfl hk hc4 had hjn hj) (cwV 2 hts gL_word_X6_word rfl rfl rfl (by decide +kernel) ⟨Nat.le_of_ble_eq_true rfl, Nat.le_of_ble_eq_true rfl⟩) ⟨zfbX, va_recv hK hP (ci := 6) (q0 := 0) rfl rfl, zpreX (hP.sub (ws' := [(o, .inr (6, [.ref a0, .int tc, .ref a1, .int (nI nc), .null, .int 40, .int 48, .int 0, .ref a2])), (a1, .inl (cC, 4, .inr (.inr (.inr (.inr ad))))), (h0, .inr (0, [.ref h1, .int (nI T), .ref h2])), (h1, .inl (cI, n, .inl f)), (h2, .inl (cI, 256, .inl g))]) [0, 1, 2, 3, 4] rfl) (hK.sub (tys' := [(cI, .int), (cC, (.object RX0))]) [0, 1] rfl) hE hS hA⟩ rfl rfl hl.1 rfl (lv_room (Nat.le_of_ble_eq_true rfl)) dL_word_3 ⟨Nat.le_of_ble_eq_true rfl, Nat.le_of_ble_eq_true rfl⟩) hS hA (fun ce q9 H1 locs hz1 hk1 hS hce hcv hcl => ?_)
  refine vx_catch (E := "java/lang/IllegalArgumentException") hown [⟨0, 6, 7, 33⟩] ⟨0, 6, 11, 15⟩ [] htab (fun z hz => (List.mem_cons.mp hz).elim (fun q => by rw [q]; exact Or.inr ⟨(by decide : (33 : Nat) ≠ 0), "java/lang/IndexOutOfBoundsException", (hts (.classLink RL 33 "java/lang/IndexOutOfBoundsException") (List.mem_of_getElem? (i := 1) rfl)), hE.2.2.2 _ (List.mem_of_getElem? (i := 0) rfl)⟩) (fun hz => nomatch hz)) rfl (by decide) (hts (.classLink RL 15 "java/lang/IllegalArgumentException") (List.mem_of_getElem? (i := 2) rfl)) (va_Nw.use rfl (hE.2.2.1 _ (List.mem_of_getElem? (i := 5) rfl))) hce hcv hcl ?_
  refine lv_astore_n (lv' := [(3, .ref q9), (0, .ref o), (1, .int (nI k)), (2, .int (nI j))]) hx hb dL_word_11 rfl hl (by decide) rfl (fun ls hl => ?_)
  refine lv_ldc hx hb hown (hts (.constant RL 20 (-900002)) (List.mem_of_getElem? (i := 4) rfl)) dL_word_12 ?_
  exact W.iret (v := (-900002)) hx hb hr (fun t9 ht hW => ⟨⟨_, (), rfl, rfl, trivial⟩, hS.F ht⟩) hS.2.2 dL_word_14

set_option maxHeartbeats 4000000 in
set_option maxRecDepth 100000 in
/-- place: NSE -/
theorem w_place_none (l : Launch) (dC : Nat → ClassId) (dI : Nat → Nat → Nat) (sz : Nat) (cI cC : ClassId) (o a0 a1 a2 : Nat) (tc : Int32) (nc : Nat) (ad : Nat → Option Nat) (h0 h1 h2 n T : Nat) (f g : Nat → Int32) (k j : Nat) (hfl : l.stackTraces = false) (hk : k < nc) (hc4 : nc ≤ 4) (had : ad k = some h0) (hj : j < 256) (hg : g j = -1) : Met l yL_place wsL_place ({ frames := 7, cells := 1, slots := 6, locals := 114 }) (va_Pc [.ref o, .int (nI k), .int (nI j)] (zPcX (dC, dI) [(o, .inr (6, [.ref a0, .int tc, .ref a1, .int (nI nc), .null, .int 40, .int 48, .int 0, .ref a2])), (a1, .inl (cC, 4, .inr (.inr (.inr (.inr ad))))), (h0, .inr (0, [.ref h1, .int (nI T), .ref h2])), (h1, .inl (cI, n, .inl f)), (h2, .inl (cI, 256, .inl g))] [(cI, .int), (cC, (.object RX0))] sz)) (va_Qi (fun (r : Int32) (_ : Unit) => r = (-900003)) (fun _ _ => True) (zq sz)) 1 6 (zq sz) := by
  refine va_MetW (cc := cL_place) (maxL := 4) (ret := (some .int)) (hh := [(0, 6, 7, 33), (0, 6, 11, 15), (0, 6, 15, 45)]) (by decide) rfl ?_
  intro p e s m args below meth c s₁ B hml hv
  obtain ⟨rfl, hsz, hP, hK, hE⟩ := hv
  have hx := B.exec
  have hb := B.bytes
  have hr := B.returns
  have hts := atoms_spec (ws := wsL_place) B.pre
  have hown : s.vm.findClass RL = some m.cls := findClass_of_methodNamed B.named
  have hlocks := B.notSynchronized
  subst hsz
  have htab : c.exceptionTable.toList = tableOf [(0, 6, 7, 33), (0, 6, 11, 15), (0, 6, 15, 45)] := vx_table (x := yL_place) B (hts _ (List.mem_of_getElem? (i := 0) rfl))
  have hA : ∀ q : Nat, s.heap.size ≤ q → zq s.heap.size q := fun q h => h
  have hS : va_S (zq s.heap.size) s.heap s.heap [] := va_S.rf
  have hl := lv_entry ([.ref o, .int (nI k), .int (nI j)]) (n := 4) (Nat.le_of_ble_eq_true rfl)
  rw [lg_entry_eq]
  generalize (lg_sl ([.ref o, .int (nI k), .int (nI j)]) ++ List.replicate (4 - (lg_sl ([.ref o, .int (nI k), .int (nI j)])).length) Slot.unset).toArray = ls at hl ⊢
  have hl : lv_has ls 4 [(0, .ref o), (1, .int (nI k)), (2, .int (nI j))] := hl
  refine lv_aload_n hx hb dL_place_0 rfl (lv_at hl 0 rfl) ?_
  refine lv_iload_n hx hb dL_place_1 rfl (lv_at hl 1 rfl) ?_
  refine lv_iload_n hx hb dL_place_2 rfl (lv_at hl 2 rfl) ?_
  refine z_callx (vx_runV (As := [.int (nI k), .int (nI j)]) (rest := []) ⟨hx, hb, hml, hown, hts⟩ (x_place2 l dC dI s.heap.size cI cC o a0 a1 a2 tc nc ad h0 h1 h2 n T f g k j hfl hk hc4 had hj hg) (cwV 2 hts gL_place_X6_place rfl rfl rfl (by decide +kernel) ⟨Nat.le_of_ble_eq_true rfl, Nat.le_of_ble_eq_true rfl⟩) ⟨zfbX, va_recv hK hP (ci := 6) (q0 := 0) rfl rfl, zpreX (hP.sub (ws' := [(o, .inr (6, [.ref a0, .int tc, .ref a1, .int (nI nc), .null, .int 40, .int 48, .int 0, .ref a2])), (a1, .inl (cC, 4, .inr (.inr (.inr (.inr ad))))), (h0, .inr (0, [.ref h1, .int (nI T), .ref h2])), (h1, .inl (cI, n, .inl f)), (h2, .inl (cI, 256, .inl g))]) [0, 1, 2, 3, 4] rfl) (hK.sub (tys' := [(cI, .int), (cC, (.object RX0))]) [0, 1] rfl) hE hS hA⟩ rfl rfl hl.1 rfl (lv_room (Nat.le_of_ble_eq_true rfl)) dL_place_3 ⟨Nat.le_of_ble_eq_true rfl, Nat.le_of_ble_eq_true rfl⟩) hS hA (fun ce q9 H1 locs hz1 hk1 hS hce hcv hcl => ?_)
  refine vx_catch (E := "java/util/NoSuchElementException") hown [⟨0, 6, 7, 33⟩, ⟨0, 6, 11, 15⟩] ⟨0, 6, 15, 45⟩ [] htab (fun z hz => (List.mem_cons.mp hz).elim (fun q => by rw [q]; exact Or.inr ⟨(by decide : (33 : Nat) ≠ 0), "java/lang/IndexOutOfBoundsException", (hts (.classLink RL 33 "java/lang/IndexOutOfBoundsException") (List.mem_of_getElem? (i := 1) rfl)), hE.2.2.2 _ (List.mem_of_getElem? (i := 1) rfl)⟩) (fun hz => (List.mem_cons.mp hz).elim (fun q => by rw [q]; exact Or.inr ⟨(by decide : (15 : Nat) ≠ 0), "java/lang/IllegalArgumentException", (hts (.classLink RL 15 "java/lang/IllegalArgumentException") (List.mem_of_getElem? (i := 2) rfl)), hE.2.2.2 _ (List.mem_of_getElem? (i := 2) rfl)⟩) (fun hz => nomatch hz))) rfl (by decide) (hts (.classLink RL 45 "java/util/NoSuchElementException") (List.mem_of_getElem? (i := 3) rfl)) (va_Nw.use rfl (hE.2.2.1 _ (List.mem_of_getElem? (i := 8) rfl))) hce hcv hcl ?_
  refine lv_astore_n (lv' := [(3, .ref q9), (0, .ref o), (1, .int (nI k)), (2, .int (nI j))]) hx hb dL_place_15 rfl hl (by decide) rfl (fun ls hl => ?_)
  refine lv_ldc hx hb hown (hts (.constant RL 47 (-900003)) (List.mem_of_getElem? (i := 6) rfl)) dL_place_16 ?_
  exact W.iret (v := (-900003)) hx hb hr (fun t9 ht hW => ⟨⟨_, (), rfl, rfl, trivial⟩, hS.F ht⟩) hS.2.2 dL_place_18

set_option maxHeartbeats 4000000 in
set_option maxRecDepth 100000 in
/-- place: IOB -/
theorem w_place_bad (l : Launch) (dC : Nat → ClassId) (dI : Nat → Nat → Nat) (sz : Nat) (cI cC : ClassId) (o a0 a1 a2 : Nat) (tc : Int32) (nc : Nat) (ad : Nat → Option Nat) (k : Nat) (w : Int32) (hfl : l.stackTraces = false) (hk : nc ≤ k) (hk2 : k < 2 ^ 30) : Met l yL_place wsL_place ({ frames := 8, cells := 1, slots := 6, locals := 136 }) (va_Pc [.ref o, .int (nI k), .int w] (zPcX (dC, dI) [(o, .inr (6, [.ref a0, .int tc, .ref a1, .int (nI nc), .null, .int 40, .int 48, .int 0, .ref a2])), (a1, .inl (cC, 4, .inr (.inr (.inr (.inr ad)))))] [(cI, .int), (cC, (.object RX0))] sz)) (va_Qi (fun (r : Int32) (_ : Unit) => r = (-900001)) (fun _ _ => True) (zq sz)) 1 6 (zq sz) := by
  refine va_MetW (cc := cL_place) (maxL := 4) (ret := (some .int)) (hh := [(0, 6, 7, 33), (0, 6, 11, 15), (0, 6, 15, 45)]) (by decide) rfl ?_
  intro p e s m args below meth c s₁ B hml hv
  obtain ⟨rfl, hsz, hP, hK, hE⟩ := hv
  have hx := B.exec
  have hb := B.bytes
  have hr := B.returns
  have hts := atoms_spec (ws := wsL_place) B.pre
  have hown : s.vm.findClass RL = some m.cls := findClass_of_methodNamed B.named
  have hlocks := B.notSynchronized
  subst hsz
  have htab : c.exceptionTable.toList = tableOf [(0, 6, 7, 33), (0, 6, 11, 15), (0, 6, 15, 45)] := vx_table (x := yL_place) B (hts _ (List.mem_of_getElem? (i := 0) rfl))
  have hA : ∀ q : Nat, s.heap.size ≤ q → zq s.heap.size q := fun q h => h
  have hS : va_S (zq s.heap.size) s.heap s.heap [] := va_S.rf
  have hl := lv_entry ([.ref o, .int (nI k), .int w]) (n := 4) (Nat.le_of_ble_eq_true rfl)
  rw [lg_entry_eq]
  generalize (lg_sl ([.ref o, .int (nI k), .int w]) ++ List.replicate (4 - (lg_sl ([.ref o, .int (nI k), .int w])).length) Slot.unset).toArray = ls at hl ⊢
  have hl : lv_has ls 4 [(0, .ref o), (1, .int (nI k)), (2, .int w)] := hl
  refine lv_aload_n hx hb dL_place_0 rfl (lv_at hl 0 rfl) ?_
  refine lv_iload_n hx hb dL_place_1 rfl (lv_at hl 1 rfl) ?_
  refine lv_iload_n hx hb dL_place_2 rfl (lv_at hl 2 rfl) ?_
  refine z_callx (vx_runV (As := [.int (nI k), .int w]) (rest := []) ⟨hx, hb, hml, hown, hts⟩ (x_place l dC dI s.heap.size cI cC o a0 a1 a2 tc nc ad k w hfl hk hk2) (cwV 2 hts gL_place_X6_place rfl rfl rfl (by decide +kernel) ⟨Nat.le_of_ble_eq_true rfl, Nat.le_of_ble_eq_true rfl⟩) ⟨zfbX, va_recv hK hP (ci := 6) (q0 := 0) rfl rfl, zpreX (hP.sub (ws' := [(o, .inr (6, [.ref a0, .int tc, .ref a1, .int (nI nc), .null, .int 40, .int 48, .int 0, .ref a2])), (a1, .inl (cC, 4, .inr (.inr (.inr (.inr ad)))))]) [0, 1] rfl) (hK.sub (tys' := [(cI, .int), (cC, (.object RX0))]) [0, 1] rfl) hE hS hA⟩ rfl rfl hl.1 rfl (lv_room (Nat.le_of_ble_eq_true rfl)) dL_place_3 ⟨Nat.le_of_ble_eq_true rfl, Nat.le_of_ble_eq_true rfl⟩) hS hA (fun ce q9 H1 locs hz1 hk1 hS hce hcv hcl => ?_)
  refine vx_catch (E := "java/lang/IndexOutOfBoundsException") hown [] ⟨0, 6, 7, 33⟩ [⟨0, 6, 11, 15⟩, ⟨0, 6, 15, 45⟩] htab (fun z hz => nomatch hz) rfl (by decide) (hts (.classLink RL 33 "java/lang/IndexOutOfBoundsException") (List.mem_of_getElem? (i := 1) rfl)) (va_Nw.use rfl (hE.2.2.1 _ (List.mem_of_getElem? (i := 7) rfl))) hce hcv hcl ?_
  refine lv_astore_n (lv' := [(3, .ref q9), (0, .ref o), (1, .int (nI k)), (2, .int w)]) hx hb dL_place_7 rfl hl (by decide) rfl (fun ls hl => ?_)
  refine lv_ldc hx hb hown (hts (.constant RL 17 (-900001)) (List.mem_of_getElem? (i := 4) rfl)) dL_place_8 ?_
  exact W.iret (v := (-900001)) hx hb hr (fun t9 ht hW => ⟨⟨_, (), rfl, rfl, trivial⟩, hS.F ht⟩) hS.2.2 dL_place_10

set_option maxHeartbeats 4000000 in
set_option maxRecDepth 100000 in
/-- changes: IAE -/
theorem w_changes_bad (l : Launch) (dC : Nat → ClassId) (dI : Nat → Nat → Nat) (sz : Nat) (cI cC : ClassId) (o a0 a1 a2 : Nat) (tc : Int32) (nc : Nat) (ad : Nat → Option Nat) (h0 h1 h2 n T : Nat) (f g : Nat → Int32) (k t : Nat) (hfl : l.stackTraces = false) (hk : k < nc) (hc4 : nc ≤ 4) (had : ad k = some h0) (htT : T ≤ t) (ht2 : t < 2 ^ 31) : Met l yL_changes wsL_changes ({ frames := 7, cells := 1, slots := 6, locals := 114 }) (va_Pc [.ref o, .int (nI k), .int (nI t)] (zPcX (dC, dI) [(o, .inr (6, [.ref a0, .int tc, .ref a1, .int (nI nc), .null, .int 40, .int 48, .int 0, .ref a2])), (a1, .inl (cC, 4, .inr (.inr (.inr (.inr ad))))), (h0, .inr (0, [.ref h1, .int (nI T), .ref h2])), (h1, .inl (cI, n, .inl f)), (h2, .inl (cI, 256, .inl g))] [(cI, .int), (cC, (.object RX0))] sz)) (va_Qi (fun (r : Int32) (_ : Unit) => r = (-900002)) (fun _ _ => True) (zq sz)) 1 6 (zq sz) := by
  refine va_MetW (cc := cL_changes) (maxL := 4) (ret := (some .int)) (hh := [(0, 6, 7, 33), (0, 6, 11, 15)]) (by decide) rfl ?_
  intro p e s m args below meth c s₁ B hml hv
  obtain ⟨rfl, hsz, hP, hK, hE⟩ := hv
  have hx := B.exec
  have hb := B.bytes
  have hr := B.returns
  have hts := atoms_spec (ws := wsL_changes) B.pre
  have hown : s.vm.findClass RL = some m.cls := findClass_of_methodNamed B.named
  have hlocks := B.notSynchronized
  subst hsz
  have htab : c.exceptionTable.toList = tableOf [(0, 6, 7, 33), (0, 6, 11, 15)] := vx_table (x := yL_changes) B (hts _ (List.mem_of_getElem? (i := 0) rfl))
  have hA : ∀ q : Nat, s.heap.size ≤ q → zq s.heap.size q := fun q h => h
  have hS : va_S (zq s.heap.size) s.heap s.heap [] := va_S.rf
  have hl := lv_entry ([.ref o, .int (nI k), .int (nI t)]) (n := 4) (Nat.le_of_ble_eq_true rfl)
  rw [lg_entry_eq]
  generalize (lg_sl ([.ref o, .int (nI k), .int (nI t)]) ++ List.replicate (4 - (lg_sl ([.ref o, .int (nI k), .int (nI t)])).length) Slot.unset).toArray = ls at hl ⊢
  have hl : lv_has ls 4 [(0, .ref o), (1, .int (nI k)), (2, .int (nI t))] := hl
  refine lv_aload_n hx hb dL_changes_0 rfl (lv_at hl 0 rfl) ?_
  refine lv_iload_n hx hb dL_changes_1 rfl (lv_at hl 1 rfl) ?_
  refine lv_iload_n hx hb dL_changes_2 rfl (lv_at hl 2 rfl) ?_
  refine z_callx (vx_runV (As := [.int (nI k), .int (nI t)]) (rest := []) ⟨hx, hb, hml, hown, hts⟩ (x_changes l dC dI s.heap.size cI cC o a0 a1 a2 tc nc ad h0 h1 h2 n T f g k t hfl hk hc4 had htT ht2) (cwV 2 hts gL_changes_X6_changes rfl rfl rfl (by decide +kernel) ⟨Nat.le_of_ble_eq_true rfl, Nat.le_of_ble_eq_true rfl⟩) ⟨zfbX, va_recv hK hP (ci := 6) (q0 := 0) rfl rfl, zpreX (hP.sub (ws' := [(o, .inr (6, [.ref a0, .int tc, .ref a1, .int (nI nc), .null, .int 40, .int 48, .int 0, .ref a2])), (a1, .inl (cC, 4, .inr (.inr (.inr (.inr ad))))), (h0, .inr (0, [.ref h1, .int (nI T), .ref h2])), (h1, .inl (cI, n, .inl f)), (h2, .inl (cI, 256, .inl g))]) [0, 1, 2, 3, 4] rfl) (hK.sub (tys' := [(cI, .int), (cC, (.object RX0))]) [0, 1] rfl) hE hS hA⟩ rfl rfl hl.1 rfl (lv_room (Nat.le_of_ble_eq_true rfl)) dL_changes_3 ⟨Nat.le_of_ble_eq_true rfl, Nat.le_of_ble_eq_true rfl⟩) hS hA (fun ce q9 H1 locs hz1 hk1 hS hce hcv hcl => ?_)
  refine vx_catch (E := "java/lang/IllegalArgumentException") hown [⟨0, 6, 7, 33⟩] ⟨0, 6, 11, 15⟩ [] htab (fun z hz => (List.mem_cons.mp hz).elim (fun q => by rw [q]; exact Or.inr ⟨(by decide : (33 : Nat) ≠ 0), "java/lang/IndexOutOfBoundsException", (hts (.classLink RL 33 "java/lang/IndexOutOfBoundsException") (List.mem_of_getElem? (i := 1) rfl)), hE.2.2.2 _ (List.mem_of_getElem? (i := 0) rfl)⟩) (fun hz => nomatch hz)) rfl (by decide) (hts (.classLink RL 15 "java/lang/IllegalArgumentException") (List.mem_of_getElem? (i := 2) rfl)) (va_Nw.use rfl (hE.2.2.1 _ (List.mem_of_getElem? (i := 5) rfl))) hce hcv hcl ?_
  refine lv_astore_n (lv' := [(3, .ref q9), (0, .ref o), (1, .int (nI k)), (2, .int (nI t))]) hx hb dL_changes_11 rfl hl (by decide) rfl (fun ls hl => ?_)
  refine lv_ldc hx hb hown (hts (.constant RL 20 (-900002)) (List.mem_of_getElem? (i := 4) rfl)) dL_changes_12 ?_
  exact W.iret (v := (-900002)) hx hb hr (fun t9 ht hW => ⟨⟨_, (), rfl, rfl, trivial⟩, hS.F ht⟩) hS.2.2 dL_changes_14

set_option maxHeartbeats 4000000 in
set_option maxRecDepth 100000 in
/-- setDisc: IOB -/
theorem w_setDisc_bad (l : Launch) (dC : Nat → ClassId) (dI : Nat → Nat → Nat) (sz : Nat) (cI cC : ClassId) (o a0 a1 a2 : Nat) (tc : Int32) (nc : Nat) (ad : Nat → Option Nat) (k : Nat) (w : Int32) (hfl : l.stackTraces = false) (hk : nc ≤ k) (hk2 : k < 2 ^ 30) : Met l yL_setDisc wsL_setDisc ({ frames := 8, cells := 1, slots := 6, locals := 136 }) (va_Pc [.ref o, .int (nI k), .int w] (zPcX (dC, dI) [(o, .inr (6, [.ref a0, .int tc, .ref a1, .int (nI nc), .null, .int 40, .int 48, .int 0, .ref a2])), (a1, .inl (cC, 4, .inr (.inr (.inr (.inr ad)))))] [(cI, .int), (cC, (.object RX0))] sz)) (va_Qi (fun (r : Int32) (_ : Unit) => r = (-900001)) (fun _ _ => True) (zq sz)) 1 6 (zq sz) := by
  refine va_MetW (cc := cL_setDisc) (maxL := 4) (ret := (some .int)) (hh := [(0, 6, 7, 33), (0, 6, 11, 15)]) (by decide) rfl ?_
  intro p e s m args below meth c s₁ B hml hv
  obtain ⟨rfl, hsz, hP, hK, hE⟩ := hv
  have hx := B.exec
  have hb := B.bytes
  have hr := B.returns
  have hts := atoms_spec (ws := wsL_setDisc) B.pre
  have hown : s.vm.findClass RL = some m.cls := findClass_of_methodNamed B.named
  have hlocks := B.notSynchronized
  subst hsz
  have htab : c.exceptionTable.toList = tableOf [(0, 6, 7, 33), (0, 6, 11, 15)] := vx_table (x := yL_setDisc) B (hts _ (List.mem_of_getElem? (i := 0) rfl))
  have hA : ∀ q : Nat, s.heap.size ≤ q → zq s.heap.size q := fun q h => h
  have hS : va_S (zq s.heap.size) s.heap s.heap [] := va_S.rf
  have hl := lv_entry ([.ref o, .int (nI k), .int w]) (n := 4) (Nat.le_of_ble_eq_true rfl)
  rw [lg_entry_eq]
  generalize (lg_sl ([.ref o, .int (nI k), .int w]) ++ List.replicate (4 - (lg_sl ([.ref o, .int (nI k), .int w])).length) Slot.unset).toArray = ls at hl ⊢
  have hl : lv_has ls 4 [(0, .ref o), (1, .int (nI k)), (2, .int w)] := hl
  refine lv_aload_n hx hb dL_setDisc_0 rfl (lv_at hl 0 rfl) ?_
  refine lv_iload_n hx hb dL_setDisc_1 rfl (lv_at hl 1 rfl) ?_
  refine lv_iload_n hx hb dL_setDisc_2 rfl (lv_at hl 2 rfl) ?_
  refine z_callx (vx_runV (As := [.int (nI k), .int w]) (rest := []) ⟨hx, hb, hml, hown, hts⟩ (x_setDisc l dC dI s.heap.size cI cC o a0 a1 a2 tc nc ad k w hfl hk hk2) (cwV 2 hts gL_setDisc_X6_setDisc rfl rfl rfl (by decide +kernel) ⟨Nat.le_of_ble_eq_true rfl, Nat.le_of_ble_eq_true rfl⟩) ⟨zfbX, va_recv hK hP (ci := 6) (q0 := 0) rfl rfl, zpreX (hP.sub (ws' := [(o, .inr (6, [.ref a0, .int tc, .ref a1, .int (nI nc), .null, .int 40, .int 48, .int 0, .ref a2])), (a1, .inl (cC, 4, .inr (.inr (.inr (.inr ad)))))]) [0, 1] rfl) (hK.sub (tys' := [(cI, .int), (cC, (.object RX0))]) [0, 1] rfl) hE hS hA⟩ rfl rfl hl.1 rfl (lv_room (Nat.le_of_ble_eq_true rfl)) dL_setDisc_3 ⟨Nat.le_of_ble_eq_true rfl, Nat.le_of_ble_eq_true rfl⟩) hS hA (fun ce q9 H1 locs hz1 hk1 hS hce hcv hcl => ?_)
  refine vx_catch (E := "java/lang/IndexOutOfBoundsException") hown [] ⟨0, 6, 7, 33⟩ [⟨0, 6, 11, 15⟩] htab (fun z hz => nomatch hz) rfl (by decide) (hts (.classLink RL 33 "java/lang/IndexOutOfBoundsException") (List.mem_of_getElem? (i := 1) rfl)) (va_Nw.use rfl (hE.2.2.1 _ (List.mem_of_getElem? (i := 7) rfl))) hce hcv hcl ?_
  refine lv_astore_n (lv' := [(3, .ref q9), (0, .ref o), (1, .int (nI k)), (2, .int w)]) hx hb dL_setDisc_7 rfl hl (by decide) rfl (fun ls hl => ?_)
  refine lv_ldc hx hb hown (hts (.constant RL 17 (-900001)) (List.mem_of_getElem? (i := 3) rfl)) dL_setDisc_8 ?_
  exact W.iret (v := (-900001)) hx hb hr (fun t9 ht hW => ⟨⟨_, (), rfl, rfl, trivial⟩, hS.F ht⟩) hS.2.2 dL_setDisc_10

set_option maxHeartbeats 4000000 in
set_option maxRecDepth 100000 in
/-- setDisc: IAE -/
theorem w_setDisc_bad2 (l : Launch) (dC : Nat → ClassId) (dI : Nat → Nat → Nat) (sz : Nat) (cI cC : ClassId) (o a0 a1 a2 : Nat) (tc : Int32) (nc : Nat) (ad : Nat → Option Nat) (h0 h1 h2 n T : Nat) (f g : Nat → Int32) (k : Nat) (hfl : l.stackTraces = false) (hk : k < nc) (hc4 : nc ≤ 4) (had : ad k = some h0) : Met l yL_setDisc wsL_setDisc ({ frames := 7, cells := 1, slots := 6, locals := 114 }) (va_Pc [.ref o, .int (nI k), .int 41] (zPcX (dC, dI) [(o, .inr (6, [.ref a0, .int tc, .ref a1, .int (nI nc), .null, .int 40, .int 48, .int 0, .ref a2])), (a1, .inl (cC, 4, .inr (.inr (.inr (.inr ad))))), (h0, .inr (0, [.ref h1, .int (nI T), .ref h2])), (h1, .inl (cI, n, .inl f)), (h2, .inl (cI, 256, .inl g))] [(cI, .int), (cC, (.object RX0))] sz)) (va_Qi (fun (r : Int32) (_ : Unit) => r = (-900002)) (fun _ _ => True) (zq sz)) 1 6 (zq sz) := by
  refine va_MetW (cc := cL_setDisc) (maxL := 4) (ret := (some .int)) (hh := [(0, 6, 7, 33), (0, 6, 11, 15)]) (by decide) rfl ?_
  intro p e s m args below meth c s₁ B hml hv
  obtain ⟨rfl, hsz, hP, hK, hE⟩ := hv
  have hx := B.exec
  have hb := B.bytes
  have hr := B.returns
  have hts := atoms_spec (ws := wsL_setDisc) B.pre
  have hown : s.vm.findClass RL = some m.cls := findClass_of_methodNamed B.named
  have hlocks := B.notSynchronized
  subst hsz
  have htab : c.exceptionTable.toList = tableOf [(0, 6, 7, 33), (0, 6, 11, 15)] := vx_table (x := yL_setDisc) B (hts _ (List.mem_of_getElem? (i := 0) rfl))
  have hA : ∀ q : Nat, s.heap.size ≤ q → zq s.heap.size q := fun q h => h
  have hS : va_S (zq s.heap.size) s.heap s.heap [] := va_S.rf
  have hl := lv_entry ([.ref o, .int (nI k), .int 41]) (n := 4) (Nat.le_of_ble_eq_true rfl)
  rw [lg_entry_eq]
  generalize (lg_sl ([.ref o, .int (nI k), .int 41]) ++ List.replicate (4 - (lg_sl ([.ref o, .int (nI k), .int 41])).length) Slot.unset).toArray = ls at hl ⊢
  have hl : lv_has ls 4 [(0, .ref o), (1, .int (nI k)), (2, .int 41)] := hl
  refine lv_aload_n hx hb dL_setDisc_0 rfl (lv_at hl 0 rfl) ?_
  refine lv_iload_n hx hb dL_setDisc_1 rfl (lv_at hl 1 rfl) ?_
  refine lv_iload_n hx hb dL_setDisc_2 rfl (lv_at hl 2 rfl) ?_
  refine z_callx (vx_runV (As := [.int (nI k), .int 41]) (rest := []) ⟨hx, hb, hml, hown, hts⟩ (x_setDisc2 l dC dI s.heap.size cI cC o a0 a1 a2 tc nc ad h0 h1 h2 n T f g k hfl hk hc4 had) (cwV 2 hts gL_setDisc_X6_setDisc rfl rfl rfl (by decide +kernel) ⟨Nat.le_of_ble_eq_true rfl, Nat.le_of_ble_eq_true rfl⟩) ⟨zfbX, va_recv hK hP (ci := 6) (q0 := 0) rfl rfl, zpreX (hP.sub (ws' := [(o, .inr (6, [.ref a0, .int tc, .ref a1, .int (nI nc), .null, .int 40, .int 48, .int 0, .ref a2])), (a1, .inl (cC, 4, .inr (.inr (.inr (.inr ad))))), (h0, .inr (0, [.ref h1, .int (nI T), .ref h2])), (h1, .inl (cI, n, .inl f)), (h2, .inl (cI, 256, .inl g))]) [0, 1, 2, 3, 4] rfl) (hK.sub (tys' := [(cI, .int), (cC, (.object RX0))]) [0, 1] rfl) hE hS hA⟩ rfl rfl hl.1 rfl (lv_room (Nat.le_of_ble_eq_true rfl)) dL_setDisc_3 ⟨Nat.le_of_ble_eq_true rfl, Nat.le_of_ble_eq_true rfl⟩) hS hA (fun ce q9 H1 locs hz1 hk1 hS hce hcv hcl => ?_)
  refine vx_catch (E := "java/lang/IllegalArgumentException") hown [⟨0, 6, 7, 33⟩] ⟨0, 6, 11, 15⟩ [] htab (fun z hz => (List.mem_cons.mp hz).elim (fun q => by rw [q]; exact Or.inr ⟨(by decide : (33 : Nat) ≠ 0), "java/lang/IndexOutOfBoundsException", (hts (.classLink RL 33 "java/lang/IndexOutOfBoundsException") (List.mem_of_getElem? (i := 1) rfl)), hE.2.2.2 _ (List.mem_of_getElem? (i := 0) rfl)⟩) (fun hz => nomatch hz)) rfl (by decide) (hts (.classLink RL 15 "java/lang/IllegalArgumentException") (List.mem_of_getElem? (i := 2) rfl)) (va_Nw.use rfl (hE.2.2.1 _ (List.mem_of_getElem? (i := 5) rfl))) hce hcv hcl ?_
  refine lv_astore_n (lv' := [(3, .ref q9), (0, .ref o), (1, .int (nI k)), (2, .int 41)]) hx hb dL_setDisc_11 rfl hl (by decide) rfl (fun ls hl => ?_)
  refine lv_ldc hx hb hown (hts (.constant RL 20 (-900002)) (List.mem_of_getElem? (i := 4) rfl)) dL_setDisc_12 ?_
  exact W.iret (v := (-900002)) hx hb hr (fun t9 ht hW => ⟨⟨_, (), rfl, rfl, trivial⟩, hS.F ht⟩) hS.2.2 dL_setDisc_14

set_option maxHeartbeats 4000000 in
set_option maxRecDepth 100000 in
/-- angle: UOE -/
theorem w_angle_bad (l : Launch) (dC : Nat → ClassId) (dI : Nat → Nat → Nat) (sz : Nat) (cI cC : ClassId) (o a0 a1 a2 : Nat) (tc : Int32) (nc : Nat) (ad : Nat → Option Nat) (hfl : l.stackTraces = false) : Met l yL_angle wsL_angle ({ frames := 8, cells := 1, slots := 6, locals := 134 }) (va_Pc [.ref o] (zPcX (dC, dI) [(o, .inr (6, [.ref a0, .int tc, .ref a1, .int (nI nc), .null, .int 40, .int 48, .int 0, .ref a2]))] [(cI, .int), (cC, (.object RX0))] sz)) (va_Qi (fun (r : Int32) (_ : Unit) => r = (-900001)) (fun _ _ => True) (zq sz)) 1 6 (zq sz) := by
  refine va_MetW (cc := cL_angle) (maxL := 2) (ret := (some .int)) (hh := [(0, 4, 5, 25)]) (by decide) rfl ?_
  intro p e s m args below meth c s₁ B hml hv
  obtain ⟨rfl, hsz, hP, hK, hE⟩ := hv
  have hx := B.exec
  have hb := B.bytes
  have hr := B.returns
  have hts := atoms_spec (ws := wsL_angle) B.pre
  have hown : s.vm.findClass RL = some m.cls := findClass_of_methodNamed B.named
  have hlocks := B.notSynchronized
  subst hsz
  have htab : c.exceptionTable.toList = tableOf [(0, 4, 5, 25)] := vx_table (x := yL_angle) B (hts _ (List.mem_of_getElem? (i := 0) rfl))
  have hA : ∀ q : Nat, s.heap.size ≤ q → zq s.heap.size q := fun q h => h
  have hS : va_S (zq s.heap.size) s.heap s.heap [] := va_S.rf
  have hl := lv_entry ([.ref o]) (n := 2) (Nat.le_of_ble_eq_true rfl)
  rw [lg_entry_eq]
  generalize (lg_sl ([.ref o]) ++ List.replicate (2 - (lg_sl ([.ref o])).length) Slot.unset).toArray = ls at hl ⊢
  have hl : lv_has ls 2 [(0, .ref o)] := hl
  refine lv_aload_n hx hb dL_angle_0 rfl (lv_at hl 0 rfl) ?_
  refine z_callx (vx_runV (As := []) (rest := []) ⟨hx, hb, hml, hown, hts⟩ (x_angle l dC dI s.heap.size cI cC o a0 a1 a2 tc nc ad hfl) (cwV 0 hts gL_angle_X6_angle rfl rfl rfl (by decide +kernel) ⟨Nat.le_of_ble_eq_true rfl, Nat.le_of_ble_eq_true rfl⟩) ⟨zfbX, va_recv hK hP (ci := 6) (q0 := 0) rfl rfl, zpreX (hP.sub (ws' := [(o, .inr (6, [.ref a0, .int tc, .ref a1, .int (nI nc), .null, .int 40, .int 48, .int 0, .ref a2]))]) [0] rfl) (hK.sub (tys' := [(cI, .int), (cC, (.object RX0))]) [0, 1] rfl) hE hS hA⟩ rfl rfl hl.1 rfl (lv_room (Nat.le_of_ble_eq_true rfl)) dL_angle_1 ⟨Nat.le_of_ble_eq_true rfl, Nat.le_of_ble_eq_true rfl⟩) hS hA (fun ce q9 H1 locs hz1 hk1 hS hce hcv hcl => ?_)
  refine vx_catch (E := "java/lang/UnsupportedOperationException") hown [] ⟨0, 4, 5, 25⟩ [] htab (fun z hz => nomatch hz) rfl (by decide) (hts (.classLink RL 25 "java/lang/UnsupportedOperationException") (List.mem_of_getElem? (i := 1) rfl)) (va_Nw.use rfl (hE.2.2.1 _ (List.mem_of_getElem? (i := 6) rfl))) hce hcv hcl ?_
  refine lv_astore_n (lv' := [(1, .ref q9), (0, .ref o)]) hx hb dL_angle_5 rfl hl (by decide) rfl (fun ls hl => ?_)
  refine lv_ldc hx hb hown (hts (.constant RL 17 (-900001)) (List.mem_of_getElem? (i := 2) rfl)) dL_angle_6 ?_
  exact W.iret (v := (-900001)) hx hb hr (fun t9 ht hW => ⟨⟨_, (), rfl, rfl, trivial⟩, hS.F ht⟩) hS.2.2 dL_angle_8

set_option maxHeartbeats 4000000 in
set_option maxRecDepth 100000 in
/-- turn: UOE -/
theorem w_turn_bad (l : Launch) (dC : Nat → ClassId) (dI : Nat → Nat → Nat) (sz : Nat) (cI cC : ClassId) (o a0 a1 a2 : Nat) (tc : Int32) (nc : Nat) (ad : Nat → Option Nat) (w : Int32) (hfl : l.stackTraces = false) : Met l yL_turn wsL_turn ({ frames := 8, cells := 1, slots := 6, locals := 136 }) (va_Pc [.ref o, .int w] (zPcX (dC, dI) [(o, .inr (6, [.ref a0, .int tc, .ref a1, .int (nI nc), .null, .int 40, .int 48, .int 0, .ref a2]))] [(cI, .int), (cC, (.object RX0))] sz)) (va_Qi (fun (r : Int32) (_ : Unit) => r = (-900001)) (fun _ _ => True) (zq sz)) 1 6 (zq sz) := by
  refine va_MetW (cc := cL_turn) (maxL := 3) (ret := (some .int)) (hh := [(0, 5, 6, 25), (0, 5, 10, 15)]) (by decide) rfl ?_
  intro p e s m args below meth c s₁ B hml hv
  obtain ⟨rfl, hsz, hP, hK, hE⟩ := hv
  have hx := B.exec
  have hb := B.bytes
  have hr := B.returns
  have hts := atoms_spec (ws := wsL_turn) B.pre
  have hown : s.vm.findClass RL = some m.cls := findClass_of_methodNamed B.named
  have hlocks := B.notSynchronized
  subst hsz
  have htab : c.exceptionTable.toList = tableOf [(0, 5, 6, 25), (0, 5, 10, 15)] := vx_table (x := yL_turn) B (hts _ (List.mem_of_getElem? (i := 0) rfl))
  have hA : ∀ q : Nat, s.heap.size ≤ q → zq s.heap.size q := fun q h => h
  have hS : va_S (zq s.heap.size) s.heap s.heap [] := va_S.rf
  have hl := lv_entry ([.ref o, .int w]) (n := 3) (Nat.le_of_ble_eq_true rfl)
  rw [lg_entry_eq]
  generalize (lg_sl ([.ref o, .int w]) ++ List.replicate (3 - (lg_sl ([.ref o, .int w])).length) Slot.unset).toArray = ls at hl ⊢
  have hl : lv_has ls 3 [(0, .ref o), (1, .int w)] := hl
  refine lv_aload_n hx hb dL_turn_0 rfl (lv_at hl 0 rfl) ?_
  refine lv_iload_n hx hb dL_turn_1 rfl (lv_at hl 1 rfl) ?_
  refine z_callx (vx_runV (As := [.int w]) (rest := []) ⟨hx, hb, hml, hown, hts⟩ (x_turn l dC dI s.heap.size cI cC o a0 a1 a2 tc nc ad w hfl) (cwV 1 hts gL_turn_X6_turn rfl rfl rfl (by decide +kernel) ⟨Nat.le_of_ble_eq_true rfl, Nat.le_of_ble_eq_true rfl⟩) ⟨zfbX, va_recv hK hP (ci := 6) (q0 := 0) rfl rfl, zpreX (hP.sub (ws' := [(o, .inr (6, [.ref a0, .int tc, .ref a1, .int (nI nc), .null, .int 40, .int 48, .int 0, .ref a2]))]) [0] rfl) (hK.sub (tys' := [(cI, .int), (cC, (.object RX0))]) [0, 1] rfl) hE hS hA⟩ rfl rfl hl.1 rfl (lv_room (Nat.le_of_ble_eq_true rfl)) dL_turn_2 ⟨Nat.le_of_ble_eq_true rfl, Nat.le_of_ble_eq_true rfl⟩) hS hA (fun ce q9 H1 locs hz1 hk1 hS hce hcv hcl => ?_)
  refine vx_catch (E := "java/lang/UnsupportedOperationException") hown [] ⟨0, 5, 6, 25⟩ [⟨0, 5, 10, 15⟩] htab (fun z hz => nomatch hz) rfl (by decide) (hts (.classLink RL 25 "java/lang/UnsupportedOperationException") (List.mem_of_getElem? (i := 1) rfl)) (va_Nw.use rfl (hE.2.2.1 _ (List.mem_of_getElem? (i := 6) rfl))) hce hcv hcl ?_
  refine lv_astore_n (lv' := [(2, .ref q9), (0, .ref o), (1, .int w)]) hx hb dL_turn_6 rfl hl (by decide) rfl (fun ls hl => ?_)
  refine lv_ldc hx hb hown (hts (.constant RL 17 (-900001)) (List.mem_of_getElem? (i := 3) rfl)) dL_turn_7 ?_
  exact W.iret (v := (-900001)) hx hb hr (fun t9 ht hW => ⟨⟨_, (), rfl, rfl, trivial⟩, hS.F ht⟩) hS.2.2 dL_turn_9

set_option maxHeartbeats 4000000 in
set_option maxRecDepth 100000 in
/-- words -/
theorem w_words (l : Launch) (dC : Nat → ClassId) (dI : Nat → Nat → Nat) (sz : Nat) (cI cC : ClassId) (o a0 a1 a2 : Nat) (tc : Int32) (nc : Nat) (ad : Nat → Option Nat) (h0 h1 h2 n T : Nat) (f g : Nat → Int32) (k : Nat) (hk : k < nc) (hc4 : nc ≤ 4) (had : ad k = some h0) : Met l yL_words wsL_words ({ frames := 3, cells := 0, slots := 0, locals := 66 }) (va_Pc [.ref o, .int (nI k)] (zPc (dC, dI) [(o, .inr (6, [.ref a0, .int tc, .ref a1, .int (nI nc), .null, .int 40, .int 48, .int 0, .ref a2])), (a1, .inl (cC, 4, .inr (.inr (.inr (.inr ad))))), (h0, .inr (0, [.ref h1, .int (nI T), .ref h2])), (h1, .inl (cI, n, .inl f)), (h2, .inl (cI, 256, .inl g))] [(cI, .int), (cC, (.object RX0))] sz)) (va_Qi (fun (r : Int32) (_ : Unit) => r = nI n) (fun _ _ => True) (zq sz)) 0 0 (zq sz) := by
  refine va_MetW (cc := cL_words) (maxL := 3) (ret := (some .int)) (hh := [(0, 5, 6, 33)]) (by decide) rfl ?_
  intro p e s m args below meth c s₁ B hml hv
  obtain ⟨rfl, hsz, hP, hK⟩ := hv
  have hx := B.exec
  have hb := B.bytes
  have hr := B.returns
  have hts := atoms_spec (ws := wsL_words) B.pre
  have hown : s.vm.findClass RL = some m.cls := findClass_of_methodNamed B.named
  have hlocks := B.notSynchronized
  subst hsz
  have htab : c.exceptionTable.toList = tableOf [(0, 5, 6, 33)] := vx_table (x := yL_words) B (hts _ (List.mem_of_getElem? (i := 0) rfl))
  have hA : ∀ q : Nat, s.heap.size ≤ q → zq s.heap.size q := fun q h => h
  have hS : va_S (zq s.heap.size) s.heap s.heap [] := va_S.rf
  have hl := lv_entry ([.ref o, .int (nI k)]) (n := 3) (Nat.le_of_ble_eq_true rfl)
  rw [lg_entry_eq]
  generalize (lg_sl ([.ref o, .int (nI k)]) ++ List.replicate (3 - (lg_sl ([.ref o, .int (nI k)])).length) Slot.unset).toArray = ls at hl ⊢
  have hl : lv_has ls 3 [(0, .ref o), (1, .int (nI k))] := hl
  refine lv_aload_n hx hb dL_words_0 rfl (lv_at hl 0 rfl) ?_
  refine lv_iload_n hx hb dL_words_1 rfl (lv_at hl 1 rfl) ?_
  refine va_calli (va_runV (As := [.int (nI k)]) (rest := []) ⟨hx, hb, hml, hown, hts⟩ (k_words l dC dI s.heap.size cI cC o a0 a1 a2 tc nc ad h0 h1 h2 n T f g k hk hc4 had) (cwV 1 hts gL_words_X6_words rfl rfl rfl (by decide +kernel) ⟨Nat.le_of_ble_eq_true rfl, Nat.le_of_ble_eq_true rfl⟩) ⟨zfb, va_recv hK hP (ci := 6) (q0 := 0) rfl rfl, zpre (hP.sub (ws' := [(o, .inr (6, [.ref a0, .int tc, .ref a1, .int (nI nc), .null, .int 40, .int 48, .int 0, .ref a2])), (a1, .inl (cC, 4, .inr (.inr (.inr (.inr ad))))), (h0, .inr (0, [.ref h1, .int (nI T), .ref h2])), (h1, .inl (cI, n, .inl f)), (h2, .inl (cI, 256, .inl g))]) [0, 1, 2, 3, 4] rfl) (hK.sub (tys' := [(cI, .int), (cC, (.object RX0))]) [0, 1] rfl)⟩ rfl rfl hl.1 rfl (lv_room (Nat.le_of_ble_eq_true rfl)) dL_words_2 ⟨Nat.le_of_ble_eq_true rfl, Nat.le_of_ble_eq_true rfl⟩) hS (fun q h1 h2 => absurd h2 (Nat.not_le.mpr h1)) (fun q h => hA q (Nat.le_trans hS.1 h)) (fun r9 u9 t9 H1 locs ht hvm hw hB hz1 hk1 hS => ?_)
  have hw : r9 = nI n := hw
  subst hw
  have hP := zr_keep hP hk1
  clear hk1 hz1 hB ht hvm hw
  exact W.iret (v := (nI n)) hx hb hr (fun t9 ht hW => ⟨⟨_, (), rfl, rfl, trivial⟩, hS.F ht⟩) hS.2.2 dL_words_5

set_option maxHeartbeats 4000000 in
set_option maxRecDepth 100000 in
/-- tracks -/
theorem w_tracks (l : Launch) (dC : Nat → ClassId) (dI : Nat → Nat → Nat) (sz : Nat) (cI cC : ClassId) (o a0 a1 a2 : Nat) (tc : Int32) (nc : Nat) (ad : Nat → Option Nat) (h0 h1 h2 n T : Nat) (f g : Nat → Int32) (k : Nat) (hk : k < nc) (hc4 : nc ≤ 4) (had : ad k = some h0) : Met l yL_tracks wsL_tracks ({ frames := 3, cells := 0, slots := 0, locals := 66 }) (va_Pc [.ref o, .int (nI k)] (zPc (dC, dI) [(o, .inr (6, [.ref a0, .int tc, .ref a1, .int (nI nc), .null, .int 40, .int 48, .int 0, .ref a2])), (a1, .inl (cC, 4, .inr (.inr (.inr (.inr ad))))), (h0, .inr (0, [.ref h1, .int (nI T), .ref h2])), (h1, .inl (cI, n, .inl f)), (h2, .inl (cI, 256, .inl g))] [(cI, .int), (cC, (.object RX0))] sz)) (va_Qi (fun (r : Int32) (_ : Unit) => r = nI T) (fun _ _ => True) (zq sz)) 0 0 (zq sz) := by
  refine va_MetW (cc := cL_tracks) (maxL := 3) (ret := (some .int)) (hh := [(0, 5, 6, 33)]) (by decide) rfl ?_
  intro p e s m args below meth c s₁ B hml hv
  obtain ⟨rfl, hsz, hP, hK⟩ := hv
  have hx := B.exec
  have hb := B.bytes
  have hr := B.returns
  have hts := atoms_spec (ws := wsL_tracks) B.pre
  have hown : s.vm.findClass RL = some m.cls := findClass_of_methodNamed B.named
  have hlocks := B.notSynchronized
  subst hsz
  have htab : c.exceptionTable.toList = tableOf [(0, 5, 6, 33)] := vx_table (x := yL_tracks) B (hts _ (List.mem_of_getElem? (i := 0) rfl))
  have hA : ∀ q : Nat, s.heap.size ≤ q → zq s.heap.size q := fun q h => h
  have hS : va_S (zq s.heap.size) s.heap s.heap [] := va_S.rf
  have hl := lv_entry ([.ref o, .int (nI k)]) (n := 3) (Nat.le_of_ble_eq_true rfl)
  rw [lg_entry_eq]
  generalize (lg_sl ([.ref o, .int (nI k)]) ++ List.replicate (3 - (lg_sl ([.ref o, .int (nI k)])).length) Slot.unset).toArray = ls at hl ⊢
  have hl : lv_has ls 3 [(0, .ref o), (1, .int (nI k))] := hl
  refine lv_aload_n hx hb dL_tracks_0 rfl (lv_at hl 0 rfl) ?_
  refine lv_iload_n hx hb dL_tracks_1 rfl (lv_at hl 1 rfl) ?_
  refine va_calli (va_runV (As := [.int (nI k)]) (rest := []) ⟨hx, hb, hml, hown, hts⟩ (k_tracks l dC dI s.heap.size cI cC o a0 a1 a2 tc nc ad h0 h1 h2 n T f g k hk hc4 had) (cwV 1 hts gL_tracks_X6_tracks rfl rfl rfl (by decide +kernel) ⟨Nat.le_of_ble_eq_true rfl, Nat.le_of_ble_eq_true rfl⟩) ⟨zfb, va_recv hK hP (ci := 6) (q0 := 0) rfl rfl, zpre (hP.sub (ws' := [(o, .inr (6, [.ref a0, .int tc, .ref a1, .int (nI nc), .null, .int 40, .int 48, .int 0, .ref a2])), (a1, .inl (cC, 4, .inr (.inr (.inr (.inr ad))))), (h0, .inr (0, [.ref h1, .int (nI T), .ref h2])), (h1, .inl (cI, n, .inl f)), (h2, .inl (cI, 256, .inl g))]) [0, 1, 2, 3, 4] rfl) (hK.sub (tys' := [(cI, .int), (cC, (.object RX0))]) [0, 1] rfl)⟩ rfl rfl hl.1 rfl (lv_room (Nat.le_of_ble_eq_true rfl)) dL_tracks_2 ⟨Nat.le_of_ble_eq_true rfl, Nat.le_of_ble_eq_true rfl⟩) hS (fun q h1 h2 => absurd h2 (Nat.not_le.mpr h1)) (fun q h => hA q (Nat.le_trans hS.1 h)) (fun r9 u9 t9 H1 locs ht hvm hw hB hz1 hk1 hS => ?_)
  have hw : r9 = nI T := hw
  subst hw
  have hP := zr_keep hP hk1
  clear hk1 hz1 hB ht hvm hw
  exact W.iret (v := (nI T)) hx hb hr (fun t9 ht hW => ⟨⟨_, (), rfl, rfl, trivial⟩, hS.F ht⟩) hS.2.2 dL_tracks_5

set_option maxHeartbeats 4000000 in
set_option maxRecDepth 100000 in
/-- word -/
theorem w_word (l : Launch) (dC : Nat → ClassId) (dI : Nat → Nat → Nat) (sz : Nat) (cI cC : ClassId) (o a0 a1 a2 : Nat) (tc : Int32) (nc : Nat) (ad : Nat → Option Nat) (h0 h1 h2 n T : Nat) (f g : Nat → Int32) (k j : Nat) (hk : k < nc) (hc4 : nc ≤ 4) (had : ad k = some h0) (hjn : j < n) (hn : n < 2 ^ 31) : Met l yL_word wsL_word ({ frames := 3, cells := 0, slots := 0, locals := 68 }) (va_Pc [.ref o, .int (nI k), .int (nI j)] (zPc (dC, dI) [(o, .inr (6, [.ref a0, .int tc, .ref a1, .int (nI nc), .null, .int 40, .int 48, .int 0, .ref a2])), (a1, .inl (cC, 4, .inr (.inr (.inr (.inr ad))))), (h0, .inr (0, [.ref h1, .int (nI T), .ref h2])), (h1, .inl (cI, n, .inl f)), (h2, .inl (cI, 256, .inl g))] [(cI, .int), (cC, (.object RX0))] sz)) (va_Qi (fun (r : Int32) (_ : Unit) => r = f j) (fun _ _ => True) (zq sz)) 0 0 (zq sz) := by
  refine va_MetW (cc := cL_word) (maxL := 4) (ret := (some .int)) (hh := [(0, 6, 7, 33), (0, 6, 11, 15)]) (by decide) rfl ?_
  intro p e s m args below meth c s₁ B hml hv
  obtain ⟨rfl, hsz, hP, hK⟩ := hv
  have hx := B.exec
  have hb := B.bytes
  have hr := B.returns
  have hts := atoms_spec (ws := wsL_word) B.pre
  have hown : s.vm.findClass RL = some m.cls := findClass_of_methodNamed B.named
  have hlocks := B.notSynchronized
  subst hsz
  have htab : c.exceptionTable.toList = tableOf [(0, 6, 7, 33), (0, 6, 11, 15)] := vx_table (x := yL_word) B (hts _ (List.mem_of_getElem? (i := 0) rfl))
  have hA : ∀ q : Nat, s.heap.size ≤ q → zq s.heap.size q := fun q h => h
  have hS : va_S (zq s.heap.size) s.heap s.heap [] := va_S.rf
  have hl := lv_entry ([.ref o, .int (nI k), .int (nI j)]) (n := 4) (Nat.le_of_ble_eq_true rfl)
  rw [lg_entry_eq]
  generalize (lg_sl ([.ref o, .int (nI k), .int (nI j)]) ++ List.replicate (4 - (lg_sl ([.ref o, .int (nI k), .int (nI j)])).length) Slot.unset).toArray = ls at hl ⊢
  have hl : lv_has ls 4 [(0, .ref o), (1, .int (nI k)), (2, .int (nI j))] := hl
  refine lv_aload_n hx hb dL_word_0 rfl (lv_at hl 0 rfl) ?_
  refine lv_iload_n hx hb dL_word_1 rfl (lv_at hl 1 rfl) ?_
  refine lv_iload_n hx hb dL_word_2 rfl (lv_at hl 2 rfl) ?_
  refine va_calli (va_runV (As := [.int (nI k), .int (nI j)]) (rest := []) ⟨hx, hb, hml, hown, hts⟩ (k_word l dC dI s.heap.size cI cC o a0 a1 a2 tc nc ad h0 h1 h2 n T f g k j hk hc4 had hjn hn) (cwV 2 hts gL_word_X6_word rfl rfl rfl (by decide +kernel) ⟨Nat.le_of_ble_eq_true rfl, Nat.le_of_ble_eq_true rfl⟩) ⟨zfb, va_recv hK hP (ci := 6) (q0 := 0) rfl rfl, zpre (hP.sub (ws' := [(o, .inr (6, [.ref a0, .int tc, .ref a1, .int (nI nc), .null, .int 40, .int 48, .int 0, .ref a2])), (a1, .inl (cC, 4, .inr (.inr (.inr (.inr ad))))), (h0, .inr (0, [.ref h1, .int (nI T), .ref h2])), (h1, .inl (cI, n, .inl f)), (h2, .inl (cI, 256, .inl g))]) [0, 1, 2, 3, 4] rfl) (hK.sub (tys' := [(cI, .int), (cC, (.object RX0))]) [0, 1] rfl)⟩ rfl rfl hl.1 rfl (lv_room (Nat.le_of_ble_eq_true rfl)) dL_word_3 ⟨Nat.le_of_ble_eq_true rfl, Nat.le_of_ble_eq_true rfl⟩) hS (fun q h1 h2 => absurd h2 (Nat.not_le.mpr h1)) (fun q h => hA q (Nat.le_trans hS.1 h)) (fun r9 u9 t9 H1 locs ht hvm hw hB hz1 hk1 hS => ?_)
  have hw : r9 = f j := hw
  subst hw
  have hP := zr_keep hP hk1
  clear hk1 hz1 hB ht hvm hw
  exact W.iret (v := (f j)) hx hb hr (fun t9 ht hW => ⟨⟨_, (), rfl, rfl, trivial⟩, hS.F ht⟩) hS.2.2 dL_word_6

set_option maxHeartbeats 4000000 in
set_option maxRecDepth 100000 in
/-- place -/
theorem w_place (l : Launch) (dC : Nat → ClassId) (dI : Nat → Nat → Nat) (sz : Nat) (cI cC : ClassId) (o a0 a1 a2 : Nat) (tc : Int32) (nc : Nat) (ad : Nat → Option Nat) (h0 h1 h2 n T : Nat) (f g : Nat → Int32) (k j : Nat) (hk : k < nc) (hc4 : nc ≤ 4) (had : ad k = some h0) (hj : j < 256) (hg : ¬ g j = -1) : Met l yL_place wsL_place ({ frames := 3, cells := 0, slots := 0, locals := 68 }) (va_Pc [.ref o, .int (nI k), .int (nI j)] (zPc (dC, dI) [(o, .inr (6, [.ref a0, .int tc, .ref a1, .int (nI nc), .null, .int 40, .int 48, .int 0, .ref a2])), (a1, .inl (cC, 4, .inr (.inr (.inr (.inr ad))))), (h0, .inr (0, [.ref h1, .int (nI T), .ref h2])), (h1, .inl (cI, n, .inl f)), (h2, .inl (cI, 256, .inl g))] [(cI, .int), (cC, (.object RX0))] sz)) (va_Qi (fun (r : Int32) (_ : Unit) => r = g j) (fun _ _ => True) (zq sz)) 0 0 (zq sz) := by
  refine va_MetW (cc := cL_place) (maxL := 4) (ret := (some .int)) (hh := [(0, 6, 7, 33), (0, 6, 11, 15), (0, 6, 15, 45)]) (by decide) rfl ?_
  intro p e s m args below meth c s₁ B hml hv
  obtain ⟨rfl, hsz, hP, hK⟩ := hv
  have hx := B.exec
  have hb := B.bytes
  have hr := B.returns
  have hts := atoms_spec (ws := wsL_place) B.pre
  have hown : s.vm.findClass RL = some m.cls := findClass_of_methodNamed B.named
  have hlocks := B.notSynchronized
  subst hsz
  have htab : c.exceptionTable.toList = tableOf [(0, 6, 7, 33), (0, 6, 11, 15), (0, 6, 15, 45)] := vx_table (x := yL_place) B (hts _ (List.mem_of_getElem? (i := 0) rfl))
  have hA : ∀ q : Nat, s.heap.size ≤ q → zq s.heap.size q := fun q h => h
  have hS : va_S (zq s.heap.size) s.heap s.heap [] := va_S.rf
  have hl := lv_entry ([.ref o, .int (nI k), .int (nI j)]) (n := 4) (Nat.le_of_ble_eq_true rfl)
  rw [lg_entry_eq]
  generalize (lg_sl ([.ref o, .int (nI k), .int (nI j)]) ++ List.replicate (4 - (lg_sl ([.ref o, .int (nI k), .int (nI j)])).length) Slot.unset).toArray = ls at hl ⊢
  have hl : lv_has ls 4 [(0, .ref o), (1, .int (nI k)), (2, .int (nI j))] := hl
  refine lv_aload_n hx hb dL_place_0 rfl (lv_at hl 0 rfl) ?_
  refine lv_iload_n hx hb dL_place_1 rfl (lv_at hl 1 rfl) ?_
  refine lv_iload_n hx hb dL_place_2 rfl (lv_at hl 2 rfl) ?_
  refine va_calli (va_runV (As := [.int (nI k), .int (nI j)]) (rest := []) ⟨hx, hb, hml, hown, hts⟩ (k_place l dC dI s.heap.size cI cC o a0 a1 a2 tc nc ad h0 h1 h2 n T f g k j hk hc4 had hj hg) (cwV 2 hts gL_place_X6_place rfl rfl rfl (by decide +kernel) ⟨Nat.le_of_ble_eq_true rfl, Nat.le_of_ble_eq_true rfl⟩) ⟨zfb, va_recv hK hP (ci := 6) (q0 := 0) rfl rfl, zpre (hP.sub (ws' := [(o, .inr (6, [.ref a0, .int tc, .ref a1, .int (nI nc), .null, .int 40, .int 48, .int 0, .ref a2])), (a1, .inl (cC, 4, .inr (.inr (.inr (.inr ad))))), (h0, .inr (0, [.ref h1, .int (nI T), .ref h2])), (h1, .inl (cI, n, .inl f)), (h2, .inl (cI, 256, .inl g))]) [0, 1, 2, 3, 4] rfl) (hK.sub (tys' := [(cI, .int), (cC, (.object RX0))]) [0, 1] rfl)⟩ rfl rfl hl.1 rfl (lv_room (Nat.le_of_ble_eq_true rfl)) dL_place_3 ⟨Nat.le_of_ble_eq_true rfl, Nat.le_of_ble_eq_true rfl⟩) hS (fun q h1 h2 => absurd h2 (Nat.not_le.mpr h1)) (fun q h => hA q (Nat.le_trans hS.1 h)) (fun r9 u9 t9 H1 locs ht hvm hw hB hz1 hk1 hS => ?_)
  have hw : r9 = g j := hw
  subst hw
  have hP := zr_keep hP hk1
  clear hk1 hz1 hB ht hvm hw
  exact W.iret (v := (g j)) hx hb hr (fun t9 ht hW => ⟨⟨_, (), rfl, rfl, trivial⟩, hS.F ht⟩) hS.2.2 dL_place_6

set_option maxHeartbeats 4000000 in
set_option maxRecDepth 100000 in
/-- changes -/
theorem w_changes (l : Launch) (dC : Nat → ClassId) (dI : Nat → Nat → Nat) (sz : Nat) (cI cC : ClassId) (o a0 a1 a2 : Nat) (tc : Int32) (nc : Nat) (ad : Nat → Option Nat) (h0 h1 h2 n T : Nat) (f g : Nat → Int32) (k t : Nat) (hk : k < nc) (hc4 : nc ≤ 4) (had : ad k = some h0) (htT : t < T) (hT : T < 2 ^ 31) (hn : n < 2 ^ 30) : Met l yL_changes wsL_changes ({ frames := 5, cells := 0, slots := 0, locals := 112 }) (va_Pc [.ref o, .int (nI k), .int (nI t)] (zPcN (dC, dI) [(o, .inr (6, [.ref a0, .int tc, .ref a1, .int (nI nc), .null, .int 40, .int 48, .int 0, .ref a2])), (a1, .inl (cC, 4, .inr (.inr (.inr (.inr ad))))), (h0, .inr (0, [.ref h1, .int (nI T), .ref h2])), (h1, .inl (cI, n, .inl f)), (h2, .inl (cI, 256, .inl g))] [(cI, .int), (cC, (.object RX0))] sz)) (va_Qi (fun (r : Int32) (_ : Unit) => r = nI (zchg f n t)) (fun _ _ => True) (zq sz)) 0 0 (zq sz) := by
  refine va_MetW (cc := cL_changes) (maxL := 4) (ret := (some .int)) (hh := [(0, 6, 7, 33), (0, 6, 11, 15)]) (by decide) rfl ?_
  intro p e s m args below meth c s₁ B hml hv
  obtain ⟨rfl, hsz, hP, hK, hE⟩ := hv
  have hx := B.exec
  have hb := B.bytes
  have hr := B.returns
  have hts := atoms_spec (ws := wsL_changes) B.pre
  have hown : s.vm.findClass RL = some m.cls := findClass_of_methodNamed B.named
  have hlocks := B.notSynchronized
  subst hsz
  have htab : c.exceptionTable.toList = tableOf [(0, 6, 7, 33), (0, 6, 11, 15)] := vx_table (x := yL_changes) B (hts _ (List.mem_of_getElem? (i := 0) rfl))
  have hA : ∀ q : Nat, s.heap.size ≤ q → zq s.heap.size q := fun q h => h
  have hS : va_S (zq s.heap.size) s.heap s.heap [] := va_S.rf
  have hl := lv_entry ([.ref o, .int (nI k), .int (nI t)]) (n := 4) (Nat.le_of_ble_eq_true rfl)
  rw [lg_entry_eq]
  generalize (lg_sl ([.ref o, .int (nI k), .int (nI t)]) ++ List.replicate (4 - (lg_sl ([.ref o, .int (nI k), .int (nI t)])).length) Slot.unset).toArray = ls at hl ⊢
  have hl : lv_has ls 4 [(0, .ref o), (1, .int (nI k)), (2, .int (nI t))] := hl
  refine lv_aload_n hx hb dL_changes_0 rfl (lv_at hl 0 rfl) ?_
  refine lv_iload_n hx hb dL_changes_1 rfl (lv_at hl 1 rfl) ?_
  refine lv_iload_n hx hb dL_changes_2 rfl (lv_at hl 2 rfl) ?_
  refine va_calli (va_runV (As := [.int (nI k), .int (nI t)]) (rest := []) ⟨hx, hb, hml, hown, hts⟩ (k_changes l dC dI s.heap.size cI cC o a0 a1 a2 tc nc ad h0 h1 h2 n T f g k t hk hc4 had htT hT hn) (cwV 2 hts gL_changes_X6_changes rfl rfl rfl (by decide +kernel) ⟨Nat.le_of_ble_eq_true rfl, Nat.le_of_ble_eq_true rfl⟩) ⟨zfbN, va_recv hK hP (ci := 6) (q0 := 0) rfl rfl, zpreN (hP.sub (ws' := [(o, .inr (6, [.ref a0, .int tc, .ref a1, .int (nI nc), .null, .int 40, .int 48, .int 0, .ref a2])), (a1, .inl (cC, 4, .inr (.inr (.inr (.inr ad))))), (h0, .inr (0, [.ref h1, .int (nI T), .ref h2])), (h1, .inl (cI, n, .inl f)), (h2, .inl (cI, 256, .inl g))]) [0, 1, 2, 3, 4] rfl) (hK.sub (tys' := [(cI, .int), (cC, (.object RX0))]) [0, 1] rfl) hE⟩ rfl rfl hl.1 rfl (lv_room (Nat.le_of_ble_eq_true rfl)) dL_changes_3 ⟨Nat.le_of_ble_eq_true rfl, Nat.le_of_ble_eq_true rfl⟩) hS (fun q h1 h2 => absurd h2 (Nat.not_le.mpr h1)) (fun q h => hA q (Nat.le_trans hS.1 h)) (fun r9 u9 t9 H1 locs ht hvm hw hB hz1 hk1 hS => ?_)
  have hw : r9 = nI (zchg f n t) := hw
  subst hw
  have hP := zr_keep hP hk1
  clear hk1 hz1 hB ht hvm hw
  exact W.iret (v := (nI (zchg f n t))) hx hb hr (fun t9 ht hW => ⟨⟨_, (), rfl, rfl, trivial⟩, hS.F ht⟩) hS.2.2 dL_changes_6

set_option maxHeartbeats 4000000 in
set_option maxRecDepth 100000 in
/-- isBalanced -/
theorem w_isBalanced (l : Launch) (dC : Nat → ClassId) (dI : Nat → Nat → Nat) (sz : Nat) (cI cC : ClassId) (o a0 a1 a2 : Nat) (tc : Int32) (nc : Nat) (ad : Nat → Option Nat) (h0 h1 h2 n T : Nat) (f g : Nat → Int32) (k : Nat) (hk : k < nc) (hc4 : nc ≤ 4) (had : ad k = some h0) (hn : n < 2 ^ 30) (hT2 : T < 2 ^ 30) : Met l yL_isBalanced wsL_isBalanced ({ frames := 6, cells := 0, slots := 0, locals := 134 }) (va_Pc [.ref o, .int (nI k)] (zPcN (dC, dI) [(o, .inr (6, [.ref a0, .int tc, .ref a1, .int (nI nc), .null, .int 40, .int 48, .int 0, .ref a2])), (a1, .inl (cC, 4, .inr (.inr (.inr (.inr ad))))), (h0, .inr (0, [.ref h1, .int (nI T), .ref h2])), (h1, .inl (cI, n, .inl f)), (h2, .inl (cI, 256, .inl g))] [(cI, .int), (cC, (.object RX0))] sz)) (va_Qi (fun (r : Int32) (_ : Unit) => r = zb (!decide ((2 : Int32) < nI (zhi f n T) - nI (zlo f n T)))) (fun _ _ => True) (zq sz)) 0 0 (zq sz) := by
  refine va_MetW (cc := cL_isBalanced) (maxL := 3) (ret := (some .int)) (hh := [(0, 13, 14, 33)]) (by decide) rfl ?_
  intro p e s m args below meth c s₁ B hml hv
  obtain ⟨rfl, hsz, hP, hK, hE⟩ := hv
  have hx := B.exec
  have hb := B.bytes
  have hr := B.returns
  have hts := atoms_spec (ws := wsL_isBalanced) B.pre
  have hown : s.vm.findClass RL = some m.cls := findClass_of_methodNamed B.named
  have hlocks := B.notSynchronized
  subst hsz
  have htab : c.exceptionTable.toList = tableOf [(0, 13, 14, 33)] := vx_table (x := yL_isBalanced) B (hts _ (List.mem_of_getElem? (i := 0) rfl))
  have hA : ∀ q : Nat, s.heap.size ≤ q → zq s.heap.size q := fun q h => h
  have hS : va_S (zq s.heap.size) s.heap s.heap [] := va_S.rf
  have hl := lv_entry ([.ref o, .int (nI k)]) (n := 3) (Nat.le_of_ble_eq_true rfl)
  rw [lg_entry_eq]
  generalize (lg_sl ([.ref o, .int (nI k)]) ++ List.replicate (3 - (lg_sl ([.ref o, .int (nI k)])).length) Slot.unset).toArray = ls at hl ⊢
  have hl : lv_has ls 3 [(0, .ref o), (1, .int (nI k))] := hl
  refine lv_aload_n hx hb dL_isBalanced_0 rfl (lv_at hl 0 rfl) ?_
  refine lv_iload_n hx hb dL_isBalanced_1 rfl (lv_at hl 1 rfl) ?_
  refine va_calli (va_runV (As := [.int (nI k)]) (rest := []) ⟨hx, hb, hml, hown, hts⟩ (k_isBalanced l dC dI s.heap.size cI cC o a0 a1 a2 tc nc ad h0 h1 h2 n T f g k hk hc4 had hn hT2) (cwV 1 hts gL_isBalanced_X6_isBalanced rfl rfl rfl (by decide +kernel) ⟨Nat.le_of_ble_eq_true rfl, Nat.le_of_ble_eq_true rfl⟩) ⟨zfbN, va_recv hK hP (ci := 6) (q0 := 0) rfl rfl, zpreN (hP.sub (ws' := [(o, .inr (6, [.ref a0, .int tc, .ref a1, .int (nI nc), .null, .int 40, .int 48, .int 0, .ref a2])), (a1, .inl (cC, 4, .inr (.inr (.inr (.inr ad))))), (h0, .inr (0, [.ref h1, .int (nI T), .ref h2])), (h1, .inl (cI, n, .inl f)), (h2, .inl (cI, 256, .inl g))]) [0, 1, 2, 3, 4] rfl) (hK.sub (tys' := [(cI, .int), (cC, (.object RX0))]) [0, 1] rfl) hE⟩ rfl rfl hl.1 rfl (lv_room (Nat.le_of_ble_eq_true rfl)) dL_isBalanced_2 ⟨Nat.le_of_ble_eq_true rfl, Nat.le_of_ble_eq_true rfl⟩) hS (fun q h1 h2 => absurd h2 (Nat.not_le.mpr h1)) (fun q h => hA q (Nat.le_trans hS.1 h)) (fun r9 u9 t9 H1 locs ht hvm hw hB hz1 hk1 hS => ?_)
  have hw : r9 = zb (!decide ((2 : Int32) < nI (zhi f n T) - nI (zlo f n T))) := hw
  subst hw
  have hP := zr_keep hP hk1
  clear hk1 hz1 hB ht hvm hw
  refine lv_if_eq (tgt := 12) hx hb dL_isBalanced_5 (by decide) (fun c5 => ?_) (fun c5 => ?_)
  · skip
    have e5 := zb_0.mp c5
    refine lv_iconst (v := 0) hx hb dL_isBalanced_12 (by decide) ?_
    exact W.iret (v := 0) hx hb hr (fun t9 ht hW => ⟨⟨_, (), rfl, by rw [e5]; rfl, trivial⟩, hS.F ht⟩) hS.2.2 dL_isBalanced_13
  · skip
    have e5 := zb_n0.mp c5
    refine lv_iconst (v := 1) hx hb dL_isBalanced_8 (by decide) ?_
    refine lv_goto (tgt := 13) hx hb dL_isBalanced_9 (by decide) ?_
    exact W.iret (v := 1) hx hb hr (fun t9 ht hW => ⟨⟨_, (), rfl, by rw [e5]; rfl, trivial⟩, hS.F ht⟩) hS.2.2 dL_isBalanced_13

set_option maxHeartbeats 4000000 in
set_option maxRecDepth 100000 in
/-- isOneTrack -/
theorem w_isOneTrack (l : Launch) (dC : Nat → ClassId) (dI : Nat → Nat → Nat) (sz : Nat) (cI cC : ClassId) (o a0 a1 a2 : Nat) (tc : Int32) (nc : Nat) (ad : Nat → Option Nat) (h0 h1 h2 n T : Nat) (f g : Nat → Int32) (k : Nat) (hk : k < nc) (hc4 : nc ≤ 4) (had : ad k = some h0) (hn : n < 2 ^ 30) (hT : 1 ≤ T) (hT2 : T < 2 ^ 30) : Met l yL_isOneTrack wsL_isOneTrack ({ frames := 7, cells := 0, slots := 0, locals := 152 }) (va_Pc [.ref o, .int (nI k)] (zPcN (dC, dI) [(o, .inr (6, [.ref a0, .int tc, .ref a1, .int (nI nc), .null, .int 40, .int 48, .int 0, .ref a2])), (a1, .inl (cC, 4, .inr (.inr (.inr (.inr ad))))), (h0, .inr (0, [.ref h1, .int (nI T), .ref h2])), (h1, .inl (cI, n, .inl f)), (h2, .inl (cI, 256, .inl g))] [(cI, .int), (cC, (.object RX0))] sz)) (va_Qi (fun (r : Int32) (_ : Unit) => r = zb (zon f n T)) (fun _ _ => True) (zq sz)) 0 0 (zq sz) := by
  refine va_MetW (cc := cL_isOneTrack) (maxL := 3) (ret := (some .int)) (hh := [(0, 13, 14, 33)]) (by decide) rfl ?_
  intro p e s m args below meth c s₁ B hml hv
  obtain ⟨rfl, hsz, hP, hK, hE⟩ := hv
  have hx := B.exec
  have hb := B.bytes
  have hr := B.returns
  have hts := atoms_spec (ws := wsL_isOneTrack) B.pre
  have hown : s.vm.findClass RL = some m.cls := findClass_of_methodNamed B.named
  have hlocks := B.notSynchronized
  subst hsz
  have htab : c.exceptionTable.toList = tableOf [(0, 13, 14, 33)] := vx_table (x := yL_isOneTrack) B (hts _ (List.mem_of_getElem? (i := 0) rfl))
  have hA : ∀ q : Nat, s.heap.size ≤ q → zq s.heap.size q := fun q h => h
  have hS : va_S (zq s.heap.size) s.heap s.heap [] := va_S.rf
  have hl := lv_entry ([.ref o, .int (nI k)]) (n := 3) (Nat.le_of_ble_eq_true rfl)
  rw [lg_entry_eq]
  generalize (lg_sl ([.ref o, .int (nI k)]) ++ List.replicate (3 - (lg_sl ([.ref o, .int (nI k)])).length) Slot.unset).toArray = ls at hl ⊢
  have hl : lv_has ls 3 [(0, .ref o), (1, .int (nI k))] := hl
  refine lv_aload_n hx hb dL_isOneTrack_0 rfl (lv_at hl 0 rfl) ?_
  refine lv_iload_n hx hb dL_isOneTrack_1 rfl (lv_at hl 1 rfl) ?_
  refine va_calli (va_runV (As := [.int (nI k)]) (rest := []) ⟨hx, hb, hml, hown, hts⟩ (k_isOneTrack l dC dI s.heap.size cI cC o a0 a1 a2 tc nc ad h0 h1 h2 n T f g k hk hc4 had hn hT hT2) (cwV 1 hts gL_isOneTrack_X6_isOneTrack rfl rfl rfl (by decide +kernel) ⟨Nat.le_of_ble_eq_true rfl, Nat.le_of_ble_eq_true rfl⟩) ⟨zfbN, va_recv hK hP (ci := 6) (q0 := 0) rfl rfl, zpreN (hP.sub (ws' := [(o, .inr (6, [.ref a0, .int tc, .ref a1, .int (nI nc), .null, .int 40, .int 48, .int 0, .ref a2])), (a1, .inl (cC, 4, .inr (.inr (.inr (.inr ad))))), (h0, .inr (0, [.ref h1, .int (nI T), .ref h2])), (h1, .inl (cI, n, .inl f)), (h2, .inl (cI, 256, .inl g))]) [0, 1, 2, 3, 4] rfl) (hK.sub (tys' := [(cI, .int), (cC, (.object RX0))]) [0, 1] rfl) hE⟩ rfl rfl hl.1 rfl (lv_room (Nat.le_of_ble_eq_true rfl)) dL_isOneTrack_2 ⟨Nat.le_of_ble_eq_true rfl, Nat.le_of_ble_eq_true rfl⟩) hS (fun q h1 h2 => absurd h2 (Nat.not_le.mpr h1)) (fun q h => hA q (Nat.le_trans hS.1 h)) (fun r9 u9 t9 H1 locs ht hvm hw hB hz1 hk1 hS => ?_)
  have hw : r9 = zb (zon f n T) := hw
  subst hw
  have hP := zr_keep hP hk1
  clear hk1 hz1 hB ht hvm hw
  refine lv_if_eq (tgt := 12) hx hb dL_isOneTrack_5 (by decide) (fun c5 => ?_) (fun c5 => ?_)
  · skip
    have e5 := zb_0.mp c5
    refine lv_iconst (v := 0) hx hb dL_isOneTrack_12 (by decide) ?_
    exact W.iret (v := 0) hx hb hr (fun t9 ht hW => ⟨⟨_, (), rfl, by rw [e5]; rfl, trivial⟩, hS.F ht⟩) hS.2.2 dL_isOneTrack_13
  · skip
    have e5 := zb_n0.mp c5
    refine lv_iconst (v := 1) hx hb dL_isOneTrack_8 (by decide) ?_
    refine lv_goto (tgt := 13) hx hb dL_isOneTrack_9 (by decide) ?_
    exact W.iret (v := 1) hx hb hr (fun t9 ht hW => ⟨⟨_, (), rfl, by rw [e5]; rfl, trivial⟩, hS.F ht⟩) hS.2.2 dL_isOneTrack_13

set_option maxHeartbeats 4000000 in
set_option maxRecDepth 100000 in
/-- type -/
theorem w_type (l : Launch) (dC : Nat → ClassId) (dI : Nat → Nat → Nat) (sz : Nat) (cI cC : ClassId) (o a0 a1 a2 : Nat) (w nc : Nat) (f : Nat → Int32) (v : Int32) (hwm : w < 64) (hv : (decide ((0 : Int32) ≤ v) && decide (v ≤ 255)) = true) : Met l yL_type wsL_type ({ frames := 2, cells := 0, slots := 0, locals := 44 }) (va_Pc [.ref o, .int v] (zPcD (dC, dI) [(o, .inr (6, [.ref a0, .int (nI w), .ref a1, .int (nI nc), .null, .int 40, .int 48, .int 0, .ref a2])), (a0, .inl (cI, 64, .inl f))] [(cI, .int), (cC, (.object RX0))] sz)) (va_Qi (fun (r : Int32) (_ : Unit) => r = nI (w + 1)) (fun u t => va_P (dC, dI) vwCl [(o, .inr (6, [.ref a0, .int (nI (w + 1)), .ref a1, .int (nI nc), .null, .int 40, .int 48, .int 0, .ref a2])), (a0, .inl (cI, 64, .inl (upd f w v)))] t.heap ∧ va_D (va_A [(o, .inr (6, [.ref a0, .int (nI w), .ref a1, .int (nI nc), .null, .int 40, .int 48, .int 0, .ref a2])), (a0, .inl (cI, 64, .inl f))] sz) [(o, .inr (6, [.ref a0, .int (nI (w + 1)), .ref a1, .int (nI nc), .null, .int 40, .int 48, .int 0, .ref a2])), (a0, .inl (cI, 64, .inl (upd f w v)))]) (va_A [(o, .inr (6, [.ref a0, .int (nI w), .ref a1, .int (nI nc), .null, .int 40, .int 48, .int 0, .ref a2])), (a0, .inl (cI, 64, .inl f))] sz)) 0 0 (va_A [(o, .inr (6, [.ref a0, .int (nI w), .ref a1, .int (nI nc), .null, .int 40, .int 48, .int 0, .ref a2])), (a0, .inl (cI, 64, .inl f))] sz) := by
  refine va_MetW (cc := cL_type) (maxL := 3) (ret := (some .int)) (hh := [(0, 5, 6, 15), (0, 5, 10, 18)]) (by decide) rfl ?_
  intro p e s m args below meth c s₁ B hml hv
  obtain ⟨rfl, hsz, hP, hK, hD0⟩ := hv
  have hx := B.exec
  have hb := B.bytes
  have hr := B.returns
  have hts := atoms_spec (ws := wsL_type) B.pre
  have hown : s.vm.findClass RL = some m.cls := findClass_of_methodNamed B.named
  have hlocks := B.notSynchronized
  subst hsz
  have htab : c.exceptionTable.toList = tableOf [(0, 5, 6, 15), (0, 5, 10, 18)] := vx_table (x := yL_type) B (hts _ (List.mem_of_getElem? (i := 0) rfl))
  have hD := hD0.self (sz := s.heap.size)
  generalize hAe : va_A [(o, .inr (6, [.ref a0, .int (nI w), .ref a1, .int (nI nc), .null, .int 40, .int 48, .int 0, .ref a2])), (a0, .inl (cI, 64, .inl f))] s.heap.size = A at hD ⊢
  have hA : ∀ q : Nat, s.heap.size ≤ q → A q := fun q h => by rw [← hAe]; exact Or.inr h
  have hS : va_S A s.heap s.heap [] := va_S.rf
  have hl := lv_entry ([.ref o, .int v]) (n := 3) (Nat.le_of_ble_eq_true rfl)
  rw [lg_entry_eq]
  generalize (lg_sl ([.ref o, .int v]) ++ List.replicate (3 - (lg_sl ([.ref o, .int v])).length) Slot.unset).toArray = ls at hl ⊢
  have hl : lv_has ls 3 [(0, .ref o), (1, .int v)] := hl
  refine lv_aload_n hx hb dL_type_0 rfl (lv_at hl 0 rfl) ?_
  refine lv_iload_n hx hb dL_type_1 rfl (lv_at hl 1 rfl) ?_
  have hPc := hP.sub (ws' := [(o, .inr (6, [.ref a0, .int (nI w), .ref a1, .int (nI nc), .null, .int 40, .int 48, .int 0, .ref a2])), (a0, .inl (cI, 64, .inl f))]) [0, 1] rfl
  have hDc := hD.sub (ws' := [(o, .inr (6, [.ref a0, .int (nI w), .ref a1, .int (nI nc), .null, .int 40, .int 48, .int 0, .ref a2])), (a0, .inl (cI, 64, .inl f))]) [0, 1] (by decide) rfl
  have hKc := hK.sub (tys' := [(cI, .int), (cC, (.object RX0))]) [0, 1] rfl
  have hFc := va_free (wc := [(o, .inr (6, [.ref a0, .int (nI w), .ref a1, .int (nI nc), .null, .int 40, .int 48, .int 0, .ref a2])), (a0, .inl (cI, 64, .inl f))]) hD hS hA [0, 1] rfl
  refine va_calli (va_runV (As := [.int v]) (rest := []) ⟨hx, hb, hml, hown, hts⟩ (k_type l dC dI s.heap.size cI cC o a0 a1 a2 w nc f v hwm hv) (cwV 1 hts gL_type_X6_type rfl rfl rfl (by decide +kernel) ⟨Nat.le_of_ble_eq_true rfl, Nat.le_of_ble_eq_true rfl⟩) ⟨zfbD, va_recv hK hP (ci := 6) (q0 := 0) rfl rfl, zpreD hPc hKc hDc⟩ rfl rfl hl.1 rfl (lv_room (Nat.le_of_ble_eq_true rfl)) dL_type_2 ⟨Nat.le_of_ble_eq_true rfl, Nat.le_of_ble_eq_true rfl⟩) hS (fun q _ h => hFc q h) hFc (fun r9 u9 t9 H1 locs ht hvm hw hB hz1 hk1 hS => ?_)
  try dsimp only at hw
  have hw : r9 = nI (w + 1) := hw
  subst hw
  obtain ⟨hP1, hD1⟩ := hB
  rw [ht] at hP1
  obtain ⟨hP, hD⟩ := va_join (wr := []) (w1 := [(o, .inr (6, [.ref a0, .int (nI (w + 1)), .ref a1, .int (nI nc), .null, .int 40, .int 48, .int 0, .ref a2])), (a0, .inl (cI, 64, .inl (upd f w v)))]) hP hD [0, 1] [] rfl rfl (by decide) (by decide) hk1 hFc hP1 hD1
  clear hPc hDc hFc hP1 hD1 hk1 hz1 ht hvm
  have hP : va_P (dC, dI) vwCl [(o, .inr (6, [.ref a0, .int (nI (w + 1)), .ref a1, .int (nI nc), .null, .int 40, .int 48, .int 0, .ref a2])), (a0, .inl (cI, 64, .inl (upd f w v)))] H1 := hP
  have hD : va_D A [(o, .inr (6, [.ref a0, .int (nI (w + 1)), .ref a1, .int (nI nc), .null, .int 40, .int 48, .int 0, .ref a2])), (a0, .inl (cI, 64, .inl (upd f w v)))] := hD
  exact W.iret (v := (nI (w + 1))) hx hb hr (fun t9 ht hW => ⟨⟨_, (), rfl, rfl, by rw [ht]; exact hP.sub [0, 1] rfl, hD.sub [0, 1] (by decide) rfl⟩, hS.F ht⟩) hS.2.2 dL_type_5

set_option maxHeartbeats 4000000 in
set_option maxRecDepth 100000 in
/-- ring -/
theorem w_ring (l : Launch) (dC : Nat → ClassId) (dI : Nat → Nat → Nat) (sz : Nat) (cI cC : ClassId) (o a0 a1 a2 : Nat) (w nc : Nat) (ad : Nat → Option Nat) (f : Nat → Int32) (hwm : w < 64) (hrg : ztg f w = true) (hnc : nc < 4) : Met l yL_ring wsL_ring ({ frames := 4, cells := 3, slots := 323, locals := 104 }) (va_Pc [.ref o] (zPcD (dC, dI) [(o, .inr (6, [.ref a0, .int (nI w), .ref a1, .int (nI nc), .null, .int 40, .int 48, .int 0, .ref a2])), (a0, .inl (cI, 64, .inl f)), (a1, .inl (cC, 4, .inr (.inr (.inr (.inr ad)))))] [(cI, .int), (cC, (.object RX0))] sz)) (va_Qi (fun (r : Int32) (_ : Nat × Nat × Nat) => r = nI nc) (fun u t => va_P (dC, dI) vwCl [(o, .inr (6, [.ref a0, .int (nI 0), .ref a1, .int (nI (nc + 1)), .null, .int 40, .int 48, .int 0, .ref a2])), (a0, .inl (cI, 64, .inl f)), (a1, .inl (cC, 4, .inr (.inr (.inr (.inr (va_up ad nc (some u.2.1))))))), (u.1, .inl (cI, w, .inl f)), (u.2.1, .inr (0, [.ref u.1, .int (nI (ztr f w)), .ref u.2.2])), (u.2.2, .inl (cI, 256, .inl (zpl f w)))] t.heap ∧ va_D (va_A [(o, .inr (6, [.ref a0, .int (nI w), .ref a1, .int (nI nc), .null, .int 40, .int 48, .int 0, .ref a2])), (a0, .inl (cI, 64, .inl f)), (a1, .inl (cC, 4, .inr (.inr (.inr (.inr ad)))))] sz) [(o, .inr (6, [.ref a0, .int (nI 0), .ref a1, .int (nI (nc + 1)), .null, .int 40, .int 48, .int 0, .ref a2])), (a0, .inl (cI, 64, .inl f)), (a1, .inl (cC, 4, .inr (.inr (.inr (.inr (va_up ad nc (some u.2.1))))))), (u.1, .inl (cI, w, .inl f)), (u.2.1, .inr (0, [.ref u.1, .int (nI (ztr f w)), .ref u.2.2])), (u.2.2, .inl (cI, 256, .inl (zpl f w)))]) (va_A [(o, .inr (6, [.ref a0, .int (nI w), .ref a1, .int (nI nc), .null, .int 40, .int 48, .int 0, .ref a2])), (a0, .inl (cI, 64, .inl f)), (a1, .inl (cC, 4, .inr (.inr (.inr (.inr ad)))))] sz)) 3 323 (va_A [(o, .inr (6, [.ref a0, .int (nI w), .ref a1, .int (nI nc), .null, .int 40, .int 48, .int 0, .ref a2])), (a0, .inl (cI, 64, .inl f)), (a1, .inl (cC, 4, .inr (.inr (.inr (.inr ad)))))] sz) := by
  refine va_MetW (cc := cL_ring) (maxL := 2) (ret := (some .int)) (hh := [(0, 4, 5, 25), (0, 4, 9, 18)]) (by decide) rfl ?_
  intro p e s m args below meth c s₁ B hml hv
  obtain ⟨rfl, hsz, hP, hK, hD0⟩ := hv
  have hx := B.exec
  have hb := B.bytes
  have hr := B.returns
  have hts := atoms_spec (ws := wsL_ring) B.pre
  have hown : s.vm.findClass RL = some m.cls := findClass_of_methodNamed B.named
  have hlocks := B.notSynchronized
  subst hsz
  have htab : c.exceptionTable.toList = tableOf [(0, 4, 5, 25), (0, 4, 9, 18)] := vx_table (x := yL_ring) B (hts _ (List.mem_of_getElem? (i := 0) rfl))
  have hD := hD0.self (sz := s.heap.size)
  generalize hAe : va_A [(o, .inr (6, [.ref a0, .int (nI w), .ref a1, .int (nI nc), .null, .int 40, .int 48, .int 0, .ref a2])), (a0, .inl (cI, 64, .inl f)), (a1, .inl (cC, 4, .inr (.inr (.inr (.inr ad)))))] s.heap.size = A at hD ⊢
  have hA : ∀ q : Nat, s.heap.size ≤ q → A q := fun q h => by rw [← hAe]; exact Or.inr h
  have hS : va_S A s.heap s.heap [] := va_S.rf
  have hl := lv_entry ([.ref o]) (n := 2) (Nat.le_of_ble_eq_true rfl)
  rw [lg_entry_eq]
  generalize (lg_sl ([.ref o]) ++ List.replicate (2 - (lg_sl ([.ref o])).length) Slot.unset).toArray = ls at hl ⊢
  have hl : lv_has ls 2 [(0, .ref o)] := hl
  refine lv_aload_n hx hb dL_ring_0 rfl (lv_at hl 0 rfl) ?_
  have hPc := hP.sub (ws' := [(o, .inr (6, [.ref a0, .int (nI w), .ref a1, .int (nI nc), .null, .int 40, .int 48, .int 0, .ref a2])), (a0, .inl (cI, 64, .inl f)), (a1, .inl (cC, 4, .inr (.inr (.inr (.inr ad)))))]) [0, 1, 2] rfl
  have hDc := hD.sub (ws' := [(o, .inr (6, [.ref a0, .int (nI w), .ref a1, .int (nI nc), .null, .int 40, .int 48, .int 0, .ref a2])), (a0, .inl (cI, 64, .inl f)), (a1, .inl (cC, 4, .inr (.inr (.inr (.inr ad)))))]) [0, 1, 2] (by decide) rfl
  have hKc := hK.sub (tys' := [(cI, .int), (cC, (.object RX0))]) [0, 1] rfl
  have hFc := va_free (wc := [(o, .inr (6, [.ref a0, .int (nI w), .ref a1, .int (nI nc), .null, .int 40, .int 48, .int 0, .ref a2])), (a0, .inl (cI, 64, .inl f)), (a1, .inl (cC, 4, .inr (.inr (.inr (.inr ad)))))]) hD hS hA [0, 1, 2] rfl
  refine va_calli (va_runV (As := []) (rest := []) ⟨hx, hb, hml, hown, hts⟩ (k_ring l dC dI s.heap.size cI cC o a0 a1 a2 w nc ad f hwm hrg hnc) (cwV 0 hts gL_ring_X6_ring rfl rfl rfl (by decide +kernel) ⟨Nat.le_of_ble_eq_true rfl, Nat.le_of_ble_eq_true rfl⟩) ⟨zfbD, va_recv hK hP (ci := 6) (q0 := 0) rfl rfl, zpreD hPc hKc hDc⟩ rfl rfl hl.1 rfl (lv_room (Nat.le_of_ble_eq_true rfl)) dL_ring_1 ⟨Nat.le_of_ble_eq_true rfl, Nat.le_of_ble_eq_true rfl⟩) hS (fun q _ h => hFc q h) hFc (fun r9 u9 t9 H1 locs ht hvm hw hB hz1 hk1 hS => ?_)
  try dsimp only at hw
  obtain ⟨h1, h0, h2⟩ := u9
  have hw : r9 = nI nc := hw
  subst hw
  obtain ⟨hP1, hD1⟩ := hB
  rw [ht] at hP1
  obtain ⟨hP, hD⟩ := va_join (wr := []) (w1 := [(o, .inr (6, [.ref a0, .int (nI 0), .ref a1, .int (nI (nc + 1)), .null, .int 40, .int 48, .int 0, .ref a2])), (a0, .inl (cI, 64, .inl f)), (a1, .inl (cC, 4, .inr (.inr (.inr (.inr (va_up ad nc (some h0))))))), (h1, .inl (cI, w, .inl f)), (h0, .inr (0, [.ref h1, .int (nI (ztr f w)), .ref h2])), (h2, .inl (cI, 256, .inl (zpl f w)))]) hP hD [0, 1, 2] [] rfl rfl (by decide) (by decide) hk1 hFc hP1 hD1
  clear hPc hDc hFc hP1 hD1 hk1 hz1 ht hvm
  have hP : va_P (dC, dI) vwCl [(o, .inr (6, [.ref a0, .int (nI 0), .ref a1, .int (nI (nc + 1)), .null, .int 40, .int 48, .int 0, .ref a2])), (a0, .inl (cI, 64, .inl f)), (a1, .inl (cC, 4, .inr (.inr (.inr (.inr (va_up ad nc (some h0))))))), (h1, .inl (cI, w, .inl f)), (h0, .inr (0, [.ref h1, .int (nI (ztr f w)), .ref h2])), (h2, .inl (cI, 256, .inl (zpl f w)))] H1 := hP
  have hD : va_D A [(o, .inr (6, [.ref a0, .int (nI 0), .ref a1, .int (nI (nc + 1)), .null, .int 40, .int 48, .int 0, .ref a2])), (a0, .inl (cI, 64, .inl f)), (a1, .inl (cC, 4, .inr (.inr (.inr (.inr (va_up ad nc (some h0))))))), (h1, .inl (cI, w, .inl f)), (h0, .inr (0, [.ref h1, .int (nI (ztr f w)), .ref h2])), (h2, .inl (cI, 256, .inl (zpl f w)))] := hD
  exact W.iret (v := (nI nc)) hx hb hr (fun t9 ht hW => ⟨⟨_, (h1, h0, h2), rfl, rfl, by rw [ht]; exact hP.sub [0, 1, 2, 3, 4, 5] rfl, hD.sub [0, 1, 2, 3, 4, 5] (by decide) rfl⟩, hS.F ht⟩) hS.2.2 dL_ring_4

set_option maxHeartbeats 4000000 in
set_option maxRecDepth 100000 in
/-- reflected -/
theorem w_reflected (l : Launch) (dC : Nat → ClassId) (dI : Nat → Nat → Nat) (sz : Nat) (cI cC : ClassId) (o a0 a1 a2 : Nat) (tc : Int32) (nc : Nat) (ad : Nat → Option Nat) (b n : Nat) (hb2 : 2 ≤ b) (hb5 : b ≤ 5) (hnb : n = 2 ^ b) (hnc : nc < 4) : Met l yL_reflected wsL_reflected ({ frames := 4, cells := 3, slots := 291, locals := 104 }) (va_Pc [.ref o, .int (nI b)] (zPcD (dC, dI) [(o, .inr (6, [.ref a0, .int tc, .ref a1, .int (nI nc), .null, .int 40, .int 48, .int 0, .ref a2])), (a1, .inl (cC, 4, .inr (.inr (.inr (.inr ad)))))] [(cI, .int), (cC, (.object RX0))] sz)) (va_Qi (fun (r : Int32) (_ : Nat × Nat × Nat) => r = nI nc) (fun u t => va_P (dC, dI) vwCl [(o, .inr (6, [.ref a0, .int tc, .ref a1, .int (nI (nc + 1)), .null, .int 40, .int 48, .int 0, .ref a2])), (a1, .inl (cC, 4, .inr (.inr (.inr (.inr (va_up ad nc (some u.2.1))))))), (u.1, .inl (cI, n, .inl zrf)), (u.2.1, .inr (0, [.ref u.1, .int (nI (ztr zrf n)), .ref u.2.2])), (u.2.2, .inl (cI, 256, .inl (zpl zrf n)))] t.heap ∧ va_D (va_A [(o, .inr (6, [.ref a0, .int tc, .ref a1, .int (nI nc), .null, .int 40, .int 48, .int 0, .ref a2])), (a1, .inl (cC, 4, .inr (.inr (.inr (.inr ad)))))] sz) [(o, .inr (6, [.ref a0, .int tc, .ref a1, .int (nI (nc + 1)), .null, .int 40, .int 48, .int 0, .ref a2])), (a1, .inl (cC, 4, .inr (.inr (.inr (.inr (va_up ad nc (some u.2.1))))))), (u.1, .inl (cI, n, .inl zrf)), (u.2.1, .inr (0, [.ref u.1, .int (nI (ztr zrf n)), .ref u.2.2])), (u.2.2, .inl (cI, 256, .inl (zpl zrf n)))]) (va_A [(o, .inr (6, [.ref a0, .int tc, .ref a1, .int (nI nc), .null, .int 40, .int 48, .int 0, .ref a2])), (a1, .inl (cC, 4, .inr (.inr (.inr (.inr ad)))))] sz)) 3 291 (va_A [(o, .inr (6, [.ref a0, .int tc, .ref a1, .int (nI nc), .null, .int 40, .int 48, .int 0, .ref a2])), (a1, .inl (cC, 4, .inr (.inr (.inr (.inr ad)))))] sz) := by
  refine va_MetW (cc := cL_reflected) (maxL := 3) (ret := (some .int)) (hh := [(0, 5, 6, 15), (0, 5, 10, 18)]) (by decide) rfl ?_
  intro p e s m args below meth c s₁ B hml hv
  obtain ⟨rfl, hsz, hP, hK, hD0⟩ := hv
  have hx := B.exec
  have hb := B.bytes
  have hr := B.returns
  have hts := atoms_spec (ws := wsL_reflected) B.pre
  have hown : s.vm.findClass RL = some m.cls := findClass_of_methodNamed B.named
  have hlocks := B.notSynchronized
  subst hsz
  have htab : c.exceptionTable.toList = tableOf [(0, 5, 6, 15), (0, 5, 10, 18)] := vx_table (x := yL_reflected) B (hts _ (List.mem_of_getElem? (i := 0) rfl))
  have hD := hD0.self (sz := s.heap.size)
  generalize hAe : va_A [(o, .inr (6, [.ref a0, .int tc, .ref a1, .int (nI nc), .null, .int 40, .int 48, .int 0, .ref a2])), (a1, .inl (cC, 4, .inr (.inr (.inr (.inr ad)))))] s.heap.size = A at hD ⊢
  have hA : ∀ q : Nat, s.heap.size ≤ q → A q := fun q h => by rw [← hAe]; exact Or.inr h
  have hS : va_S A s.heap s.heap [] := va_S.rf
  have hl := lv_entry ([.ref o, .int (nI b)]) (n := 3) (Nat.le_of_ble_eq_true rfl)
  rw [lg_entry_eq]
  generalize (lg_sl ([.ref o, .int (nI b)]) ++ List.replicate (3 - (lg_sl ([.ref o, .int (nI b)])).length) Slot.unset).toArray = ls at hl ⊢
  have hl : lv_has ls 3 [(0, .ref o), (1, .int (nI b))] := hl
  refine lv_aload_n hx hb dL_reflected_0 rfl (lv_at hl 0 rfl) ?_
  refine lv_iload_n hx hb dL_reflected_1 rfl (lv_at hl 1 rfl) ?_
  have hPc := hP.sub (ws' := [(o, .inr (6, [.ref a0, .int tc, .ref a1, .int (nI nc), .null, .int 40, .int 48, .int 0, .ref a2])), (a1, .inl (cC, 4, .inr (.inr (.inr (.inr ad)))))]) [0, 1] rfl
  have hDc := hD.sub (ws' := [(o, .inr (6, [.ref a0, .int tc, .ref a1, .int (nI nc), .null, .int 40, .int 48, .int 0, .ref a2])), (a1, .inl (cC, 4, .inr (.inr (.inr (.inr ad)))))]) [0, 1] (by decide) rfl
  have hKc := hK.sub (tys' := [(cI, .int), (cC, (.object RX0))]) [0, 1] rfl
  have hFc := va_free (wc := [(o, .inr (6, [.ref a0, .int tc, .ref a1, .int (nI nc), .null, .int 40, .int 48, .int 0, .ref a2])), (a1, .inl (cC, 4, .inr (.inr (.inr (.inr ad)))))]) hD hS hA [0, 1] rfl
  refine va_calli (va_runV (As := [.int (nI b)]) (rest := []) ⟨hx, hb, hml, hown, hts⟩ (k_reflected l dC dI s.heap.size cI cC o a0 a1 a2 tc nc ad b n hb2 hb5 hnb hnc) (cwV 1 hts gL_reflected_X6_reflected rfl rfl rfl (by decide +kernel) ⟨Nat.le_of_ble_eq_true rfl, Nat.le_of_ble_eq_true rfl⟩) ⟨zfbD, va_recv hK hP (ci := 6) (q0 := 0) rfl rfl, zpreD hPc hKc hDc⟩ rfl rfl hl.1 rfl (lv_room (Nat.le_of_ble_eq_true rfl)) dL_reflected_2 ⟨Nat.le_of_ble_eq_true rfl, Nat.le_of_ble_eq_true rfl⟩) hS (fun q _ h => hFc q h) hFc (fun r9 u9 t9 H1 locs ht hvm hw hB hz1 hk1 hS => ?_)
  try dsimp only at hw
  obtain ⟨h1, h0, h2⟩ := u9
  have hw : r9 = nI nc := hw
  subst hw
  obtain ⟨hP1, hD1⟩ := hB
  rw [ht] at hP1
  obtain ⟨hP, hD⟩ := va_join (wr := []) (w1 := [(o, .inr (6, [.ref a0, .int tc, .ref a1, .int (nI (nc + 1)), .null, .int 40, .int 48, .int 0, .ref a2])), (a1, .inl (cC, 4, .inr (.inr (.inr (.inr (va_up ad nc (some h0))))))), (h1, .inl (cI, n, .inl zrf)), (h0, .inr (0, [.ref h1, .int (nI (ztr zrf n)), .ref h2])), (h2, .inl (cI, 256, .inl (zpl zrf n)))]) hP hD [0, 1] [] rfl rfl (by decide) (by decide) hk1 hFc hP1 hD1
  clear hPc hDc hFc hP1 hD1 hk1 hz1 ht hvm
  have hP : va_P (dC, dI) vwCl [(o, .inr (6, [.ref a0, .int tc, .ref a1, .int (nI (nc + 1)), .null, .int 40, .int 48, .int 0, .ref a2])), (a1, .inl (cC, 4, .inr (.inr (.inr (.inr (va_up ad nc (some h0))))))), (h1, .inl (cI, n, .inl zrf)), (h0, .inr (0, [.ref h1, .int (nI (ztr zrf n)), .ref h2])), (h2, .inl (cI, 256, .inl (zpl zrf n)))] H1 := hP
  have hD : va_D A [(o, .inr (6, [.ref a0, .int tc, .ref a1, .int (nI (nc + 1)), .null, .int 40, .int 48, .int 0, .ref a2])), (a1, .inl (cC, 4, .inr (.inr (.inr (.inr (va_up ad nc (some h0))))))), (h1, .inl (cI, n, .inl zrf)), (h0, .inr (0, [.ref h1, .int (nI (ztr zrf n)), .ref h2])), (h2, .inl (cI, 256, .inl (zpl zrf n)))] := hD
  exact W.iret (v := (nI nc)) hx hb hr (fun t9 ht hW => ⟨⟨_, (h1, h0, h2), rfl, rfl, by rw [ht]; exact hP.sub [0, 1, 2, 3, 4] rfl, hD.sub [0, 1, 2, 3, 4] (by decide) rfl⟩, hS.F ht⟩) hS.2.2 dL_reflected_5

theorem zh_le1 {t h : Nat} (ht : t < 2 ^ 30) (hh : h < 2 ^ 30) : nI t ≤ nI h - 1 ↔ t < h := zh_le ht hh
set_option maxHeartbeats 4000000 in
set_option maxRecDepth 100000 in
/-- codeAt(k) of a code that is there -/
theorem k_codeAt (l : Launch) (dC : Nat → ClassId) (dI : Nat → Nat → Nat) (sz : Nat) (cI cC : ClassId) (o a0 a1 a2 : Nat) (tc : Int32) (nc : Nat) (ad : Nat → Option Nat) (h0 k : Nat) (hk : k < nc) (hc4 : nc ≤ 4) (had : ad k = some h0) : Met l yX6_codeAt wsX6_codeAt ({ frames := 1, cells := 0, slots := 0, locals := 22 }) (va_Pc [.ref o, .int (nI k)] (zPc (dC, dI) [(o, .inr (6, [.ref a0, .int tc, .ref a1, .int (nI nc), .null, .int 40, .int 48, .int 0, .ref a2])), (a1, .inl (cC, 4, .inr (.inr (.inr (.inr ad)))))] [(cI, .int), (cC, (.object RX0))] sz)) (va_Qr (fun (_ : Unit) => True) (fun _ a _ => a = h0) (zq sz)) 0 0 (zq sz) := by
  refine Met.ofW (cc := cX6_codeAt) (maxL := 3) (ret := (some (.object "Ringtrack$Code"))) (by decide) rfl ?_
  intro p e s m args below meth c s₁ B hml hv
  obtain ⟨rfl, hsz, hP, hK⟩ := hv
  have hx := B.exec
  have hb := B.bytes
  have hr := B.returns
  have hts := atoms_spec (ws := wsX6_codeAt) B.pre
  have hown : s.vm.findClass RX6 = some m.cls := findClass_of_methodNamed B.named
  have hlocks := B.notSynchronized
  subst hsz
  have hi6 : ∀ w ∈ u_ws RX6 TX6 9, w ∈ wsX6_codeAt := by decide +kernel
  have hA : ∀ q : Nat, s.heap.size ≤ q → zq s.heap.size q := fun q h => h
  have hS : va_S (zq s.heap.size) s.heap s.heap [] := va_S.rf
  have hl := lv_entry ([.ref o, .int (nI k)]) (n := 3) (Nat.le_of_ble_eq_true rfl)
  rw [lg_entry_eq]
  generalize (lg_sl ([.ref o, .int (nI k)]) ++ List.replicate (3 - (lg_sl ([.ref o, .int (nI k)])).length) Slot.unset).toArray = ls at hl ⊢
  have hl : lv_has ls 3 [(0, .ref o), (1, .int (nI k))] := hl
  refine lv_iload_n hx hb dX6_codeAt_0 rfl (lv_at hl 1 rfl) ?_
  refine lv_iconst (v := 0) hx hb dX6_codeAt_1 (by decide) ?_
  refine lv_aload_n hx hb dX6_codeAt_2 rfl (lv_at hl 0 rfl) ?_
  refine va_get (D := (dC, dI)) (ci := 6) (v := .int (nI nc)) (C := RX6) (T := TX6) (N := 9) hx hb hts hi6 hown hK hP 0 rfl rfl 3 (by decide) (hts (.fieldLink RX6 61 "Ringtrack" "codeCount" "I") (List.mem_of_getElem? (i := 3) rfl)) (fun _ h9 => h9) rfl dX6_codeAt_3 ?_
  refine lv_iconst (v := 1) hx hb dX6_codeAt_6 (by decide) ?_
  refine lv_isub hx hb dX6_codeAt_7 ?_
  refine va_calli (va_runS (As := [.int (nI k), .int 0, .int ((nI nc) - 1)]) (rest := []) ⟨hx, hb, hml, hown, hts⟩ (k_isWithin l dC dI s.heap.size (nI k) 0 ((nI nc) - 1)) (va_cwS 3 hts gX6_codeAt_X6_isWithin rfl rfl rfl (by decide +kernel) ⟨Nat.le_of_ble_eq_true rfl, Nat.le_of_ble_eq_true rfl⟩) ⟨zfb, zpre (hP.sub (ws' := []) [] rfl) (hK.sub (tys' := []) [] rfl)⟩ rfl rfl hl.1 rfl (lv_room (Nat.le_of_ble_eq_true rfl)) dX6_codeAt_8 ⟨Nat.le_of_ble_eq_true rfl, Nat.le_of_ble_eq_true rfl⟩) hS (fun q h1 h2 => absurd h2 (Nat.not_le.mpr h1)) (fun q h => hA q (Nat.le_trans hS.1 h)) (fun r9 u9 t9 H1 locs ht hvm hw hB hz1 hk1 hS => ?_)
  have hw : r9 = zb (decide ((0 : Int32) ≤ (nI k)) && decide ((nI k) ≤ ((nI nc) - 1))) := hw
  subst hw
  have hP := zr_keep hP hk1
  clear hk1 hz1 hB ht hvm
  refine zt_top (y := 1) (by rw [decide_eq_true (nI_pos' (by omega)), decide_eq_true ((zh_le1 (by omega) (by omega)).mpr hk)]; rfl) ?_
  refine lv_if_eq (tgt := 23) hx hb dX6_codeAt_11 (by decide) (fun c => absurd c (by decide)) (fun c11 => ?_)
  refine lv_aload_n hx hb dX6_codeAt_14 rfl (lv_at hl 0 rfl) ?_
  refine va_get (D := (dC, dI)) (ci := 6) (v := .ref a1) (C := RX6) (T := TX6) (N := 9) hx hb hts hi6 hown hK hP 0 rfl rfl 2 (by decide) (hts (.fieldLink RX6 15 "Ringtrack" "codes" "[LRingtrack$Code;") (List.mem_of_getElem? (i := 4) rfl)) (fun _ h9 => h9) rfl dX6_codeAt_15 ?_
  refine lv_iload_n hx hb dX6_codeAt_18 rfl (lv_at hl 1 rfl) ?_
  refine va_aldq hx hb hK hP 1 1 rfl rfl (vp_in_nI (by omega) (by decide)) dX6_codeAt_19 ?_
  refine zt_topv (y := .ref h0) (by rw [nI_clamp (by omega), had]; rfl) ?_
  refine lv_goto (tgt := 24) hx hb dX6_codeAt_20 (by decide) ?_
  refine lv_astore_n (lv' := [(2, .ref h0), (0, .ref o), (1, .int (nI k))]) hx hb dX6_codeAt_24 rfl hl (by decide) rfl (fun ls hl => ?_)
  refine lv_aload_n hx hb dX6_codeAt_25 rfl (lv_at hl 0 rfl) ?_
  refine lv_ifnonnull (tgt := 40) hx hb dX6_codeAt_26 (by decide) ?_
  refine lv_aload_n hx hb dX6_codeAt_40 rfl (lv_at hl 0 rfl) ?_
  exact W.aret (v := .ref h0) hx hb hr (Or.inl ⟨_, rfl⟩) (Or.inr ⟨_, rfl⟩) (fun t9 ht hW => ⟨⟨(), h0, rfl, trivial, rfl⟩, hS.F ht⟩) hS.2.2 dX6_codeAt_41

set_option maxHeartbeats 4000000 in
set_option maxRecDepth 100000 in
/-- codeAt(k) of a code that isn't there -/
theorem x_codeAt (l : Launch) (dC : Nat → ClassId) (dI : Nat → Nat → Nat) (sz : Nat) (cI cC : ClassId) (o a0 a1 a2 : Nat) (tc : Int32) (nc : Nat) (ad : Nat → Option Nat) (k : Nat) (hfl : l.stackTraces = false) (hk : nc ≤ k) (hk2 : k < 2 ^ 30) : vx_Met l yX6_codeAt wsX6_codeAt ({ frames := 6, cells := 1, slots := 6, locals := 90 }) (va_Pc [.ref o, .int (nI k)] (zPcX (dC, dI) [(o, .inr (6, [.ref a0, .int tc, .ref a1, .int (nI nc), .null, .int 40, .int 48, .int 0, .ref a2])), (a1, .inl (cC, 4, .inr (.inr (.inr (.inr ad)))))] [(cI, .int), (cC, (.object RX0))] sz)) zNoQ (zXC "java/lang/IndexOutOfBoundsException" sz) 1 6 (zq sz) := by
  refine vx_ofW (cc := cX6_codeAt) (maxL := 3) (ret := (some (.object "Ringtrack$Code"))) (by decide) rfl ?_
  intro p e s m args below meth c s₁ B hml hnt hv
  obtain ⟨rfl, hsz, hP, hK, hE⟩ := hv
  have hx := B.exec
  have hb := B.bytes
  have hr := B.returns
  have hts := atoms_spec (ws := wsX6_codeAt) B.pre
  have hown : s.vm.findClass RX6 = some m.cls := findClass_of_methodNamed B.named
  have hlocks := B.notSynchronized
  subst hsz
  have hi6 : ∀ w ∈ u_ws RX6 TX6 9, w ∈ wsX6_codeAt := by decide +kernel
  have hA : ∀ q : Nat, s.heap.size ≤ q → zq s.heap.size q := fun q h => h
  have hS : va_S (zq s.heap.size) s.heap s.heap [] := va_S.rf
  have hl := lv_entry ([.ref o, .int (nI k)]) (n := 3) (Nat.le_of_ble_eq_true rfl)
  rw [lg_entry_eq]
  generalize (lg_sl ([.ref o, .int (nI k)]) ++ List.replicate (3 - (lg_sl ([.ref o, .int (nI k)])).length) Slot.unset).toArray = ls at hl ⊢
  have hl : lv_has ls 3 [(0, .ref o), (1, .int (nI k))] := hl
  refine lv_iload_n hx hb dX6_codeAt_0 rfl (lv_at hl 1 rfl) ?_
  refine lv_iconst (v := 0) hx hb dX6_codeAt_1 (by decide) ?_
  refine lv_aload_n hx hb dX6_codeAt_2 rfl (lv_at hl 0 rfl) ?_
  refine va_get (D := (dC, dI)) (ci := 6) (v := .int (nI nc)) (C := RX6) (T := TX6) (N := 9) hx hb hts hi6 hown hK hP 0 rfl rfl 3 (by decide) (hts (.fieldLink RX6 61 "Ringtrack" "codeCount" "I") (List.mem_of_getElem? (i := 3) rfl)) (fun _ h9 => h9) rfl dX6_codeAt_3 ?_
  refine lv_iconst (v := 1) hx hb dX6_codeAt_6 (by decide) ?_
  refine lv_isub hx hb dX6_codeAt_7 ?_
  refine va_calli (va_runS (As := [.int (nI k), .int 0, .int ((nI nc) - 1)]) (rest := []) ⟨hx, hb, hml, hown, hts⟩ (k_isWithin l dC dI s.heap.size (nI k) 0 ((nI nc) - 1)) (va_cwS 3 hts gX6_codeAt_X6_isWithin rfl rfl rfl (by decide +kernel) ⟨Nat.le_of_ble_eq_true rfl, Nat.le_of_ble_eq_true rfl⟩) ⟨zfb, zpre (hP.sub (ws' := []) [] rfl) (hK.sub (tys' := []) [] rfl)⟩ rfl rfl hl.1 rfl (lv_room (Nat.le_of_ble_eq_true rfl)) dX6_codeAt_8 ⟨Nat.le_of_ble_eq_true rfl, Nat.le_of_ble_eq_true rfl⟩) hS (fun q h1 h2 => absurd h2 (Nat.not_le.mpr h1)) (fun q h => hA q (Nat.le_trans hS.1 h)) (fun r9 u9 t9 H1 locs ht hvm hw hB hz1 hk1 hS => ?_)
  have hw : r9 = zb (decide ((0 : Int32) ≤ (nI k)) && decide ((nI k) ≤ ((nI nc) - 1))) := hw
  subst hw
  have hP := zr_keep hP hk1
  clear hk1 hz1 hB ht hvm
  refine zt_top (y := 0) (by rw [decide_eq_false (fun q => absurd ((zh_le1 hk2 (by omega)).mp q) (by omega)), Bool.and_false]; rfl) ?_
  refine lv_if_eq (tgt := 23) hx hb dX6_codeAt_11 (by decide) (fun c11 => ?_) (fun c => absurd (rfl) c)
  refine lv_null hx hb dX6_codeAt_23 ?_
  refine lv_astore_nN (lv' := [(2, .null), (0, .ref o), (1, .int (nI k))]) hx hb dX6_codeAt_24 rfl hl (by decide) rfl (fun ls hl => ?_)
  refine lv_aload_nN hx hb dX6_codeAt_25 rfl (lv_at hl 0 rfl) ?_
  refine lv_ifnonnullN hx hb dX6_codeAt_26 ?_
  obtain ⟨sa, hsa⟩ := hE.2.1 (387, "no such code") (List.mem_of_getElem? (i := 3) rfl)
  exact vx_throwSW hx hb hfl (own := RX6) (cls := "java/lang/IndexOutOfBoundsException") (names := ["java/lang/RuntimeException", "java/lang/Exception"]) (ik := 271) (is := 387) (ic := 275) (A := zq s.heap.size) hown (by decide) (by decide) (hts (.classLink RX6 271 "java/lang/IndexOutOfBoundsException") (List.mem_of_getElem? (i := 1) rfl)) (hts (.initialized "java/lang/IndexOutOfBoundsException") (List.mem_of_getElem? (i := 2) rfl)) hsa (zg_of (fun w hw => hts w (List.mem_cons_of_mem _ (List.mem_append_right _ hw))) zg_IOB hE.2.2.1) zo_IOB hE.1.1 hE.1.2 hS (hl.1.trans hml.symm) dX6_codeAt_29 dX6_codeAt_32 dX6_codeAt_33 dX6_codeAt_36 dX6_codeAt_39 (fun x hx => (hnt x hx).elim) (Nat.le_of_ble_eq_true rfl) (Nat.le_of_ble_eq_true rfl) (Nat.le_of_ble_eq_true rfl) (Nat.le_of_ble_eq_true rfl) hlocks (z_hx hS) hS.2.2 (Nat.le_of_ble_eq_true rfl) (Nat.le_of_ble_eq_true rfl)

set_option maxHeartbeats 4000000 in
set_option maxRecDepth 100000 in
/-- theDisc() without one -/
theorem x_theDisc (l : Launch) (dC : Nat → ClassId) (dI : Nat → Nat → Nat) (sz : Nat) (cI cC : ClassId) (o a0 a1 a2 : Nat) (tc : Int32) (nc : Nat) (ad : Nat → Option Nat) (hfl : l.stackTraces = false) : vx_Met l yX6_theDisc wsX6_theDisc ({ frames := 6, cells := 1, slots := 6, locals := 90 }) (va_Pc [.ref o] (zPcX (dC, dI) [(o, .inr (6, [.ref a0, .int tc, .ref a1, .int (nI nc), .null, .int 40, .int 48, .int 0, .ref a2]))] [(cI, .int), (cC, (.object RX0))] sz)) zNoQ (zXC "java/lang/UnsupportedOperationException" sz) 1 6 (zq sz) := by
  refine vx_ofW (cc := cX6_theDisc) (maxL := 2) (ret := (some (.object "Ringtrack$Disc"))) (by decide) rfl ?_
  intro p e s m args below meth c s₁ B hml hnt hv
  obtain ⟨rfl, hsz, hP, hK, hE⟩ := hv
  have hx := B.exec
  have hb := B.bytes
  have hr := B.returns
  have hts := atoms_spec (ws := wsX6_theDisc) B.pre
  have hown : s.vm.findClass RX6 = some m.cls := findClass_of_methodNamed B.named
  have hlocks := B.notSynchronized
  subst hsz
  have hi6 : ∀ w ∈ u_ws RX6 TX6 9, w ∈ wsX6_theDisc := by decide +kernel
  have hA : ∀ q : Nat, s.heap.size ≤ q → zq s.heap.size q := fun q h => h
  have hS : va_S (zq s.heap.size) s.heap s.heap [] := va_S.rf
  have hl := lv_entry ([.ref o]) (n := 2) (Nat.le_of_ble_eq_true rfl)
  rw [lg_entry_eq]
  generalize (lg_sl ([.ref o]) ++ List.replicate (2 - (lg_sl ([.ref o])).length) Slot.unset).toArray = ls at hl ⊢
  have hl : lv_has ls 2 [(0, .ref o)] := hl
  refine lv_aload_n hx hb dX6_theDisc_0 rfl (lv_at hl 0 rfl) ?_
  refine va_get (D := (dC, dI)) (ci := 6) (v := .null) (C := RX6) (T := TX6) (N := 9) hx hb hts hi6 hown hK hP 0 rfl rfl 4 (by decide) (hts (.fieldLink RX6 127 "Ringtrack" "disc" "LRingtrack$Disc;") (List.mem_of_getElem? (i := 3) rfl)) (fun _ h9 => h9) rfl dX6_theDisc_1 ?_
  refine lv_astore_nN (lv' := [(1, .null), (0, .ref o)]) hx hb dX6_theDisc_4 rfl hl (by decide) rfl (fun ls hl => ?_)
  refine lv_aload_nN hx hb dX6_theDisc_5 rfl (lv_at hl 0 rfl) ?_
  refine lv_ifnonnullN hx hb dX6_theDisc_6 ?_
  obtain ⟨sa, hsa⟩ := hE.2.1 (389, "there is no disc") (List.mem_of_getElem? (i := 8) rfl)
  exact vx_throwSW hx hb hfl (own := RX6) (cls := "java/lang/UnsupportedOperationException") (names := ["java/lang/RuntimeException", "java/lang/Exception"]) (ik := 56) (is := 389) (ic := 60) (A := zq s.heap.size) hown (by decide) (by decide) (hts (.classLink RX6 56 "java/lang/UnsupportedOperationException") (List.mem_of_getElem? (i := 1) rfl)) (hts (.initialized "java/lang/UnsupportedOperationException") (List.mem_of_getElem? (i := 2) rfl)) hsa (zg_of (fun w hw => hts w (List.mem_cons_of_mem _ (List.mem_append_right _ hw))) zg_UOE hE.2.2.1) zo_UOE hE.1.1 hE.1.2 hS (hl.1.trans hml.symm) dX6_theDisc_9 dX6_theDisc_12 dX6_theDisc_13 dX6_theDisc_16 dX6_theDisc_19 (fun x hx => (hnt x hx).elim) (Nat.le_of_ble_eq_true rfl) (Nat.le_of_ble_eq_true rfl) (Nat.le_of_ble_eq_true rfl) (Nat.le_of_ble_eq_true rfl) hlocks (z_hx hS) hS.2.2 (Nat.le_of_ble_eq_true rfl) (Nat.le_of_ble_eq_true rfl)

set_option maxHeartbeats 4000000 in
set_option maxRecDepth 100000 in
/-- words(k) -/
theorem k_words (l : Launch) (dC : Nat → ClassId) (dI : Nat → Nat → Nat) (sz : Nat) (cI cC : ClassId) (o a0 a1 a2 : Nat) (tc : Int32) (nc : Nat) (ad : Nat → Option Nat) (h0 h1 h2 n T : Nat) (f g : Nat → Int32) (k : Nat) (hk : k < nc) (hc4 : nc ≤ 4) (had : ad k = some h0) : Met l yX6_words wsX6_words ({ frames := 2, cells := 0, slots := 0, locals := 44 }) (va_Pc [.ref o, .int (nI k)] (zPc (dC, dI) [(o, .inr (6, [.ref a0, .int tc, .ref a1, .int (nI nc), .null, .int 40, .int 48, .int 0, .ref a2])), (a1, .inl (cC, 4, .inr (.inr (.inr (.inr ad))))), (h0, .inr (0, [.ref h1, .int (nI T), .ref h2])), (h1, .inl (cI, n, .inl f)), (h2, .inl (cI, 256, .inl g))] [(cI, .int), (cC, (.object RX0))] sz)) (va_Qi (fun (r : Int32) (_ : Unit) => r = nI n) (fun _ _ => True) (zq sz)) 0 0 (zq sz) := by
  refine Met.ofW (cc := cX6_words) (maxL := 2) (ret := (some .int)) (by decide) rfl ?_
  intro p e s m args below meth c s₁ B hml hv
  obtain ⟨rfl, hsz, hP, hK⟩ := hv
  have hx := B.exec
  have hb := B.bytes
  have hr := B.returns
  have hts := atoms_spec (ws := wsX6_words) B.pre
  have hown : s.vm.findClass RX6 = some m.cls := findClass_of_methodNamed B.named
  have hlocks := B.notSynchronized
  subst hsz
  have hi0 : ∀ w ∈ u_ws RX0 TX0 3, w ∈ wsX6_words := by decide +kernel
  have hi6 : ∀ w ∈ u_ws RX6 TX6 9, w ∈ wsX6_words := by decide +kernel
  have hA : ∀ q : Nat, s.heap.size ≤ q → zq s.heap.size q := fun q h => h
  have hS : va_S (zq s.heap.size) s.heap s.heap [] := va_S.rf
  have hl := lv_entry ([.ref o, .int (nI k)]) (n := 2) (Nat.le_of_ble_eq_true rfl)
  rw [lg_entry_eq]
  generalize (lg_sl ([.ref o, .int (nI k)]) ++ List.replicate (2 - (lg_sl ([.ref o, .int (nI k)])).length) Slot.unset).toArray = ls at hl ⊢
  have hl : lv_has ls 2 [(0, .ref o), (1, .int (nI k))] := hl
  refine lv_aload_n hx hb dX6_words_0 rfl (lv_at hl 0 rfl) ?_
  refine lv_iload_n hx hb dX6_words_1 rfl (lv_at hl 1 rfl) ?_
  refine va_callr (va_runV (As := [.int (nI k)]) (rest := []) ⟨hx, hb, hml, hown, hts⟩ (k_codeAt l dC dI s.heap.size cI cC o a0 a1 a2 tc nc ad h0 k hk hc4 had) (cwV 1 hts gX6_words_X6_codeAt rfl rfl rfl (by decide +kernel) ⟨Nat.le_of_ble_eq_true rfl, Nat.le_of_ble_eq_true rfl⟩) ⟨zfb, va_recv hK hP (ci := 6) (q0 := 0) rfl rfl, zpre (hP.sub (ws' := [(o, .inr (6, [.ref a0, .int tc, .ref a1, .int (nI nc), .null, .int 40, .int 48, .int 0, .ref a2])), (a1, .inl (cC, 4, .inr (.inr (.inr (.inr ad)))))]) [0, 1] rfl) (hK.sub (tys' := [(cI, .int), (cC, (.object RX0))]) [0, 1] rfl)⟩ rfl rfl hl.1 rfl (lv_room (Nat.le_of_ble_eq_true rfl)) dX6_words_2 ⟨Nat.le_of_ble_eq_true rfl, Nat.le_of_ble_eq_true rfl⟩) hS (fun q h1 h2 => absurd h2 (Nat.not_le.mpr h1)) (fun q h => hA q (Nat.le_trans hS.1 h)) (fun u9 ra9 t9 H1 locs ht hvm hw hB hz1 hk1 hS => ?_)
  have hB : h0 = ra9 := Eq.symm hB
  subst hB
  have hP := zr_keep hP hk1
  clear hk1 hz1 ht hvm
  refine va_get (D := (dC, dI)) (ci := 0) (v := .ref h1) (C := RX0) (T := TX0) (N := 3) hx hb hts hi0 hown hK hP 2 rfl rfl 0 (by decide) (hts (.fieldLink RX6 82 "Ringtrack$Code" "words" "[I") (List.mem_of_getElem? (i := 1) rfl)) (fun _ h9 => h9) rfl dX6_words_5 ?_
  refine va_alen (v := (nI n)) hx hb hK hP 3 0 rfl rfl rfl dX6_words_8 ?_
  exact W.iret (v := (nI n)) hx hb hr (fun t9 ht hW => ⟨⟨_, (), rfl, rfl, trivial⟩, hS.F ht⟩) hS.2.2 dX6_words_9

set_option maxHeartbeats 4000000 in
set_option maxRecDepth 100000 in
/-- tracks(k) -/
theorem k_tracks (l : Launch) (dC : Nat → ClassId) (dI : Nat → Nat → Nat) (sz : Nat) (cI cC : ClassId) (o a0 a1 a2 : Nat) (tc : Int32) (nc : Nat) (ad : Nat → Option Nat) (h0 h1 h2 n T : Nat) (f g : Nat → Int32) (k : Nat) (hk : k < nc) (hc4 : nc ≤ 4) (had : ad k = some h0) : Met l yX6_tracks wsX6_tracks ({ frames := 2, cells := 0, slots := 0, locals := 44 }) (va_Pc [.ref o, .int (nI k)] (zPc (dC, dI) [(o, .inr (6, [.ref a0, .int tc, .ref a1, .int (nI nc), .null, .int 40, .int 48, .int 0, .ref a2])), (a1, .inl (cC, 4, .inr (.inr (.inr (.inr ad))))), (h0, .inr (0, [.ref h1, .int (nI T), .ref h2])), (h1, .inl (cI, n, .inl f)), (h2, .inl (cI, 256, .inl g))] [(cI, .int), (cC, (.object RX0))] sz)) (va_Qi (fun (r : Int32) (_ : Unit) => r = nI T) (fun _ _ => True) (zq sz)) 0 0 (zq sz) := by
  refine Met.ofW (cc := cX6_tracks) (maxL := 2) (ret := (some .int)) (by decide) rfl ?_
  intro p e s m args below meth c s₁ B hml hv
  obtain ⟨rfl, hsz, hP, hK⟩ := hv
  have hx := B.exec
  have hb := B.bytes
  have hr := B.returns
  have hts := atoms_spec (ws := wsX6_tracks) B.pre
  have hown : s.vm.findClass RX6 = some m.cls := findClass_of_methodNamed B.named
  have hlocks := B.notSynchronized
  subst hsz
  have hi0 : ∀ w ∈ u_ws RX0 TX0 3, w ∈ wsX6_tracks := by decide +kernel
  have hi6 : ∀ w ∈ u_ws RX6 TX6 9, w ∈ wsX6_tracks := by decide +kernel
  have hA : ∀ q : Nat, s.heap.size ≤ q → zq s.heap.size q := fun q h => h
  have hS : va_S (zq s.heap.size) s.heap s.heap [] := va_S.rf
  have hl := lv_entry ([.ref o, .int (nI k)]) (n := 2) (Nat.le_of_ble_eq_true rfl)
  rw [lg_entry_eq]
  generalize (lg_sl ([.ref o, .int (nI k)]) ++ List.replicate (2 - (lg_sl ([.ref o, .int (nI k)])).length) Slot.unset).toArray = ls at hl ⊢
  have hl : lv_has ls 2 [(0, .ref o), (1, .int (nI k))] := hl
  refine lv_aload_n hx hb dX6_tracks_0 rfl (lv_at hl 0 rfl) ?_
  refine lv_iload_n hx hb dX6_tracks_1 rfl (lv_at hl 1 rfl) ?_
  refine va_callr (va_runV (As := [.int (nI k)]) (rest := []) ⟨hx, hb, hml, hown, hts⟩ (k_codeAt l dC dI s.heap.size cI cC o a0 a1 a2 tc nc ad h0 k hk hc4 had) (cwV 1 hts gX6_tracks_X6_codeAt rfl rfl rfl (by decide +kernel) ⟨Nat.le_of_ble_eq_true rfl, Nat.le_of_ble_eq_true rfl⟩) ⟨zfb, va_recv hK hP (ci := 6) (q0 := 0) rfl rfl, zpre (hP.sub (ws' := [(o, .inr (6, [.ref a0, .int tc, .ref a1, .int (nI nc), .null, .int 40, .int 48, .int 0, .ref a2])), (a1, .inl (cC, 4, .inr (.inr (.inr (.inr ad)))))]) [0, 1] rfl) (hK.sub (tys' := [(cI, .int), (cC, (.object RX0))]) [0, 1] rfl)⟩ rfl rfl hl.1 rfl (lv_room (Nat.le_of_ble_eq_true rfl)) dX6_tracks_2 ⟨Nat.le_of_ble_eq_true rfl, Nat.le_of_ble_eq_true rfl⟩) hS (fun q h1 h2 => absurd h2 (Nat.not_le.mpr h1)) (fun q h => hA q (Nat.le_trans hS.1 h)) (fun u9 ra9 t9 H1 locs ht hvm hw hB hz1 hk1 hS => ?_)
  have hB : h0 = ra9 := Eq.symm hB
  subst hB
  have hP := zr_keep hP hk1
  clear hk1 hz1 ht hvm
  refine va_get (D := (dC, dI)) (ci := 0) (v := .int (nI T)) (C := RX0) (T := TX0) (N := 3) hx hb hts hi0 hown hK hP 2 rfl rfl 1 (by decide) (hts (.fieldLink RX6 85 "Ringtrack$Code" "tracks" "I") (List.mem_of_getElem? (i := 1) rfl)) (fun _ h9 => h9) rfl dX6_tracks_5 ?_
  exact W.iret (v := (nI T)) hx hb hr (fun t9 ht hW => ⟨⟨_, (), rfl, rfl, trivial⟩, hS.F ht⟩) hS.2.2 dX6_tracks_8

set_option maxHeartbeats 4000000 in
set_option maxRecDepth 100000 in
/-- words(k) of a code that isn't there -/
theorem x_words (l : Launch) (dC : Nat → ClassId) (dI : Nat → Nat → Nat) (sz : Nat) (cI cC : ClassId) (o a0 a1 a2 : Nat) (tc : Int32) (nc : Nat) (ad : Nat → Option Nat) (k : Nat) (hfl : l.stackTraces = false) (hk : nc ≤ k) (hk2 : k < 2 ^ 30) : vx_Met l yX6_words wsX6_words ({ frames := 7, cells := 1, slots := 6, locals := 112 }) (va_Pc [.ref o, .int (nI k)] (zPcX (dC, dI) [(o, .inr (6, [.ref a0, .int tc, .ref a1, .int (nI nc), .null, .int 40, .int 48, .int 0, .ref a2])), (a1, .inl (cC, 4, .inr (.inr (.inr (.inr ad)))))] [(cI, .int), (cC, (.object RX0))] sz)) zNoQ (zXC "java/lang/IndexOutOfBoundsException" sz) 1 6 (zq sz) := by
  refine vx_ofW (cc := cX6_words) (maxL := 2) (ret := (some .int)) (by decide) rfl ?_
  intro p e s m args below meth c s₁ B hml hnt hv
  obtain ⟨rfl, hsz, hP, hK, hE⟩ := hv
  have hx := B.exec
  have hb := B.bytes
  have hr := B.returns
  have hts := atoms_spec (ws := wsX6_words) B.pre
  have hown : s.vm.findClass RX6 = some m.cls := findClass_of_methodNamed B.named
  have hlocks := B.notSynchronized
  subst hsz
  have hi6 : ∀ w ∈ u_ws RX6 TX6 9, w ∈ wsX6_words := by decide +kernel
  have hA : ∀ q : Nat, s.heap.size ≤ q → zq s.heap.size q := fun q h => h
  have hS : va_S (zq s.heap.size) s.heap s.heap [] := va_S.rf
  have hl := lv_entry ([.ref o, .int (nI k)]) (n := 2) (Nat.le_of_ble_eq_true rfl)
  rw [lg_entry_eq]
  generalize (lg_sl ([.ref o, .int (nI k)]) ++ List.replicate (2 - (lg_sl ([.ref o, .int (nI k)])).length) Slot.unset).toArray = ls at hl ⊢
  have hl : lv_has ls 2 [(0, .ref o), (1, .int (nI k))] := hl
  refine lv_aload_n hx hb dX6_words_0 rfl (lv_at hl 0 rfl) ?_
  refine lv_iload_n hx hb dX6_words_1 rfl (lv_at hl 1 rfl) ?_
  refine z_callx (vx_runV (As := [.int (nI k)]) (rest := []) ⟨hx, hb, hml, hown, hts⟩ (x_codeAt l dC dI s.heap.size cI cC o a0 a1 a2 tc nc ad k hfl hk hk2) (cwV 1 hts gX6_words_X6_codeAt rfl rfl rfl (by decide +kernel) ⟨Nat.le_of_ble_eq_true rfl, Nat.le_of_ble_eq_true rfl⟩) ⟨zfbX, va_recv hK hP (ci := 6) (q0 := 0) rfl rfl, zpreX (hP.sub (ws' := [(o, .inr (6, [.ref a0, .int tc, .ref a1, .int (nI nc), .null, .int 40, .int 48, .int 0, .ref a2])), (a1, .inl (cC, 4, .inr (.inr (.inr (.inr ad)))))]) [0, 1] rfl) (hK.sub (tys' := [(cI, .int), (cC, (.object RX0))]) [0, 1] rfl) hE hS hA⟩ rfl rfl hl.1 rfl (lv_room (Nat.le_of_ble_eq_true rfl)) dX6_words_2 ⟨Nat.le_of_ble_eq_true rfl, Nat.le_of_ble_eq_true rfl⟩) hS hA (fun ce q9 H1 locs hz1 hk1 hS hce hcv hcl => ?_)
  exact z_out hnt hlocks hce hcv hcl hS (Nat.le_of_ble_eq_true rfl) (Nat.le_of_ble_eq_true rfl)

set_option maxHeartbeats 4000000 in
set_option maxRecDepth 100000 in
/-- word(k, j) -/
theorem k_word (l : Launch) (dC : Nat → ClassId) (dI : Nat → Nat → Nat) (sz : Nat) (cI cC : ClassId) (o a0 a1 a2 : Nat) (tc : Int32) (nc : Nat) (ad : Nat → Option Nat) (h0 h1 h2 n T : Nat) (f g : Nat → Int32) (k j : Nat) (hk : k < nc) (hc4 : nc ≤ 4) (had : ad k = some h0) (hjn : j < n) (hn : n < 2 ^ 31) : Met l yX6_word wsX6_word ({ frames := 2, cells := 0, slots := 0, locals := 44 }) (va_Pc [.ref o, .int (nI k), .int (nI j)] (zPc (dC, dI) [(o, .inr (6, [.ref a0, .int tc, .ref a1, .int (nI nc), .null, .int 40, .int 48, .int 0, .ref a2])), (a1, .inl (cC, 4, .inr (.inr (.inr (.inr ad))))), (h0, .inr (0, [.ref h1, .int (nI T), .ref h2])), (h1, .inl (cI, n, .inl f)), (h2, .inl (cI, 256, .inl g))] [(cI, .int), (cC, (.object RX0))] sz)) (va_Qi (fun (r : Int32) (_ : Unit) => r = f j) (fun _ _ => True) (zq sz)) 0 0 (zq sz) := by
  refine Met.ofW (cc := cX6_word) (maxL := 4) (ret := (some .int)) (by decide) rfl ?_
  intro p e s m args below meth c s₁ B hml hv
  obtain ⟨rfl, hsz, hP, hK⟩ := hv
  have hx := B.exec
  have hb := B.bytes
  have hr := B.returns
  have hts := atoms_spec (ws := wsX6_word) B.pre
  have hown : s.vm.findClass RX6 = some m.cls := findClass_of_methodNamed B.named
  have hlocks := B.notSynchronized
  subst hsz
  have hi0 : ∀ w ∈ u_ws RX0 TX0 3, w ∈ wsX6_word := by decide +kernel
  have hi6 : ∀ w ∈ u_ws RX6 TX6 9, w ∈ wsX6_word := by decide +kernel
  have hA : ∀ q : Nat, s.heap.size ≤ q → zq s.heap.size q := fun q h => h
  have hS : va_S (zq s.heap.size) s.heap s.heap [] := va_S.rf
  have hl := lv_entry ([.ref o, .int (nI k), .int (nI j)]) (n := 4) (Nat.le_of_ble_eq_true rfl)
  rw [lg_entry_eq]
  generalize (lg_sl ([.ref o, .int (nI k), .int (nI j)]) ++ List.replicate (4 - (lg_sl ([.ref o, .int (nI k), .int (nI j)])).length) Slot.unset).toArray = ls at hl ⊢
  have hl : lv_has ls 4 [(0, .ref o), (1, .int (nI k)), (2, .int (nI j))] := hl
  have hj : j < 2 ^ 31 := by omega
  refine lv_aload_n hx hb dX6_word_0 rfl (lv_at hl 0 rfl) ?_
  refine lv_iload_n hx hb dX6_word_1 rfl (lv_at hl 1 rfl) ?_
  refine va_callr (va_runV (As := [.int (nI k)]) (rest := []) ⟨hx, hb, hml, hown, hts⟩ (k_codeAt l dC dI s.heap.size cI cC o a0 a1 a2 tc nc ad h0 k hk hc4 had) (cwV 1 hts gX6_word_X6_codeAt rfl rfl rfl (by decide +kernel) ⟨Nat.le_of_ble_eq_true rfl, Nat.le_of_ble_eq_true rfl⟩) ⟨zfb, va_recv hK hP (ci := 6) (q0 := 0) rfl rfl, zpre (hP.sub (ws' := [(o, .inr (6, [.ref a0, .int tc, .ref a1, .int (nI nc), .null, .int 40, .int 48, .int 0, .ref a2])), (a1, .inl (cC, 4, .inr (.inr (.inr (.inr ad)))))]) [0, 1] rfl) (hK.sub (tys' := [(cI, .int), (cC, (.object RX0))]) [0, 1] rfl)⟩ rfl rfl hl.1 rfl (lv_room (Nat.le_of_ble_eq_true rfl)) dX6_word_2 ⟨Nat.le_of_ble_eq_true rfl, Nat.le_of_ble_eq_true rfl⟩) hS (fun q h1 h2 => absurd h2 (Nat.not_le.mpr h1)) (fun q h => hA q (Nat.le_trans hS.1 h)) (fun u9 ra9 t9 H1 locs ht hvm hw hB hz1 hk1 hS => ?_)
  have hB : h0 = ra9 := Eq.symm hB
  subst hB
  have hP := zr_keep hP hk1
  clear hk1 hz1 ht hvm
  refine lv_astore_n (lv' := [(3, .ref h0), (0, .ref o), (1, .int (nI k)), (2, .int (nI j))]) hx hb dX6_word_5 rfl hl (by decide) rfl (fun ls hl => ?_)
  refine lv_aload_n hx hb dX6_word_6 rfl (lv_at hl 0 rfl) ?_
  refine lv_iload_n hx hb dX6_word_7 rfl (lv_at hl 3 rfl) ?_
  refine va_calli (va_runV (As := [.int (nI j)]) (rest := []) ⟨hx, hb, hml, hown, hts⟩ (k_hasPlace l dC dI H1.size cI h0 h1 h2 n T f g j hj hn) (cwV 1 hts gX6_word_X0_hasPlace rfl rfl rfl (by decide +kernel) ⟨Nat.le_of_ble_eq_true rfl, Nat.le_of_ble_eq_true rfl⟩) ⟨zfb, va_recv hK hP (ci := 0) (q0 := 2) rfl rfl, zpre (hP.sub (ws' := [(h0, .inr (0, [.ref h1, .int (nI T), .ref h2])), (h1, .inl (cI, n, .inl f)), (h2, .inl (cI, 256, .inl g))]) [2, 3, 4] rfl) (hK.sub (tys' := [(cI, .int)]) [0] rfl)⟩ rfl rfl hl.1 rfl (lv_room (Nat.le_of_ble_eq_true rfl)) dX6_word_8 ⟨Nat.le_of_ble_eq_true rfl, Nat.le_of_ble_eq_true rfl⟩) hS (fun q h1 h2 => absurd h2 (Nat.not_le.mpr h1)) (fun q h => hA q (Nat.le_trans hS.1 h)) (fun r9 u9 t9 H1 locs ht hvm hw hB hz1 hk1 hS => ?_)
  have hw : r9 = zb (decide (j < n)) := hw
  subst hw
  have hP := zr_keep hP hk1
  clear hk1 hz1 hB ht hvm
  refine zt_top (y := 1) (by rw [decide_eq_true hjn]; rfl) ?_
  refine lv_if_ne (tgt := 24) hx hb dX6_word_11 (by decide) (fun c11 => ?_) (fun c => absurd c (by decide))
  refine lv_aload_n hx hb dX6_word_24 rfl (lv_at hl 0 rfl) ?_
  refine lv_iload_n hx hb dX6_word_25 rfl (lv_at hl 3 rfl) ?_
  refine va_calli (va_runV (As := [.int (nI j)]) (rest := []) ⟨hx, hb, hml, hown, hts⟩ (k_wordAt l dC dI H1.size cI h0 h1 h2 n T f g j hjn hn) (cwV 1 hts gX6_word_X0_wordAt rfl rfl rfl (by decide +kernel) ⟨Nat.le_of_ble_eq_true rfl, Nat.le_of_ble_eq_true rfl⟩) ⟨zfb, va_recv hK hP (ci := 0) (q0 := 2) rfl rfl, zpre (hP.sub (ws' := [(h0, .inr (0, [.ref h1, .int (nI T), .ref h2])), (h1, .inl (cI, n, .inl f)), (h2, .inl (cI, 256, .inl g))]) [2, 3, 4] rfl) (hK.sub (tys' := [(cI, .int)]) [0] rfl)⟩ rfl rfl hl.1 rfl (lv_room (Nat.le_of_ble_eq_true rfl)) dX6_word_26 ⟨Nat.le_of_ble_eq_true rfl, Nat.le_of_ble_eq_true rfl⟩) hS (fun q h1 h2 => absurd h2 (Nat.not_le.mpr h1)) (fun q h => hA q (Nat.le_trans hS.1 h)) (fun r9 u9 t9 H1 locs ht hvm hw hB hz1 hk1 hS => ?_)
  have hw : r9 = f j := hw
  subst hw
  have hP := zr_keep hP hk1
  clear hk1 hz1 hB ht hvm
  exact W.iret (v := (f j)) hx hb hr (fun t9 ht hW => ⟨⟨_, (), rfl, rfl, trivial⟩, hS.F ht⟩) hS.2.2 dX6_word_29

set_option maxHeartbeats 4000000 in
set_option maxRecDepth 100000 in
/-- word(k, j) behind the last place -/
theorem x_word (l : Launch) (dC : Nat → ClassId) (dI : Nat → Nat → Nat) (sz : Nat) (cI cC : ClassId) (o a0 a1 a2 : Nat) (tc : Int32) (nc : Nat) (ad : Nat → Option Nat) (h0 h1 h2 n T : Nat) (f g : Nat → Int32) (k j : Nat) (hfl : l.stackTraces = false) (hk : k < nc) (hc4 : nc ≤ 4) (had : ad k = some h0) (hjn : n ≤ j) (hj : j < 2 ^ 31) : vx_Met l yX6_word wsX6_word ({ frames := 6, cells := 1, slots := 6, locals := 90 }) (va_Pc [.ref o, .int (nI k), .int (nI j)] (zPcX (dC, dI) [(o, .inr (6, [.ref a0, .int tc, .ref a1, .int (nI nc), .null, .int 40, .int 48, .int 0, .ref a2])), (a1, .inl (cC, 4, .inr (.inr (.inr (.inr ad))))), (h0, .inr (0, [.ref h1, .int (nI T), .ref h2])), (h1, .inl (cI, n, .inl f)), (h2, .inl (cI, 256, .inl g))] [(cI, .int), (cC, (.object RX0))] sz)) zNoQ (zXC "java/lang/IllegalArgumentException" sz) 1 6 (zq sz) := by
  refine vx_ofW (cc := cX6_word) (maxL := 4) (ret := (some .int)) (by decide) rfl ?_
  intro p e s m args below meth c s₁ B hml hnt hv
  obtain ⟨rfl, hsz, hP, hK, hE⟩ := hv
  have hx := B.exec
  have hb := B.bytes
  have hr := B.returns
  have hts := atoms_spec (ws := wsX6_word) B.pre
  have hown : s.vm.findClass RX6 = some m.cls := findClass_of_methodNamed B.named
  have hlocks := B.notSynchronized
  subst hsz
  have hi0 : ∀ w ∈ u_ws RX0 TX0 3, w ∈ wsX6_word := by decide +kernel
  have hi6 : ∀ w ∈ u_ws RX6 TX6 9, w ∈ wsX6_word := by decide +kernel
  have hA : ∀ q : Nat, s.heap.size ≤ q → zq s.heap.size q := fun q h => h
  have hS : va_S (zq s.heap.size) s.heap s.heap [] := va_S.rf
  have hl := lv_entry ([.ref o, .int (nI k), .int (nI j)]) (n := 4) (Nat.le_of_ble_eq_true rfl)
  rw [lg_entry_eq]
  generalize (lg_sl ([.ref o, .int (nI k), .int (nI j)]) ++ List.replicate (4 - (lg_sl ([.ref o, .int (nI k), .int (nI j)])).length) Slot.unset).toArray = ls at hl ⊢
  have hl : lv_has ls 4 [(0, .ref o), (1, .int (nI k)), (2, .int (nI j))] := hl
  have hn : n < 2 ^ 31 := by omega
  refine lv_aload_n hx hb dX6_word_0 rfl (lv_at hl 0 rfl) ?_
  refine lv_iload_n hx hb dX6_word_1 rfl (lv_at hl 1 rfl) ?_
  refine va_callr (va_runV (As := [.int (nI k)]) (rest := []) ⟨hx, hb, hml, hown, hts⟩ (k_codeAt l dC dI s.heap.size cI cC o a0 a1 a2 tc nc ad h0 k hk hc4 had) (cwV 1 hts gX6_word_X6_codeAt rfl rfl rfl (by decide +kernel) ⟨Nat.le_of_ble_eq_true rfl, Nat.le_of_ble_eq_true rfl⟩) ⟨zfb, va_recv hK hP (ci := 6) (q0 := 0) rfl rfl, zpre (hP.sub (ws' := [(o, .inr (6, [.ref a0, .int tc, .ref a1, .int (nI nc), .null, .int 40, .int 48, .int 0, .ref a2])), (a1, .inl (cC, 4, .inr (.inr (.inr (.inr ad)))))]) [0, 1] rfl) (hK.sub (tys' := [(cI, .int), (cC, (.object RX0))]) [0, 1] rfl)⟩ rfl rfl hl.1 rfl (lv_room (Nat.le_of_ble_eq_true rfl)) dX6_word_2 ⟨Nat.le_of_ble_eq_true rfl, Nat.le_of_ble_eq_true rfl⟩) hS (fun q h1 h2 => absurd h2 (Nat.not_le.mpr h1)) (fun q h => hA q (Nat.le_trans hS.1 h)) (fun u9 ra9 t9 H1 locs ht hvm hw hB hz1 hk1 hS => ?_)
  have hB : h0 = ra9 := Eq.symm hB
  subst hB
  have hP := zr_keep hP hk1
  clear hk1 hz1 ht hvm
  refine lv_astore_n (lv' := [(3, .ref h0), (0, .ref o), (1, .int (nI k)), (2, .int (nI j))]) hx hb dX6_word_5 rfl hl (by decide) rfl (fun ls hl => ?_)
  refine lv_aload_n hx hb dX6_word_6 rfl (lv_at hl 0 rfl) ?_
  refine lv_iload_n hx hb dX6_word_7 rfl (lv_at hl 3 rfl) ?_
  refine va_calli (va_runV (As := [.int (nI j)]) (rest := []) ⟨hx, hb, hml, hown, hts⟩ (k_hasPlace l dC dI H1.size cI h0 h1 h2 n T f g j hj hn) (cwV 1 hts gX6_word_X0_hasPlace rfl rfl rfl (by decide +kernel) ⟨Nat.le_of_ble_eq_true rfl, Nat.le_of_ble_eq_true rfl⟩) ⟨zfb, va_recv hK hP (ci := 0) (q0 := 2) rfl rfl, zpre (hP.sub (ws' := [(h0, .inr (0, [.ref h1, .int (nI T), .ref h2])), (h1, .inl (cI, n, .inl f)), (h2, .inl (cI, 256, .inl g))]) [2, 3, 4] rfl) (hK.sub (tys' := [(cI, .int)]) [0] rfl)⟩ rfl rfl hl.1 rfl (lv_room (Nat.le_of_ble_eq_true rfl)) dX6_word_8 ⟨Nat.le_of_ble_eq_true rfl, Nat.le_of_ble_eq_true rfl⟩) hS (fun q h1 h2 => absurd h2 (Nat.not_le.mpr h1)) (fun q h => hA q (Nat.le_trans hS.1 h)) (fun r9 u9 t9 H1 locs ht hvm hw hB hz1 hk1 hS => ?_)
  have hw : r9 = zb (decide (j < n)) := hw
  subst hw
  have hP := zr_keep hP hk1
  clear hk1 hz1 hB ht hvm
  refine zt_top (y := 0) (by rw [decide_eq_false (Nat.not_lt.mpr hjn)]; rfl) ?_
  refine lv_if_ne (tgt := 24) hx hb dX6_word_11 (by decide) (fun c => absurd c (fun q => q rfl)) (fun c11 => ?_)
  obtain ⟨sa, hsa⟩ := hE.2.1 (92, "no such place") (List.mem_of_getElem? (i := 4) rfl)
  exact vx_throwS hx hb hfl (own := RX6) (cls := "java/lang/IllegalArgumentException") (names := ["java/lang/RuntimeException", "java/lang/Exception"]) (ik := 37) (is := 92) (ic := 41) (A := zq s.heap.size) hown (by decide) (by decide) (hts (.classLink RX6 37 "java/lang/IllegalArgumentException") (List.mem_of_getElem? (i := 1) rfl)) (hts (.initialized "java/lang/IllegalArgumentException") (List.mem_of_getElem? (i := 2) rfl)) hsa (zg_of (fun w hw => hts w (List.mem_cons_of_mem _ (List.mem_append_left _ (List.mem_append_right _ hw)))) zg_IAE hE.2.2.1) zo_IAE hE.1.1 hE.1.2 hS (hl.1.trans hml.symm) dX6_word_14 dX6_word_17 dX6_word_18 dX6_word_20 dX6_word_23 (fun x hx => (hnt x hx).elim) (Nat.le_of_ble_eq_true rfl) (Nat.le_of_ble_eq_true rfl) (Nat.le_of_ble_eq_true rfl) (Nat.le_of_ble_eq_true rfl) hlocks (z_hx hS) hS.2.2 (Nat.le_of_ble_eq_true rfl) (Nat.le_of_ble_eq_true rfl)

set_option maxHeartbeats 4000000 in
set_option maxRecDepth 100000 in
/-- place(k, j) of a word that is there -/
theorem k_place (l : Launch) (dC : Nat → ClassId) (dI : Nat → Nat → Nat) (sz : Nat) (cI cC : ClassId) (o a0 a1 a2 : Nat) (tc : Int32) (nc : Nat) (ad : Nat → Option Nat) (h0 h1 h2 n T : Nat) (f g : Nat → Int32) (k j : Nat) (hk : k < nc) (hc4 : nc ≤ 4) (had : ad k = some h0) (hj : j < 256) (hg : ¬ g j = -1) : Met l yX6_place wsX6_place ({ frames := 2, cells := 0, slots := 0, locals := 44 }) (va_Pc [.ref o, .int (nI k), .int (nI j)] (zPc (dC, dI) [(o, .inr (6, [.ref a0, .int tc, .ref a1, .int (nI nc), .null, .int 40, .int 48, .int 0, .ref a2])), (a1, .inl (cC, 4, .inr (.inr (.inr (.inr ad))))), (h0, .inr (0, [.ref h1, .int (nI T), .ref h2])), (h1, .inl (cI, n, .inl f)), (h2, .inl (cI, 256, .inl g))] [(cI, .int), (cC, (.object RX0))] sz)) (va_Qi (fun (r : Int32) (_ : Unit) => r = g j) (fun _ _ => True) (zq sz)) 0 0 (zq sz) := by
  refine Met.ofW (cc := cX6_place) (maxL := 5) (ret := (some .int)) (by decide) rfl ?_
  intro p e s m args below meth c s₁ B hml hv
  obtain ⟨rfl, hsz, hP, hK⟩ := hv
  have hx := B.exec
  have hb := B.bytes
  have hr := B.returns
  have hts := atoms_spec (ws := wsX6_place) B.pre
  have hown : s.vm.findClass RX6 = some m.cls := findClass_of_methodNamed B.named
  have hlocks := B.notSynchronized
  subst hsz
  have hi0 : ∀ w ∈ u_ws RX0 TX0 3, w ∈ wsX6_place := by decide +kernel
  have hi6 : ∀ w ∈ u_ws RX6 TX6 9, w ∈ wsX6_place := by decide +kernel
  have hA : ∀ q : Nat, s.heap.size ≤ q → zq s.heap.size q := fun q h => h
  have hS : va_S (zq s.heap.size) s.heap s.heap [] := va_S.rf
  have hl := lv_entry ([.ref o, .int (nI k), .int (nI j)]) (n := 5) (Nat.le_of_ble_eq_true rfl)
  rw [lg_entry_eq]
  generalize (lg_sl ([.ref o, .int (nI k), .int (nI j)]) ++ List.replicate (5 - (lg_sl ([.ref o, .int (nI k), .int (nI j)])).length) Slot.unset).toArray = ls at hl ⊢
  have hl : lv_has ls 5 [(0, .ref o), (1, .int (nI k)), (2, .int (nI j))] := hl
  refine lv_aload_n hx hb dX6_place_0 rfl (lv_at hl 0 rfl) ?_
  refine lv_iload_n hx hb dX6_place_1 rfl (lv_at hl 1 rfl) ?_
  refine va_callr (va_runV (As := [.int (nI k)]) (rest := []) ⟨hx, hb, hml, hown, hts⟩ (k_codeAt l dC dI s.heap.size cI cC o a0 a1 a2 tc nc ad h0 k hk hc4 had) (cwV 1 hts gX6_place_X6_codeAt rfl rfl rfl (by decide +kernel) ⟨Nat.le_of_ble_eq_true rfl, Nat.le_of_ble_eq_true rfl⟩) ⟨zfb, va_recv hK hP (ci := 6) (q0 := 0) rfl rfl, zpre (hP.sub (ws' := [(o, .inr (6, [.ref a0, .int tc, .ref a1, .int (nI nc), .null, .int 40, .int 48, .int 0, .ref a2])), (a1, .inl (cC, 4, .inr (.inr (.inr (.inr ad)))))]) [0, 1] rfl) (hK.sub (tys' := [(cI, .int), (cC, (.object RX0))]) [0, 1] rfl)⟩ rfl rfl hl.1 rfl (lv_room (Nat.le_of_ble_eq_true rfl)) dX6_place_2 ⟨Nat.le_of_ble_eq_true rfl, Nat.le_of_ble_eq_true rfl⟩) hS (fun q h1 h2 => absurd h2 (Nat.not_le.mpr h1)) (fun q h => hA q (Nat.le_trans hS.1 h)) (fun u9 ra9 t9 H1 locs ht hvm hw hB hz1 hk1 hS => ?_)
  have hB : h0 = ra9 := Eq.symm hB
  subst hB
  have hP := zr_keep hP hk1
  clear hk1 hz1 ht hvm
  refine lv_astore_n (lv' := [(3, .ref h0), (0, .ref o), (1, .int (nI k)), (2, .int (nI j))]) hx hb dX6_place_5 rfl hl (by decide) rfl (fun ls hl => ?_)
  refine lv_iload_n hx hb dX6_place_6 rfl (lv_at hl 3 rfl) ?_
  refine lv_iconst (v := 0) hx hb dX6_place_7 (by decide) ?_
  refine lv_sipush (v := 255) hx hb dX6_place_8 (by decide) ?_
  refine va_calli (va_runS (As := [.int (nI j), .int 0, .int 255]) (rest := []) ⟨hx, hb, hml, hown, hts⟩ (k_isWithin l dC dI H1.size (nI j) 0 255) (va_cwS 3 hts gX6_place_X6_isWithin rfl rfl rfl (by decide +kernel) ⟨Nat.le_of_ble_eq_true rfl, Nat.le_of_ble_eq_true rfl⟩) ⟨zfb, zpre (hP.sub (ws' := []) [] rfl) (hK.sub (tys' := []) [] rfl)⟩ rfl rfl hl.1 rfl (lv_room (Nat.le_of_ble_eq_true rfl)) dX6_place_11 ⟨Nat.le_of_ble_eq_true rfl, Nat.le_of_ble_eq_true rfl⟩) hS (fun q h1 h2 => absurd h2 (Nat.not_le.mpr h1)) (fun q h => hA q (Nat.le_trans hS.1 h)) (fun r9 u9 t9 H1 locs ht hvm hw hB hz1 hk1 hS => ?_)
  have hw : r9 = zb (decide ((0 : Int32) ≤ (nI j)) && decide ((nI j) ≤ 255)) := hw
  subst hw
  have hP := zr_keep hP hk1
  clear hk1 hz1 hB ht hvm
  refine zt_top (y := 1) (by rw [decide_eq_true (nI_pos' (by omega)), decide_eq_true (show nI j ≤ (255 : Int32) from nI_le (b := 255) (by omega) (by decide))]; rfl) ?_
  refine lv_if_ne (tgt := 27) hx hb dX6_place_14 (by decide) (fun c14 => ?_) (fun c => absurd c (by decide))
  refine lv_aload_n hx hb dX6_place_27 rfl (lv_at hl 0 rfl) ?_
  refine lv_iload_n hx hb dX6_place_28 rfl (lv_at hl 3 rfl) ?_
  refine va_calli (va_runV (As := [.int (nI j)]) (rest := []) ⟨hx, hb, hml, hown, hts⟩ (k_placeOf l dC dI H1.size cI h0 h1 h2 n T f g j hj) (cwV 1 hts gX6_place_X0_placeOf rfl rfl rfl (by decide +kernel) ⟨Nat.le_of_ble_eq_true rfl, Nat.le_of_ble_eq_true rfl⟩) ⟨zfb, va_recv hK hP (ci := 0) (q0 := 2) rfl rfl, zpre (hP.sub (ws' := [(h0, .inr (0, [.ref h1, .int (nI T), .ref h2])), (h1, .inl (cI, n, .inl f)), (h2, .inl (cI, 256, .inl g))]) [2, 3, 4] rfl) (hK.sub (tys' := [(cI, .int)]) [0] rfl)⟩ rfl rfl hl.1 rfl (lv_room (Nat.le_of_ble_eq_true rfl)) dX6_place_29 ⟨Nat.le_of_ble_eq_true rfl, Nat.le_of_ble_eq_true rfl⟩) hS (fun q h1 h2 => absurd h2 (Nat.not_le.mpr h1)) (fun q h => hA q (Nat.le_trans hS.1 h)) (fun r9 u9 t9 H1 locs ht hvm hw hB hz1 hk1 hS => ?_)
  have hw : r9 = g j := hw
  subst hw
  have hP := zr_keep hP hk1
  clear hk1 hz1 hB ht hvm
  refine lv_istore (lv' := [(4, .int (g j)), (3, .ref h0), (0, .ref o), (1, .int (nI k)), (2, .int (nI j))]) hx hb dX6_place_32 hl (by decide) rfl (fun ls hl => ?_)
  refine lv_iload hx hb dX6_place_34 (lv_at hl 0 rfl) ?_
  refine lv_iconst (v := (-1)) hx hb dX6_place_36 (by decide) ?_
  refine lv_icmp_ne (tgt := 50) hx hb dX6_place_37 (by decide) (fun c37 => ?_) (fun c => absurd c (hg))
  refine lv_iload hx hb dX6_place_50 (lv_at hl 0 rfl) ?_
  exact W.iret (v := (g j)) hx hb hr (fun t9 ht hW => ⟨⟨_, (), rfl, rfl, trivial⟩, hS.F ht⟩) hS.2.2 dX6_place_52

set_option maxHeartbeats 4000000 in
set_option maxRecDepth 100000 in
/-- place(k, j) of a code that isn't there -/
theorem x_place (l : Launch) (dC : Nat → ClassId) (dI : Nat → Nat → Nat) (sz : Nat) (cI cC : ClassId) (o a0 a1 a2 : Nat) (tc : Int32) (nc : Nat) (ad : Nat → Option Nat) (k : Nat) (w : Int32) (hfl : l.stackTraces = false) (hk : nc ≤ k) (hk2 : k < 2 ^ 30) : vx_Met l yX6_place wsX6_place ({ frames := 7, cells := 1, slots := 6, locals := 112 }) (va_Pc [.ref o, .int (nI k), .int w] (zPcX (dC, dI) [(o, .inr (6, [.ref a0, .int tc, .ref a1, .int (nI nc), .null, .int 40, .int 48, .int 0, .ref a2])), (a1, .inl (cC, 4, .inr (.inr (.inr (.inr ad)))))] [(cI, .int), (cC, (.object RX0))] sz)) zNoQ (zXC "java/lang/IndexOutOfBoundsException" sz) 1 6 (zq sz) := by
  refine vx_ofW (cc := cX6_place) (maxL := 5) (ret := (some .int)) (by decide) rfl ?_
  intro p e s m args below meth c s₁ B hml hnt hv
  obtain ⟨rfl, hsz, hP, hK, hE⟩ := hv
  have hx := B.exec
  have hb := B.bytes
  have hr := B.returns
  have hts := atoms_spec (ws := wsX6_place) B.pre
  have hown : s.vm.findClass RX6 = some m.cls := findClass_of_methodNamed B.named
  have hlocks := B.notSynchronized
  subst hsz
  have hi6 : ∀ w ∈ u_ws RX6 TX6 9, w ∈ wsX6_place := by decide +kernel
  have hA : ∀ q : Nat, s.heap.size ≤ q → zq s.heap.size q := fun q h => h
  have hS : va_S (zq s.heap.size) s.heap s.heap [] := va_S.rf
  have hl := lv_entry ([.ref o, .int (nI k), .int w]) (n := 5) (Nat.le_of_ble_eq_true rfl)
  rw [lg_entry_eq]
  generalize (lg_sl ([.ref o, .int (nI k), .int w]) ++ List.replicate (5 - (lg_sl ([.ref o, .int (nI k), .int w])).length) Slot.unset).toArray = ls at hl ⊢
  have hl : lv_has ls 5 [(0, .ref o), (1, .int (nI k)), (2, .int w)] := hl
  refine lv_aload_n hx hb dX6_place_0 rfl (lv_at hl 0 rfl) ?_
  refine lv_iload_n hx hb dX6_place_1 rfl (lv_at hl 1 rfl) ?_
  refine z_callx (vx_runV (As := [.int (nI k)]) (rest := []) ⟨hx, hb, hml, hown, hts⟩ (x_codeAt l dC dI s.heap.size cI cC o a0 a1 a2 tc nc ad k hfl hk hk2) (cwV 1 hts gX6_place_X6_codeAt rfl rfl rfl (by decide +kernel) ⟨Nat.le_of_ble_eq_true rfl, Nat.le_of_ble_eq_true rfl⟩) ⟨zfbX, va_recv hK hP (ci := 6) (q0 := 0) rfl rfl, zpreX (hP.sub (ws' := [(o, .inr (6, [.ref a0, .int tc, .ref a1, .int (nI nc), .null, .int 40, .int 48, .int 0, .ref a2])), (a1, .inl (cC, 4, .inr (.inr (.inr (.inr ad)))))]) [0, 1] rfl) (hK.sub (tys' := [(cI, .int), (cC, (.object RX0))]) [0, 1] rfl) hE hS hA⟩ rfl rfl hl.1 rfl (lv_room (Nat.le_of_ble_eq_true rfl)) dX6_place_2 ⟨Nat.le_of_ble_eq_true rfl, Nat.le_of_ble_eq_true rfl⟩) hS hA (fun ce q9 H1 locs hz1 hk1 hS hce hcv hcl => ?_)
  exact z_out hnt hlocks hce hcv hcl hS (Nat.le_of_ble_eq_true rfl) (Nat.le_of_ble_eq_true rfl)

set_option maxHeartbeats 4000000 in
set_option maxRecDepth 100000 in
/-- changes(k, t) -/
theorem k_changes (l : Launch) (dC : Nat → ClassId) (dI : Nat → Nat → Nat) (sz : Nat) (cI cC : ClassId) (o a0 a1 a2 : Nat) (tc : Int32) (nc : Nat) (ad : Nat → Option Nat) (h0 h1 h2 n T : Nat) (f g : Nat → Int32) (k t : Nat) (hk : k < nc) (hc4 : nc ≤ 4) (had : ad k = some h0) (htT : t < T) (hT : T < 2 ^ 31) (hn : n < 2 ^ 30) : Met l yX6_changes wsX6_changes ({ frames := 4, cells := 0, slots := 0, locals := 88 }) (va_Pc [.ref o, .int (nI k), .int (nI t)] (zPcN (dC, dI) [(o, .inr (6, [.ref a0, .int tc, .ref a1, .int (nI nc), .null, .int 40, .int 48, .int 0, .ref a2])), (a1, .inl (cC, 4, .inr (.inr (.inr (.inr ad))))), (h0, .inr (0, [.ref h1, .int (nI T), .ref h2])), (h1, .inl (cI, n, .inl f)), (h2, .inl (cI, 256, .inl g))] [(cI, .int), (cC, (.object RX0))] sz)) (va_Qi (fun (r : Int32) (_ : Unit) => r = nI (zchg f n t)) (fun _ _ => True) (zq sz)) 0 0 (zq sz) := by
  refine Met.ofW (cc := cX6_changes) (maxL := 4) (ret := (some .int)) (by decide) rfl ?_
  intro p e s m args below meth c s₁ B hml hv
  obtain ⟨rfl, hsz, hP, hK, hE⟩ := hv
  have hx := B.exec
  have hb := B.bytes
  have hr := B.returns
  have hts := atoms_spec (ws := wsX6_changes) B.pre
  have hown : s.vm.findClass RX6 = some m.cls := findClass_of_methodNamed B.named
  have hlocks := B.notSynchronized
  subst hsz
  have hi0 : ∀ w ∈ u_ws RX0 TX0 3, w ∈ wsX6_changes := by decide +kernel
  have hi6 : ∀ w ∈ u_ws RX6 TX6 9, w ∈ wsX6_changes := by decide +kernel
  have hA : ∀ q : Nat, s.heap.size ≤ q → zq s.heap.size q := fun q h => h
  have hS : va_S (zq s.heap.size) s.heap s.heap [] := va_S.rf
  have hl := lv_entry ([.ref o, .int (nI k), .int (nI t)]) (n := 4) (Nat.le_of_ble_eq_true rfl)
  rw [lg_entry_eq]
  generalize (lg_sl ([.ref o, .int (nI k), .int (nI t)]) ++ List.replicate (4 - (lg_sl ([.ref o, .int (nI k), .int (nI t)])).length) Slot.unset).toArray = ls at hl ⊢
  have hl : lv_has ls 4 [(0, .ref o), (1, .int (nI k)), (2, .int (nI t))] := hl
  have ht : t < 2 ^ 31 := by omega
  refine lv_aload_n hx hb dX6_changes_0 rfl (lv_at hl 0 rfl) ?_
  refine lv_iload_n hx hb dX6_changes_1 rfl (lv_at hl 1 rfl) ?_
  refine va_callr (va_runV (As := [.int (nI k)]) (rest := []) ⟨hx, hb, hml, hown, hts⟩ (k_codeAt l dC dI s.heap.size cI cC o a0 a1 a2 tc nc ad h0 k hk hc4 had) (cwV 1 hts gX6_changes_X6_codeAt rfl rfl rfl (by decide +kernel) ⟨Nat.le_of_ble_eq_true rfl, Nat.le_of_ble_eq_true rfl⟩) ⟨zfb, va_recv hK hP (ci := 6) (q0 := 0) rfl rfl, zpre (hP.sub (ws' := [(o, .inr (6, [.ref a0, .int tc, .ref a1, .int (nI nc), .null, .int 40, .int 48, .int 0, .ref a2])), (a1, .inl (cC, 4, .inr (.inr (.inr (.inr ad)))))]) [0, 1] rfl) (hK.sub (tys' := [(cI, .int), (cC, (.object RX0))]) [0, 1] rfl)⟩ rfl rfl hl.1 rfl (lv_room (Nat.le_of_ble_eq_true rfl)) dX6_changes_2 ⟨Nat.le_of_ble_eq_true rfl, Nat.le_of_ble_eq_true rfl⟩) hS (fun q h1 h2 => absurd h2 (Nat.not_le.mpr h1)) (fun q h => hA q (Nat.le_trans hS.1 h)) (fun u9 ra9 t9 H1 locs ht hvm hw hB hz1 hk1 hS => ?_)
  have hB : h0 = ra9 := Eq.symm hB
  subst hB
  have hP := zr_keep hP hk1
  clear hk1 hz1 ht hvm
  refine lv_astore_n (lv' := [(3, .ref h0), (0, .ref o), (1, .int (nI k)), (2, .int (nI t))]) hx hb dX6_changes_5 rfl hl (by decide) rfl (fun ls hl => ?_)
  refine lv_aload_n hx hb dX6_changes_6 rfl (lv_at hl 0 rfl) ?_
  refine lv_iload_n hx hb dX6_changes_7 rfl (lv_at hl 3 rfl) ?_
  refine va_calli (va_runV (As := [.int (nI t)]) (rest := []) ⟨hx, hb, hml, hown, hts⟩ (k_hasTrack l dC dI H1.size cI h0 h1 h2 n T f g t ht hT) (cwV 1 hts gX6_changes_X0_hasTrack rfl rfl rfl (by decide +kernel) ⟨Nat.le_of_ble_eq_true rfl, Nat.le_of_ble_eq_true rfl⟩) ⟨zfb, va_recv hK hP (ci := 0) (q0 := 2) rfl rfl, zpre (hP.sub (ws' := [(h0, .inr (0, [.ref h1, .int (nI T), .ref h2])), (h1, .inl (cI, n, .inl f)), (h2, .inl (cI, 256, .inl g))]) [2, 3, 4] rfl) (hK.sub (tys' := [(cI, .int)]) [0] rfl)⟩ rfl rfl hl.1 rfl (lv_room (Nat.le_of_ble_eq_true rfl)) dX6_changes_8 ⟨Nat.le_of_ble_eq_true rfl, Nat.le_of_ble_eq_true rfl⟩) hS (fun q h1 h2 => absurd h2 (Nat.not_le.mpr h1)) (fun q h => hA q (Nat.le_trans hS.1 h)) (fun r9 u9 t9 H1 locs ht hvm hw hB hz1 hk1 hS => ?_)
  have hw : r9 = zb (decide (t < T)) := hw
  subst hw
  have hP := zr_keep hP hk1
  clear hk1 hz1 hB ht hvm
  refine zt_top (y := 1) (by rw [decide_eq_true htT]; rfl) ?_
  refine lv_if_ne (tgt := 24) hx hb dX6_changes_11 (by decide) (fun c11 => ?_) (fun c => absurd c (by decide))
  refine lv_aload_n hx hb dX6_changes_24 rfl (lv_at hl 0 rfl) ?_
  refine lv_iload_n hx hb dX6_changes_25 rfl (lv_at hl 3 rfl) ?_
  refine va_calli (va_runV (As := [.int (nI t)]) (rest := []) ⟨hx, hb, hml, hown, hts⟩ (k_changesOf l dC dI H1.size cI h0 h1 h2 n T f g t hn) (cwV 1 hts gX6_changes_X0_changesOf rfl rfl rfl (by decide +kernel) ⟨Nat.le_of_ble_eq_true rfl, Nat.le_of_ble_eq_true rfl⟩) ⟨zfbN, va_recv hK hP (ci := 0) (q0 := 2) rfl rfl, zpreN (hP.sub (ws' := [(h0, .inr (0, [.ref h1, .int (nI T), .ref h2])), (h1, .inl (cI, n, .inl f)), (h2, .inl (cI, 256, .inl g))]) [2, 3, 4] rfl) (hK.sub (tys' := [(cI, .int)]) [0] rfl) hE⟩ rfl rfl hl.1 rfl (lv_room (Nat.le_of_ble_eq_true rfl)) dX6_changes_26 ⟨Nat.le_of_ble_eq_true rfl, Nat.le_of_ble_eq_true rfl⟩) hS (fun q h1 h2 => absurd h2 (Nat.not_le.mpr h1)) (fun q h => hA q (Nat.le_trans hS.1 h)) (fun r9 u9 t9 H1 locs ht hvm hw hB hz1 hk1 hS => ?_)
  have hw : r9 = nI (zchg f n t) := hw
  subst hw
  have hP := zr_keep hP hk1
  clear hk1 hz1 hB ht hvm
  exact W.iret (v := (nI (zchg f n t))) hx hb hr (fun t9 ht hW => ⟨⟨_, (), rfl, rfl, trivial⟩, hS.F ht⟩) hS.2.2 dX6_changes_29

set_option maxHeartbeats 4000000 in
set_option maxRecDepth 100000 in
/-- changes(k, t) of a track that isn't there -/
theorem x_changes (l : Launch) (dC : Nat → ClassId) (dI : Nat → Nat → Nat) (sz : Nat) (cI cC : ClassId) (o a0 a1 a2 : Nat) (tc : Int32) (nc : Nat) (ad : Nat → Option Nat) (h0 h1 h2 n T : Nat) (f g : Nat → Int32) (k t : Nat) (hfl : l.stackTraces = false) (hk : k < nc) (hc4 : nc ≤ 4) (had : ad k = some h0) (htT : T ≤ t) (ht : t < 2 ^ 31) : vx_Met l yX6_changes wsX6_changes ({ frames := 6, cells := 1, slots := 6, locals := 90 }) (va_Pc [.ref o, .int (nI k), .int (nI t)] (zPcX (dC, dI) [(o, .inr (6, [.ref a0, .int tc, .ref a1, .int (nI nc), .null, .int 40, .int 48, .int 0, .ref a2])), (a1, .inl (cC, 4, .inr (.inr (.inr (.inr ad))))), (h0, .inr (0, [.ref h1, .int (nI T), .ref h2])), (h1, .inl (cI, n, .inl f)), (h2, .inl (cI, 256, .inl g))] [(cI, .int), (cC, (.object RX0))] sz)) zNoQ (zXC "java/lang/IllegalArgumentException" sz) 1 6 (zq sz) := by
  refine vx_ofW (cc := cX6_changes) (maxL := 4) (ret := (some .int)) (by decide) rfl ?_
  intro p e s m args below meth c s₁ B hml hnt hv
  obtain ⟨rfl, hsz, hP, hK, hE⟩ := hv
  have hx := B.exec
  have hb := B.bytes
  have hr := B.returns
  have hts := atoms_spec (ws := wsX6_changes) B.pre
  have hown : s.vm.findClass RX6 = some m.cls := findClass_of_methodNamed B.named
  have hlocks := B.notSynchronized
  subst hsz
  have hi0 : ∀ w ∈ u_ws RX0 TX0 3, w ∈ wsX6_changes := by decide +kernel
  have hi6 : ∀ w ∈ u_ws RX6 TX6 9, w ∈ wsX6_changes := by decide +kernel
  have hA : ∀ q : Nat, s.heap.size ≤ q → zq s.heap.size q := fun q h => h
  have hS : va_S (zq s.heap.size) s.heap s.heap [] := va_S.rf
  have hl := lv_entry ([.ref o, .int (nI k), .int (nI t)]) (n := 4) (Nat.le_of_ble_eq_true rfl)
  rw [lg_entry_eq]
  generalize (lg_sl ([.ref o, .int (nI k), .int (nI t)]) ++ List.replicate (4 - (lg_sl ([.ref o, .int (nI k), .int (nI t)])).length) Slot.unset).toArray = ls at hl ⊢
  have hl : lv_has ls 4 [(0, .ref o), (1, .int (nI k)), (2, .int (nI t))] := hl
  have hT : T < 2 ^ 31 := by omega
  refine lv_aload_n hx hb dX6_changes_0 rfl (lv_at hl 0 rfl) ?_
  refine lv_iload_n hx hb dX6_changes_1 rfl (lv_at hl 1 rfl) ?_
  refine va_callr (va_runV (As := [.int (nI k)]) (rest := []) ⟨hx, hb, hml, hown, hts⟩ (k_codeAt l dC dI s.heap.size cI cC o a0 a1 a2 tc nc ad h0 k hk hc4 had) (cwV 1 hts gX6_changes_X6_codeAt rfl rfl rfl (by decide +kernel) ⟨Nat.le_of_ble_eq_true rfl, Nat.le_of_ble_eq_true rfl⟩) ⟨zfb, va_recv hK hP (ci := 6) (q0 := 0) rfl rfl, zpre (hP.sub (ws' := [(o, .inr (6, [.ref a0, .int tc, .ref a1, .int (nI nc), .null, .int 40, .int 48, .int 0, .ref a2])), (a1, .inl (cC, 4, .inr (.inr (.inr (.inr ad)))))]) [0, 1] rfl) (hK.sub (tys' := [(cI, .int), (cC, (.object RX0))]) [0, 1] rfl)⟩ rfl rfl hl.1 rfl (lv_room (Nat.le_of_ble_eq_true rfl)) dX6_changes_2 ⟨Nat.le_of_ble_eq_true rfl, Nat.le_of_ble_eq_true rfl⟩) hS (fun q h1 h2 => absurd h2 (Nat.not_le.mpr h1)) (fun q h => hA q (Nat.le_trans hS.1 h)) (fun u9 ra9 t9 H1 locs ht hvm hw hB hz1 hk1 hS => ?_)
  have hB : h0 = ra9 := Eq.symm hB
  subst hB
  have hP := zr_keep hP hk1
  clear hk1 hz1 ht hvm
  refine lv_astore_n (lv' := [(3, .ref h0), (0, .ref o), (1, .int (nI k)), (2, .int (nI t))]) hx hb dX6_changes_5 rfl hl (by decide) rfl (fun ls hl => ?_)
  refine lv_aload_n hx hb dX6_changes_6 rfl (lv_at hl 0 rfl) ?_
  refine lv_iload_n hx hb dX6_changes_7 rfl (lv_at hl 3 rfl) ?_
  refine va_calli (va_runV (As := [.int (nI t)]) (rest := []) ⟨hx, hb, hml, hown, hts⟩ (k_hasTrack l dC dI H1.size cI h0 h1 h2 n T f g t ht hT) (cwV 1 hts gX6_changes_X0_hasTrack rfl rfl rfl (by decide +kernel) ⟨Nat.le_of_ble_eq_true rfl, Nat.le_of_ble_eq_true rfl⟩) ⟨zfb, va_recv hK hP (ci := 0) (q0 := 2) rfl rfl, zpre (hP.sub (ws' := [(h0, .inr (0, [.ref h1, .int (nI T), .ref h2])), (h1, .inl (cI, n, .inl f)), (h2, .inl (cI, 256, .inl g))]) [2, 3, 4] rfl) (hK.sub (tys' := [(cI, .int)]) [0] rfl)⟩ rfl rfl hl.1 rfl (lv_room (Nat.le_of_ble_eq_true rfl)) dX6_changes_8 ⟨Nat.le_of_ble_eq_true rfl, Nat.le_of_ble_eq_true rfl⟩) hS (fun q h1 h2 => absurd h2 (Nat.not_le.mpr h1)) (fun q h => hA q (Nat.le_trans hS.1 h)) (fun r9 u9 t9 H1 locs ht hvm hw hB hz1 hk1 hS => ?_)
  have hw : r9 = zb (decide (t < T)) := hw
  subst hw
  have hP := zr_keep hP hk1
  clear hk1 hz1 hB ht hvm
  refine zt_top (y := 0) (by rw [decide_eq_false (Nat.not_lt.mpr htT)]; rfl) ?_
  refine lv_if_ne (tgt := 24) hx hb dX6_changes_11 (by decide) (fun c => absurd c (fun q => q rfl)) (fun c11 => ?_)
  obtain ⟨sa, hsa⟩ := hE.2.1 (109, "no such track") (List.mem_of_getElem? (i := 6) rfl)
  exact vx_throwS hx hb hfl (own := RX6) (cls := "java/lang/IllegalArgumentException") (names := ["java/lang/RuntimeException", "java/lang/Exception"]) (ik := 37) (is := 109) (ic := 41) (A := zq s.heap.size) hown (by decide) (by decide) (hts (.classLink RX6 37 "java/lang/IllegalArgumentException") (List.mem_of_getElem? (i := 1) rfl)) (hts (.initialized "java/lang/IllegalArgumentException") (List.mem_of_getElem? (i := 2) rfl)) hsa (zg_of (fun w hw => hts w (List.mem_cons_of_mem _ (List.mem_append_left _ (List.mem_append_right _ hw)))) zg_IAE hE.2.2.1) zo_IAE hE.1.1 hE.1.2 hS (hl.1.trans hml.symm) dX6_changes_14 dX6_changes_17 dX6_changes_18 dX6_changes_20 dX6_changes_23 (fun x hx => (hnt x hx).elim) (Nat.le_of_ble_eq_true rfl) (Nat.le_of_ble_eq_true rfl) (Nat.le_of_ble_eq_true rfl) (Nat.le_of_ble_eq_true rfl) hlocks (z_hx hS) hS.2.2 (Nat.le_of_ble_eq_true rfl) (Nat.le_of_ble_eq_true rfl)

set_option maxHeartbeats 4000000 in
set_option maxRecDepth 100000 in
/-- isBalanced(k) -/
theorem k_isBalanced (l : Launch) (dC : Nat → ClassId) (dI : Nat → Nat → Nat) (sz : Nat) (cI cC : ClassId) (o a0 a1 a2 : Nat) (tc : Int32) (nc : Nat) (ad : Nat → Option Nat) (h0 h1 h2 n T : Nat) (f g : Nat → Int32) (k : Nat) (hk : k < nc) (hc4 : nc ≤ 4) (had : ad k = some h0) (hn : n < 2 ^ 30) (hT2 : T < 2 ^ 30) : Met l yX6_isBalanced wsX6_isBalanced ({ frames := 5, cells := 0, slots := 0, locals := 112 }) (va_Pc [.ref o, .int (nI k)] (zPcN (dC, dI) [(o, .inr (6, [.ref a0, .int tc, .ref a1, .int (nI nc), .null, .int 40, .int 48, .int 0, .ref a2])), (a1, .inl (cC, 4, .inr (.inr (.inr (.inr ad))))), (h0, .inr (0, [.ref h1, .int (nI T), .ref h2])), (h1, .inl (cI, n, .inl f)), (h2, .inl (cI, 256, .inl g))] [(cI, .int), (cC, (.object RX0))] sz)) (va_Qi (fun (r : Int32) (_ : Unit) => r = zb (!decide ((2 : Int32) < nI (zhi f n T) - nI (zlo f n T)))) (fun _ _ => True) (zq sz)) 0 0 (zq sz) := by
  refine Met.ofW (cc := cX6_isBalanced) (maxL := 2) (ret := (some .boolean)) (by decide) rfl ?_
  intro p e s m args below meth c s₁ B hml hv
  obtain ⟨rfl, hsz, hP, hK, hE⟩ := hv
  have hx := B.exec
  have hb := B.bytes
  have hr := B.returns
  have hts := atoms_spec (ws := wsX6_isBalanced) B.pre
  have hown : s.vm.findClass RX6 = some m.cls := findClass_of_methodNamed B.named
  have hlocks := B.notSynchronized
  subst hsz
  have hi0 : ∀ w ∈ u_ws RX0 TX0 3, w ∈ wsX6_isBalanced := by decide +kernel
  have hi6 : ∀ w ∈ u_ws RX6 TX6 9, w ∈ wsX6_isBalanced := by decide +kernel
  have hA : ∀ q : Nat, s.heap.size ≤ q → zq s.heap.size q := fun q h => h
  have hS : va_S (zq s.heap.size) s.heap s.heap [] := va_S.rf
  have hl := lv_entry ([.ref o, .int (nI k)]) (n := 2) (Nat.le_of_ble_eq_true rfl)
  rw [lg_entry_eq]
  generalize (lg_sl ([.ref o, .int (nI k)]) ++ List.replicate (2 - (lg_sl ([.ref o, .int (nI k)])).length) Slot.unset).toArray = ls at hl ⊢
  have hl : lv_has ls 2 [(0, .ref o), (1, .int (nI k))] := hl
  refine lv_aload_n hx hb dX6_isBalanced_0 rfl (lv_at hl 0 rfl) ?_
  refine lv_iload_n hx hb dX6_isBalanced_1 rfl (lv_at hl 1 rfl) ?_
  refine va_callr (va_runV (As := [.int (nI k)]) (rest := []) ⟨hx, hb, hml, hown, hts⟩ (k_codeAt l dC dI s.heap.size cI cC o a0 a1 a2 tc nc ad h0 k hk hc4 had) (cwV 1 hts gX6_isBalanced_X6_codeAt rfl rfl rfl (by decide +kernel) ⟨Nat.le_of_ble_eq_true rfl, Nat.le_of_ble_eq_true rfl⟩) ⟨zfb, va_recv hK hP (ci := 6) (q0 := 0) rfl rfl, zpre (hP.sub (ws' := [(o, .inr (6, [.ref a0, .int tc, .ref a1, .int (nI nc), .null, .int 40, .int 48, .int 0, .ref a2])), (a1, .inl (cC, 4, .inr (.inr (.inr (.inr ad)))))]) [0, 1] rfl) (hK.sub (tys' := [(cI, .int), (cC, (.object RX0))]) [0, 1] rfl)⟩ rfl rfl hl.1 rfl (lv_room (Nat.le_of_ble_eq_true rfl)) dX6_isBalanced_2 ⟨Nat.le_of_ble_eq_true rfl, Nat.le_of_ble_eq_true rfl⟩) hS (fun q h1 h2 => absurd h2 (Nat.not_le.mpr h1)) (fun q h => hA q (Nat.le_trans hS.1 h)) (fun u9 ra9 t9 H1 locs ht hvm hw hB hz1 hk1 hS => ?_)
  have hB : h0 = ra9 := Eq.symm hB
  subst hB
  have hP := zr_keep hP hk1
  clear hk1 hz1 ht hvm
  refine va_calli (va_runV (As := []) (rest := []) ⟨hx, hb, hml, hown, hts⟩ (k_evenly l dC dI H1.size cI h0 h1 h2 n T f g  hn hT2) (cwV 0 hts gX6_isBalanced_X0_changesEvenly rfl rfl rfl (by decide +kernel) ⟨Nat.le_of_ble_eq_true rfl, Nat.le_of_ble_eq_true rfl⟩) ⟨zfbN, va_recv hK hP (ci := 0) (q0 := 2) rfl rfl, zpreN (hP.sub (ws' := [(h0, .inr (0, [.ref h1, .int (nI T), .ref h2])), (h1, .inl (cI, n, .inl f)), (h2, .inl (cI, 256, .inl g))]) [2, 3, 4] rfl) (hK.sub (tys' := [(cI, .int)]) [0] rfl) hE⟩ rfl rfl hl.1 rfl (lv_room (Nat.le_of_ble_eq_true rfl)) dX6_isBalanced_5 ⟨Nat.le_of_ble_eq_true rfl, Nat.le_of_ble_eq_true rfl⟩) hS (fun q h1 h2 => absurd h2 (Nat.not_le.mpr h1)) (fun q h => hA q (Nat.le_trans hS.1 h)) (fun r9 u9 t9 H1 locs ht hvm hw hB hz1 hk1 hS => ?_)
  have hw : r9 = zb (!decide ((2 : Int32) < nI (zhi f n T) - nI (zlo f n T))) := hw
  subst hw
  have hP := zr_keep hP hk1
  clear hk1 hz1 hB ht hvm
  exact W.zret (v := (zb (!decide ((2 : Int32) < nI (zhi f n T) - nI (zlo f n T))))) hx hb hr (by cases ((!decide ((2 : Int32) < nI (zhi f n T) - nI (zlo f n T))) : Bool) <;> decide) (fun t9 ht hW => ⟨⟨_, (), rfl, rfl, trivial⟩, hS.F ht⟩) hS.2.2 dX6_isBalanced_8

set_option maxHeartbeats 4000000 in
set_option maxRecDepth 100000 in
/-- isOneTrack(k) -/
theorem k_isOneTrack (l : Launch) (dC : Nat → ClassId) (dI : Nat → Nat → Nat) (sz : Nat) (cI cC : ClassId) (o a0 a1 a2 : Nat) (tc : Int32) (nc : Nat) (ad : Nat → Option Nat) (h0 h1 h2 n T : Nat) (f g : Nat → Int32) (k : Nat) (hk : k < nc) (hc4 : nc ≤ 4) (had : ad k = some h0) (hn : n < 2 ^ 30) (hT : 1 ≤ T) (hT2 : T < 2 ^ 30) : Met l yX6_isOneTrack wsX6_isOneTrack ({ frames := 6, cells := 0, slots := 0, locals := 130 }) (va_Pc [.ref o, .int (nI k)] (zPcN (dC, dI) [(o, .inr (6, [.ref a0, .int tc, .ref a1, .int (nI nc), .null, .int 40, .int 48, .int 0, .ref a2])), (a1, .inl (cC, 4, .inr (.inr (.inr (.inr ad))))), (h0, .inr (0, [.ref h1, .int (nI T), .ref h2])), (h1, .inl (cI, n, .inl f)), (h2, .inl (cI, 256, .inl g))] [(cI, .int), (cC, (.object RX0))] sz)) (va_Qi (fun (r : Int32) (_ : Unit) => r = zb (zon f n T)) (fun _ _ => True) (zq sz)) 0 0 (zq sz) := by
  refine Met.ofW (cc := cX6_isOneTrack) (maxL := 2) (ret := (some .boolean)) (by decide) rfl ?_
  intro p e s m args below meth c s₁ B hml hv
  obtain ⟨rfl, hsz, hP, hK, hE⟩ := hv
  have hx := B.exec
  have hb := B.bytes
  have hr := B.returns
  have hts := atoms_spec (ws := wsX6_isOneTrack) B.pre
  have hown : s.vm.findClass RX6 = some m.cls := findClass_of_methodNamed B.named
  have hlocks := B.notSynchronized
  subst hsz
  have hi0 : ∀ w ∈ u_ws RX0 TX0 3, w ∈ wsX6_isOneTrack := by decide +kernel
  have hi6 : ∀ w ∈ u_ws RX6 TX6 9, w ∈ wsX6_isOneTrack := by decide +kernel
  have hA : ∀ q : Nat, s.heap.size ≤ q → zq s.heap.size q := fun q h => h
  have hS : va_S (zq s.heap.size) s.heap s.heap [] := va_S.rf
  have hl := lv_entry ([.ref o, .int (nI k)]) (n := 2) (Nat.le_of_ble_eq_true rfl)
  rw [lg_entry_eq]
  generalize (lg_sl ([.ref o, .int (nI k)]) ++ List.replicate (2 - (lg_sl ([.ref o, .int (nI k)])).length) Slot.unset).toArray = ls at hl ⊢
  have hl : lv_has ls 2 [(0, .ref o), (1, .int (nI k))] := hl
  refine lv_aload_n hx hb dX6_isOneTrack_0 rfl (lv_at hl 0 rfl) ?_
  refine lv_iload_n hx hb dX6_isOneTrack_1 rfl (lv_at hl 1 rfl) ?_
  refine va_callr (va_runV (As := [.int (nI k)]) (rest := []) ⟨hx, hb, hml, hown, hts⟩ (k_codeAt l dC dI s.heap.size cI cC o a0 a1 a2 tc nc ad h0 k hk hc4 had) (cwV 1 hts gX6_isOneTrack_X6_codeAt rfl rfl rfl (by decide +kernel) ⟨Nat.le_of_ble_eq_true rfl, Nat.le_of_ble_eq_true rfl⟩) ⟨zfb, va_recv hK hP (ci := 6) (q0 := 0) rfl rfl, zpre (hP.sub (ws' := [(o, .inr (6, [.ref a0, .int tc, .ref a1, .int (nI nc), .null, .int 40, .int 48, .int 0, .ref a2])), (a1, .inl (cC, 4, .inr (.inr (.inr (.inr ad)))))]) [0, 1] rfl) (hK.sub (tys' := [(cI, .int), (cC, (.object RX0))]) [0, 1] rfl)⟩ rfl rfl hl.1 rfl (lv_room (Nat.le_of_ble_eq_true rfl)) dX6_isOneTrack_2 ⟨Nat.le_of_ble_eq_true rfl, Nat.le_of_ble_eq_true rfl⟩) hS (fun q h1 h2 => absurd h2 (Nat.not_le.mpr h1)) (fun q h => hA q (Nat.le_trans hS.1 h)) (fun u9 ra9 t9 H1 locs ht hvm hw hB hz1 hk1 hS => ?_)
  have hB : h0 = ra9 := Eq.symm hB
  subst hB
  have hP := zr_keep hP hk1
  clear hk1 hz1 ht hvm
  refine va_calli (va_runV (As := []) (rest := []) ⟨hx, hb, hml, hown, hts⟩ (k_repeats l dC dI H1.size cI h0 h1 h2 n T f g  hn hT hT2) (cwV 0 hts gX6_isOneTrack_X0_repeatsFirstTrack rfl rfl rfl (by decide +kernel) ⟨Nat.le_of_ble_eq_true rfl, Nat.le_of_ble_eq_true rfl⟩) ⟨zfbN, va_recv hK hP (ci := 0) (q0 := 2) rfl rfl, zpreN (hP.sub (ws' := [(h0, .inr (0, [.ref h1, .int (nI T), .ref h2])), (h1, .inl (cI, n, .inl f)), (h2, .inl (cI, 256, .inl g))]) [2, 3, 4] rfl) (hK.sub (tys' := [(cI, .int)]) [0] rfl) hE⟩ rfl rfl hl.1 rfl (lv_room (Nat.le_of_ble_eq_true rfl)) dX6_isOneTrack_5 ⟨Nat.le_of_ble_eq_true rfl, Nat.le_of_ble_eq_true rfl⟩) hS (fun q h1 h2 => absurd h2 (Nat.not_le.mpr h1)) (fun q h => hA q (Nat.le_trans hS.1 h)) (fun r9 u9 t9 H1 locs ht hvm hw hB hz1 hk1 hS => ?_)
  have hw : r9 = zb (zon f n T) := hw
  subst hw
  have hP := zr_keep hP hk1
  clear hk1 hz1 hB ht hvm
  exact W.zret (v := (zb (zon f n T))) hx hb hr (by cases ((zon f n T) : Bool) <;> decide) (fun t9 ht hW => ⟨⟨_, (), rfl, rfl, trivial⟩, hS.F ht⟩) hS.2.2 dX6_isOneTrack_8

set_option maxHeartbeats 4000000 in
set_option maxRecDepth 100000 in
/-- setDisc(k, off) of a code that isn't there -/
theorem x_setDisc (l : Launch) (dC : Nat → ClassId) (dI : Nat → Nat → Nat) (sz : Nat) (cI cC : ClassId) (o a0 a1 a2 : Nat) (tc : Int32) (nc : Nat) (ad : Nat → Option Nat) (k : Nat) (w : Int32) (hfl : l.stackTraces = false) (hk : nc ≤ k) (hk2 : k < 2 ^ 30) : vx_Met l yX6_setDisc wsX6_setDisc ({ frames := 7, cells := 1, slots := 6, locals := 112 }) (va_Pc [.ref o, .int (nI k), .int w] (zPcX (dC, dI) [(o, .inr (6, [.ref a0, .int tc, .ref a1, .int (nI nc), .null, .int 40, .int 48, .int 0, .ref a2])), (a1, .inl (cC, 4, .inr (.inr (.inr (.inr ad)))))] [(cI, .int), (cC, (.object RX0))] sz)) zNoQ (zXC "java/lang/IndexOutOfBoundsException" sz) 1 6 (zq sz) := by
  refine vx_ofW (cc := cX6_setDisc) (maxL := 4) (ret := (some .int)) (by decide) rfl ?_
  intro p e s m args below meth c s₁ B hml hnt hv
  obtain ⟨rfl, hsz, hP, hK, hE⟩ := hv
  have hx := B.exec
  have hb := B.bytes
  have hr := B.returns
  have hts := atoms_spec (ws := wsX6_setDisc) B.pre
  have hown : s.vm.findClass RX6 = some m.cls := findClass_of_methodNamed B.named
  have hlocks := B.notSynchronized
  subst hsz
  have hi6 : ∀ w ∈ u_ws RX6 TX6 9, w ∈ wsX6_setDisc := by decide +kernel
  have hA : ∀ q : Nat, s.heap.size ≤ q → zq s.heap.size q := fun q h => h
  have hS : va_S (zq s.heap.size) s.heap s.heap [] := va_S.rf
  have hl := lv_entry ([.ref o, .int (nI k), .int w]) (n := 4) (Nat.le_of_ble_eq_true rfl)
  rw [lg_entry_eq]
  generalize (lg_sl ([.ref o, .int (nI k), .int w]) ++ List.replicate (4 - (lg_sl ([.ref o, .int (nI k), .int w])).length) Slot.unset).toArray = ls at hl ⊢
  have hl : lv_has ls 4 [(0, .ref o), (1, .int (nI k)), (2, .int w)] := hl
  refine lv_aload_n hx hb dX6_setDisc_0 rfl (lv_at hl 0 rfl) ?_
  refine lv_iload_n hx hb dX6_setDisc_1 rfl (lv_at hl 1 rfl) ?_
  refine z_callx (vx_runV (As := [.int (nI k)]) (rest := []) ⟨hx, hb, hml, hown, hts⟩ (x_codeAt l dC dI s.heap.size cI cC o a0 a1 a2 tc nc ad k hfl hk hk2) (cwV 1 hts gX6_setDisc_X6_codeAt rfl rfl rfl (by decide +kernel) ⟨Nat.le_of_ble_eq_true rfl, Nat.le_of_ble_eq_true rfl⟩) ⟨zfbX, va_recv hK hP (ci := 6) (q0 := 0) rfl rfl, zpreX (hP.sub (ws' := [(o, .inr (6, [.ref a0, .int tc, .ref a1, .int (nI nc), .null, .int 40, .int 48, .int 0, .ref a2])), (a1, .inl (cC, 4, .inr (.inr (.inr (.inr ad)))))]) [0, 1] rfl) (hK.sub (tys' := [(cI, .int), (cC, (.object RX0))]) [0, 1] rfl) hE hS hA⟩ rfl rfl hl.1 rfl (lv_room (Nat.le_of_ble_eq_true rfl)) dX6_setDisc_2 ⟨Nat.le_of_ble_eq_true rfl, Nat.le_of_ble_eq_true rfl⟩) hS hA (fun ce q9 H1 locs hz1 hk1 hS hce hcv hcl => ?_)
  exact z_out hnt hlocks hce hcv hcl hS (Nat.le_of_ble_eq_true rfl) (Nat.le_of_ble_eq_true rfl)

set_option maxHeartbeats 4000000 in
set_option maxRecDepth 100000 in
/-- setDisc(k, 41) -/
theorem x_setDisc2 (l : Launch) (dC : Nat → ClassId) (dI : Nat → Nat → Nat) (sz : Nat) (cI cC : ClassId) (o a0 a1 a2 : Nat) (tc : Int32) (nc : Nat) (ad : Nat → Option Nat) (h0 h1 h2 n T : Nat) (f g : Nat → Int32) (k : Nat) (hfl : l.stackTraces = false) (hk : k < nc) (hc4 : nc ≤ 4) (had : ad k = some h0) : vx_Met l yX6_setDisc wsX6_setDisc ({ frames := 6, cells := 1, slots := 6, locals := 90 }) (va_Pc [.ref o, .int (nI k), .int 41] (zPcX (dC, dI) [(o, .inr (6, [.ref a0, .int tc, .ref a1, .int (nI nc), .null, .int 40, .int 48, .int 0, .ref a2])), (a1, .inl (cC, 4, .inr (.inr (.inr (.inr ad))))), (h0, .inr (0, [.ref h1, .int (nI T), .ref h2])), (h1, .inl (cI, n, .inl f)), (h2, .inl (cI, 256, .inl g))] [(cI, .int), (cC, (.object RX0))] sz)) zNoQ (zXC "java/lang/IllegalArgumentException" sz) 1 6 (zq sz) := by
  refine vx_ofW (cc := cX6_setDisc) (maxL := 4) (ret := (some .int)) (by decide) rfl ?_
  intro p e s m args below meth c s₁ B hml hnt hv
  obtain ⟨rfl, hsz, hP, hK, hE⟩ := hv
  have hx := B.exec
  have hb := B.bytes
  have hr := B.returns
  have hts := atoms_spec (ws := wsX6_setDisc) B.pre
  have hown : s.vm.findClass RX6 = some m.cls := findClass_of_methodNamed B.named
  have hlocks := B.notSynchronized
  subst hsz
  have hi0 : ∀ w ∈ u_ws RX0 TX0 3, w ∈ wsX6_setDisc := by decide +kernel
  have hi6 : ∀ w ∈ u_ws RX6 TX6 9, w ∈ wsX6_setDisc := by decide +kernel
  have hA : ∀ q : Nat, s.heap.size ≤ q → zq s.heap.size q := fun q h => h
  have hS : va_S (zq s.heap.size) s.heap s.heap [] := va_S.rf
  have hl := lv_entry ([.ref o, .int (nI k), .int 41]) (n := 4) (Nat.le_of_ble_eq_true rfl)
  rw [lg_entry_eq]
  generalize (lg_sl ([.ref o, .int (nI k), .int 41]) ++ List.replicate (4 - (lg_sl ([.ref o, .int (nI k), .int 41])).length) Slot.unset).toArray = ls at hl ⊢
  have hl : lv_has ls 4 [(0, .ref o), (1, .int (nI k)), (2, .int 41)] := hl
  refine lv_aload_n hx hb dX6_setDisc_0 rfl (lv_at hl 0 rfl) ?_
  refine lv_iload_n hx hb dX6_setDisc_1 rfl (lv_at hl 1 rfl) ?_
  refine va_callr (va_runV (As := [.int (nI k)]) (rest := []) ⟨hx, hb, hml, hown, hts⟩ (k_codeAt l dC dI s.heap.size cI cC o a0 a1 a2 tc nc ad h0 k hk hc4 had) (cwV 1 hts gX6_setDisc_X6_codeAt rfl rfl rfl (by decide +kernel) ⟨Nat.le_of_ble_eq_true rfl, Nat.le_of_ble_eq_true rfl⟩) ⟨zfb, va_recv hK hP (ci := 6) (q0 := 0) rfl rfl, zpre (hP.sub (ws' := [(o, .inr (6, [.ref a0, .int tc, .ref a1, .int (nI nc), .null, .int 40, .int 48, .int 0, .ref a2])), (a1, .inl (cC, 4, .inr (.inr (.inr (.inr ad)))))]) [0, 1] rfl) (hK.sub (tys' := [(cI, .int), (cC, (.object RX0))]) [0, 1] rfl)⟩ rfl rfl hl.1 rfl (lv_room (Nat.le_of_ble_eq_true rfl)) dX6_setDisc_2 ⟨Nat.le_of_ble_eq_true rfl, Nat.le_of_ble_eq_true rfl⟩) hS (fun q h1 h2 => absurd h2 (Nat.not_le.mpr h1)) (fun q h => hA q (Nat.le_trans hS.1 h)) (fun u9 ra9 t9 H1 locs ht hvm hw hB hz1 hk1 hS => ?_)
  have hB : h0 = ra9 := Eq.symm hB
  subst hB
  have hP := zr_keep hP hk1
  clear hk1 hz1 ht hvm
  refine lv_astore_n (lv' := [(3, .ref h0), (0, .ref o), (1, .int (nI k)), (2, .int 41)]) hx hb dX6_setDisc_5 rfl hl (by decide) rfl (fun ls hl => ?_)
  refine lv_iload_n hx hb dX6_setDisc_6 rfl (lv_at hl 3 rfl) ?_
  refine lv_iconst (v := 0) hx hb dX6_setDisc_7 (by decide) ?_
  refine lv_bipush (v := 40) hx hb dX6_setDisc_8 (by decide) ?_
  refine va_calli (va_runS (As := [.int 41, .int 0, .int 40]) (rest := []) ⟨hx, hb, hml, hown, hts⟩ (k_isWithin l dC dI H1.size 41 0 40) (va_cwS 3 hts gX6_setDisc_X6_isWithin rfl rfl rfl (by decide +kernel) ⟨Nat.le_of_ble_eq_true rfl, Nat.le_of_ble_eq_true rfl⟩) ⟨zfb, zpre (hP.sub (ws' := []) [] rfl) (hK.sub (tys' := []) [] rfl)⟩ rfl rfl hl.1 rfl (lv_room (Nat.le_of_ble_eq_true rfl)) dX6_setDisc_10 ⟨Nat.le_of_ble_eq_true rfl, Nat.le_of_ble_eq_true rfl⟩) hS (fun q h1 h2 => absurd h2 (Nat.not_le.mpr h1)) (fun q h => hA q (Nat.le_trans hS.1 h)) (fun r9 u9 t9 H1 locs ht hvm hw hB hz1 hk1 hS => ?_)
  have hw : r9 = zb (decide ((0 : Int32) ≤ 41) && decide (41 ≤ 40)) := hw
  subst hw
  have hP := zr_keep hP hk1
  clear hk1 hz1 hB ht hvm
  refine zt_top (y := 0) (by decide) ?_
  refine lv_if_ne (tgt := 26) hx hb dX6_setDisc_13 (by decide) (fun c => absurd c (fun q => q rfl)) (fun c13 => ?_)
  obtain ⟨sa, hsa⟩ := hE.2.1 (120, "a disc is off by 0 to 40") (List.mem_of_getElem? (i := 7) rfl)
  exact vx_throwS hx hb hfl (own := RX6) (cls := "java/lang/IllegalArgumentException") (names := ["java/lang/RuntimeException", "java/lang/Exception"]) (ik := 37) (is := 120) (ic := 41) (A := zq s.heap.size) hown (by decide) (by decide) (hts (.classLink RX6 37 "java/lang/IllegalArgumentException") (List.mem_of_getElem? (i := 1) rfl)) (hts (.initialized "java/lang/IllegalArgumentException") (List.mem_of_getElem? (i := 2) rfl)) hsa (zg_of (fun w hw => hts w (List.mem_cons_of_mem _ (List.mem_append_left _ (List.mem_append_right _ hw)))) zg_IAE hE.2.2.1) zo_IAE hE.1.1 hE.1.2 hS (hl.1.trans hml.symm) dX6_setDisc_16 dX6_setDisc_19 dX6_setDisc_20 dX6_setDisc_22 dX6_setDisc_25 (fun x hx => (hnt x hx).elim) (Nat.le_of_ble_eq_true rfl) (Nat.le_of_ble_eq_true rfl) (Nat.le_of_ble_eq_true rfl) (Nat.le_of_ble_eq_true rfl) hlocks (z_hx hS) hS.2.2 (Nat.le_of_ble_eq_true rfl) (Nat.le_of_ble_eq_true rfl)

set_option maxHeartbeats 4000000 in
set_option maxRecDepth 100000 in
/-- angle() without a disc -/
theorem x_angle (l : Launch) (dC : Nat → ClassId) (dI : Nat → Nat → Nat) (sz : Nat) (cI cC : ClassId) (o a0 a1 a2 : Nat) (tc : Int32) (nc : Nat) (ad : Nat → Option Nat) (hfl : l.stackTraces = false) : vx_Met l yX6_angle wsX6_angle ({ frames := 7, cells := 1, slots := 6, locals := 112 }) (va_Pc [.ref o] (zPcX (dC, dI) [(o, .inr (6, [.ref a0, .int tc, .ref a1, .int (nI nc), .null, .int 40, .int 48, .int 0, .ref a2]))] [(cI, .int), (cC, (.object RX0))] sz)) zNoQ (zXC "java/lang/UnsupportedOperationException" sz) 1 6 (zq sz) := by
  refine vx_ofW (cc := cX6_angle) (maxL := 1) (ret := (some .int)) (by decide) rfl ?_
  intro p e s m args below meth c s₁ B hml hnt hv
  obtain ⟨rfl, hsz, hP, hK, hE⟩ := hv
  have hx := B.exec
  have hb := B.bytes
  have hr := B.returns
  have hts := atoms_spec (ws := wsX6_angle) B.pre
  have hown : s.vm.findClass RX6 = some m.cls := findClass_of_methodNamed B.named
  have hlocks := B.notSynchronized
  subst hsz
  have hi6 : ∀ w ∈ u_ws RX6 TX6 9, w ∈ wsX6_angle := by decide +kernel
  have hA : ∀ q : Nat, s.heap.size ≤ q → zq s.heap.size q := fun q h => h
  have hS : va_S (zq s.heap.size) s.heap s.heap [] := va_S.rf
  have hl := lv_entry ([.ref o]) (n := 1) (Nat.le_of_ble_eq_true rfl)
  rw [lg_entry_eq]
  generalize (lg_sl ([.ref o]) ++ List.replicate (1 - (lg_sl ([.ref o])).length) Slot.unset).toArray = ls at hl ⊢
  have hl : lv_has ls 1 [(0, .ref o)] := hl
  refine lv_aload_n hx hb dX6_angle_0 rfl (lv_at hl 0 rfl) ?_
  refine z_callx (vx_runV (As := []) (rest := []) ⟨hx, hb, hml, hown, hts⟩ (x_theDisc l dC dI s.heap.size cI cC o a0 a1 a2 tc nc ad hfl) (cwV 0 hts gX6_angle_X6_theDisc rfl rfl rfl (by decide +kernel) ⟨Nat.le_of_ble_eq_true rfl, Nat.le_of_ble_eq_true rfl⟩) ⟨zfbX, va_recv hK hP (ci := 6) (q0 := 0) rfl rfl, zpreX (hP.sub (ws' := [(o, .inr (6, [.ref a0, .int tc, .ref a1, .int (nI nc), .null, .int 40, .int 48, .int 0, .ref a2]))]) [0] rfl) (hK.sub (tys' := [(cI, .int), (cC, (.object RX0))]) [0, 1] rfl) hE hS hA⟩ rfl rfl hl.1 rfl (lv_room (Nat.le_of_ble_eq_true rfl)) dX6_angle_1 ⟨Nat.le_of_ble_eq_true rfl, Nat.le_of_ble_eq_true rfl⟩) hS hA (fun ce q9 H1 locs hz1 hk1 hS hce hcv hcl => ?_)
  exact z_out hnt hlocks hce hcv hcl hS (Nat.le_of_ble_eq_true rfl) (Nat.le_of_ble_eq_true rfl)

set_option maxHeartbeats 4000000 in
set_option maxRecDepth 100000 in
/-- turn(w) without a disc -/
theorem x_turn (l : Launch) (dC : Nat → ClassId) (dI : Nat → Nat → Nat) (sz : Nat) (cI cC : ClassId) (o a0 a1 a2 : Nat) (tc : Int32) (nc : Nat) (ad : Nat → Option Nat) (w : Int32) (hfl : l.stackTraces = false) : vx_Met l yX6_turn wsX6_turn ({ frames := 7, cells := 1, slots := 6, locals := 112 }) (va_Pc [.ref o, .int w] (zPcX (dC, dI) [(o, .inr (6, [.ref a0, .int tc, .ref a1, .int (nI nc), .null, .int 40, .int 48, .int 0, .ref a2]))] [(cI, .int), (cC, (.object RX0))] sz)) zNoQ (zXC "java/lang/UnsupportedOperationException" sz) 1 6 (zq sz) := by
  refine vx_ofW (cc := cX6_turn) (maxL := 4) (ret := (some .int)) (by decide) rfl ?_
  intro p e s m args below meth c s₁ B hml hnt hv
  obtain ⟨rfl, hsz, hP, hK, hE⟩ := hv
  have hx := B.exec
  have hb := B.bytes
  have hr := B.returns
  have hts := atoms_spec (ws := wsX6_turn) B.pre
  have hown : s.vm.findClass RX6 = some m.cls := findClass_of_methodNamed B.named
  have hlocks := B.notSynchronized
  subst hsz
  have hi6 : ∀ w ∈ u_ws RX6 TX6 9, w ∈ wsX6_turn := by decide +kernel
  have hA : ∀ q : Nat, s.heap.size ≤ q → zq s.heap.size q := fun q h => h
  have hS : va_S (zq s.heap.size) s.heap s.heap [] := va_S.rf
  have hl := lv_entry ([.ref o, .int w]) (n := 4) (Nat.le_of_ble_eq_true rfl)
  rw [lg_entry_eq]
  generalize (lg_sl ([.ref o, .int w]) ++ List.replicate (4 - (lg_sl ([.ref o, .int w])).length) Slot.unset).toArray = ls at hl ⊢
  have hl : lv_has ls 4 [(0, .ref o), (1, .int w)] := hl
  refine lv_aload_n hx hb dX6_turn_0 rfl (lv_at hl 0 rfl) ?_
  refine z_callx (vx_runV (As := []) (rest := []) ⟨hx, hb, hml, hown, hts⟩ (x_theDisc l dC dI s.heap.size cI cC o a0 a1 a2 tc nc ad hfl) (cwV 0 hts gX6_turn_X6_theDisc rfl rfl rfl (by decide +kernel) ⟨Nat.le_of_ble_eq_true rfl, Nat.le_of_ble_eq_true rfl⟩) ⟨zfbX, va_recv hK hP (ci := 6) (q0 := 0) rfl rfl, zpreX (hP.sub (ws' := [(o, .inr (6, [.ref a0, .int tc, .ref a1, .int (nI nc), .null, .int 40, .int 48, .int 0, .ref a2]))]) [0] rfl) (hK.sub (tys' := [(cI, .int), (cC, (.object RX0))]) [0, 1] rfl) hE hS hA⟩ rfl rfl hl.1 rfl (lv_room (Nat.le_of_ble_eq_true rfl)) dX6_turn_1 ⟨Nat.le_of_ble_eq_true rfl, Nat.le_of_ble_eq_true rfl⟩) hS hA (fun ce q9 H1 locs hz1 hk1 hS hce hcv hcl => ?_)
  exact z_out hnt hlocks hce hcv hcl hS (Nat.le_of_ble_eq_true rfl) (Nat.le_of_ble_eq_true rfl)

set_option maxHeartbeats 4000000 in
set_option maxRecDepth 100000 in
/-- type(256) -/
theorem x_type (l : Launch) (dC : Nat → ClassId) (dI : Nat → Nat → Nat) (sz : Nat) (cI cC : ClassId) (o a0 a1 a2 : Nat) (tc : Int32) (nc : Nat) (ad : Nat → Option Nat) (hfl : l.stackTraces = false) : vx_Met l yX6_type wsX6_type ({ frames := 6, cells := 1, slots := 6, locals := 90 }) (va_Pc [.ref o, .int 256] (zPcX (dC, dI) [(o, .inr (6, [.ref a0, .int tc, .ref a1, .int (nI nc), .null, .int 40, .int 48, .int 0, .ref a2]))] [(cI, .int), (cC, (.object RX0))] sz)) zNoQ (zXC "java/lang/IllegalArgumentException" sz) 1 6 (zq sz) := by
  refine vx_ofW (cc := cX6_type) (maxL := 2) (ret := (some .int)) (by decide) rfl ?_
  intro p e s m args below meth c s₁ B hml hnt hv
  obtain ⟨rfl, hsz, hP, hK, hE⟩ := hv
  have hx := B.exec
  have hb := B.bytes
  have hr := B.returns
  have hts := atoms_spec (ws := wsX6_type) B.pre
  have hown : s.vm.findClass RX6 = some m.cls := findClass_of_methodNamed B.named
  have hlocks := B.notSynchronized
  subst hsz
  have hi6 : ∀ w ∈ u_ws RX6 TX6 9, w ∈ wsX6_type := by decide +kernel
  have hA : ∀ q : Nat, s.heap.size ≤ q → zq s.heap.size q := fun q h => h
  have hS : va_S (zq s.heap.size) s.heap s.heap [] := va_S.rf
  have hl := lv_entry ([.ref o, .int 256]) (n := 2) (Nat.le_of_ble_eq_true rfl)
  rw [lg_entry_eq]
  generalize (lg_sl ([.ref o, .int 256]) ++ List.replicate (2 - (lg_sl ([.ref o, .int 256])).length) Slot.unset).toArray = ls at hl ⊢
  have hl : lv_has ls 2 [(0, .ref o), (1, .int 256)] := hl
  refine lv_iload_n hx hb dX6_type_0 rfl (lv_at hl 1 rfl) ?_
  refine lv_iconst (v := 0) hx hb dX6_type_1 (by decide) ?_
  refine lv_sipush (v := 255) hx hb dX6_type_2 (by decide) ?_
  refine va_calli (va_runS (As := [.int 256, .int 0, .int 255]) (rest := []) ⟨hx, hb, hml, hown, hts⟩ (k_isWithin l dC dI s.heap.size 256 0 255) (va_cwS 3 hts gX6_type_X6_isWithin rfl rfl rfl (by decide +kernel) ⟨Nat.le_of_ble_eq_true rfl, Nat.le_of_ble_eq_true rfl⟩) ⟨zfb, zpre (hP.sub (ws' := []) [] rfl) (hK.sub (tys' := []) [] rfl)⟩ rfl rfl hl.1 rfl (lv_room (Nat.le_of_ble_eq_true rfl)) dX6_type_5 ⟨Nat.le_of_ble_eq_true rfl, Nat.le_of_ble_eq_true rfl⟩) hS (fun q h1 h2 => absurd h2 (Nat.not_le.mpr h1)) (fun q h => hA q (Nat.le_trans hS.1 h)) (fun r9 u9 t9 H1 locs ht hvm hw hB hz1 hk1 hS => ?_)
  have hw : r9 = zb (decide ((0 : Int32) ≤ 256) && decide (256 ≤ 255)) := hw
  subst hw
  have hP := zr_keep hP hk1
  clear hk1 hz1 hB ht hvm
  refine zt_top (y := 0) (by decide) ?_
  refine lv_if_ne (tgt := 21) hx hb dX6_type_8 (by decide) (fun c => absurd c (fun q => q rfl)) (fun c8 => ?_)
  obtain ⟨sa, hsa⟩ := hE.2.1 (39, "a word is 0 to 255") (List.mem_of_getElem? (i := 0) rfl)
  exact vx_throwS hx hb hfl (own := RX6) (cls := "java/lang/IllegalArgumentException") (names := ["java/lang/RuntimeException", "java/lang/Exception"]) (ik := 37) (is := 39) (ic := 41) (A := zq s.heap.size) hown (by decide) (by decide) (hts (.classLink RX6 37 "java/lang/IllegalArgumentException") (List.mem_of_getElem? (i := 1) rfl)) (hts (.initialized "java/lang/IllegalArgumentException") (List.mem_of_getElem? (i := 2) rfl)) hsa (zg_of (fun w hw => hts w (List.mem_cons_of_mem _ (List.mem_append_left _ (List.mem_append_right _ hw)))) zg_IAE hE.2.2.1) zo_IAE hE.1.1 hE.1.2 hS (hl.1.trans hml.symm) dX6_type_11 dX6_type_14 dX6_type_15 dX6_type_17 dX6_type_20 (fun x hx => (hnt x hx).elim) (Nat.le_of_ble_eq_true rfl) (Nat.le_of_ble_eq_true rfl) (Nat.le_of_ble_eq_true rfl) (Nat.le_of_ble_eq_true rfl) hlocks (z_hx hS) hS.2.2 (Nat.le_of_ble_eq_true rfl) (Nat.le_of_ble_eq_true rfl)

set_option maxHeartbeats 4000000 in
set_option maxRecDepth 100000 in
/-- reflected(w) out of range -/
theorem x_reflected (l : Launch) (dC : Nat → ClassId) (dI : Nat → Nat → Nat) (sz : Nat) (cI cC : ClassId) (o a0 a1 a2 : Nat) (tc : Int32) (nc : Nat) (ad : Nat → Option Nat) (w : Int32) (hfl : l.stackTraces = false) (hwr : (decide ((2 : Int32) ≤ w) && decide (w ≤ 6)) = false) : vx_Met l yX6_reflected wsX6_reflected ({ frames := 6, cells := 1, slots := 6, locals := 90 }) (va_Pc [.ref o, .int w] (zPcX (dC, dI) [(o, .inr (6, [.ref a0, .int tc, .ref a1, .int (nI nc), .null, .int 40, .int 48, .int 0, .ref a2]))] [(cI, .int), (cC, (.object RX0))] sz)) zNoQ (zXC "java/lang/IllegalArgumentException" sz) 1 6 (zq sz) := by
  refine vx_ofW (cc := cX6_reflected) (maxL := 4) (ret := (some .int)) (by decide) rfl ?_
  intro p e s m args below meth c s₁ B hml hnt hv
  obtain ⟨rfl, hsz, hP, hK, hE⟩ := hv
  have hx := B.exec
  have hb := B.bytes
  have hr := B.returns
  have hts := atoms_spec (ws := wsX6_reflected) B.pre
  have hown : s.vm.findClass RX6 = some m.cls := findClass_of_methodNamed B.named
  have hlocks := B.notSynchronized
  subst hsz
  have hi6 : ∀ w ∈ u_ws RX6 TX6 9, w ∈ wsX6_reflected := by decide +kernel
  have hA : ∀ q : Nat, s.heap.size ≤ q → zq s.heap.size q := fun q h => h
  have hS : va_S (zq s.heap.size) s.heap s.heap [] := va_S.rf
  have hl := lv_entry ([.ref o, .int w]) (n := 4) (Nat.le_of_ble_eq_true rfl)
  rw [lg_entry_eq]
  generalize (lg_sl ([.ref o, .int w]) ++ List.replicate (4 - (lg_sl ([.ref o, .int w])).length) Slot.unset).toArray = ls at hl ⊢
  have hl : lv_has ls 4 [(0, .ref o), (1, .int w)] := hl
  refine lv_iload_n hx hb dX6_reflected_0 rfl (lv_at hl 1 rfl) ?_
  refine lv_iconst (v := 2) hx hb dX6_reflected_1 (by decide) ?_
  refine lv_bipush (v := 6) hx hb dX6_reflected_2 (by decide) ?_
  refine va_calli (va_runS (As := [.int w, .int 2, .int 6]) (rest := []) ⟨hx, hb, hml, hown, hts⟩ (k_isWithin l dC dI s.heap.size w 2 6) (va_cwS 3 hts gX6_reflected_X6_isWithin rfl rfl rfl (by decide +kernel) ⟨Nat.le_of_ble_eq_true rfl, Nat.le_of_ble_eq_true rfl⟩) ⟨zfb, zpre (hP.sub (ws' := []) [] rfl) (hK.sub (tys' := []) [] rfl)⟩ rfl rfl hl.1 rfl (lv_room (Nat.le_of_ble_eq_true rfl)) dX6_reflected_4 ⟨Nat.le_of_ble_eq_true rfl, Nat.le_of_ble_eq_true rfl⟩) hS (fun q h1 h2 => absurd h2 (Nat.not_le.mpr h1)) (fun q h => hA q (Nat.le_trans hS.1 h)) (fun r9 u9 t9 H1 locs ht hvm hw hB hz1 hk1 hS => ?_)
  have hw : r9 = zb (decide ((2 : Int32) ≤ w) && decide (w ≤ 6)) := hw
  subst hw
  have hP := zr_keep hP hk1
  clear hk1 hz1 hB ht hvm
  refine zt_top (y := 0) (by rw [hwr]; rfl) ?_
  refine lv_if_ne (tgt := 20) hx hb dX6_reflected_7 (by decide) (fun c => absurd c (fun q => q rfl)) (fun c7 => ?_)
  obtain ⟨sa, hsa⟩ := hE.2.1 (76, "bits are 2 to 6") (List.mem_of_getElem? (i := 2) rfl)
  exact vx_throwS hx hb hfl (own := RX6) (cls := "java/lang/IllegalArgumentException") (names := ["java/lang/RuntimeException", "java/lang/Exception"]) (ik := 37) (is := 76) (ic := 41) (A := zq s.heap.size) hown (by decide) (by decide) (hts (.classLink RX6 37 "java/lang/IllegalArgumentException") (List.mem_of_getElem? (i := 1) rfl)) (hts (.initialized "java/lang/IllegalArgumentException") (List.mem_of_getElem? (i := 2) rfl)) hsa (zg_of (fun w hw => hts w (List.mem_cons_of_mem _ (List.mem_append_left _ (List.mem_append_right _ hw)))) zg_IAE hE.2.2.1) zo_IAE hE.1.1 hE.1.2 hS (hl.1.trans hml.symm) dX6_reflected_10 dX6_reflected_13 dX6_reflected_14 dX6_reflected_16 dX6_reflected_19 (fun x hx => (hnt x hx).elim) (Nat.le_of_ble_eq_true rfl) (Nat.le_of_ble_eq_true rfl) (Nat.le_of_ble_eq_true rfl) (Nat.le_of_ble_eq_true rfl) hlocks (z_hx hS) hS.2.2 (Nat.le_of_ble_eq_true rfl) (Nat.le_of_ble_eq_true rfl)

set_option maxHeartbeats 4000000 in
set_option maxRecDepth 100000 in
/-- place(k, j) of a word that isn't there -/
theorem x_place2 (l : Launch) (dC : Nat → ClassId) (dI : Nat → Nat → Nat) (sz : Nat) (cI cC : ClassId) (o a0 a1 a2 : Nat) (tc : Int32) (nc : Nat) (ad : Nat → Option Nat) (h0 h1 h2 n T : Nat) (f g : Nat → Int32) (k j : Nat) (hfl : l.stackTraces = false) (hk : k < nc) (hc4 : nc ≤ 4) (had : ad k = some h0) (hj : j < 256) (hg : g j = -1) : vx_Met l yX6_place wsX6_place ({ frames := 6, cells := 1, slots := 6, locals := 90 }) (va_Pc [.ref o, .int (nI k), .int (nI j)] (zPcX (dC, dI) [(o, .inr (6, [.ref a0, .int tc, .ref a1, .int (nI nc), .null, .int 40, .int 48, .int 0, .ref a2])), (a1, .inl (cC, 4, .inr (.inr (.inr (.inr ad))))), (h0, .inr (0, [.ref h1, .int (nI T), .ref h2])), (h1, .inl (cI, n, .inl f)), (h2, .inl (cI, 256, .inl g))] [(cI, .int), (cC, (.object RX0))] sz)) zNoQ (zXC "java/util/NoSuchElementException" sz) 1 6 (zq sz) := by
  refine vx_ofW (cc := cX6_place) (maxL := 5) (ret := (some .int)) (by decide) rfl ?_
  intro p e s m args below meth c s₁ B hml hnt hv
  obtain ⟨rfl, hsz, hP, hK, hE⟩ := hv
  have hx := B.exec
  have hb := B.bytes
  have hr := B.returns
  have hts := atoms_spec (ws := wsX6_place) B.pre
  have hown : s.vm.findClass RX6 = some m.cls := findClass_of_methodNamed B.named
  have hlocks := B.notSynchronized
  subst hsz
  have hi0 : ∀ w ∈ u_ws RX0 TX0 3, w ∈ wsX6_place := by decide +kernel
  have hi6 : ∀ w ∈ u_ws RX6 TX6 9, w ∈ wsX6_place := by decide +kernel
  have hA : ∀ q : Nat, s.heap.size ≤ q → zq s.heap.size q := fun q h => h
  have hS : va_S (zq s.heap.size) s.heap s.heap [] := va_S.rf
  have hl := lv_entry ([.ref o, .int (nI k), .int (nI j)]) (n := 5) (Nat.le_of_ble_eq_true rfl)
  rw [lg_entry_eq]
  generalize (lg_sl ([.ref o, .int (nI k), .int (nI j)]) ++ List.replicate (5 - (lg_sl ([.ref o, .int (nI k), .int (nI j)])).length) Slot.unset).toArray = ls at hl ⊢
  have hl : lv_has ls 5 [(0, .ref o), (1, .int (nI k)), (2, .int (nI j))] := hl
  refine lv_aload_n hx hb dX6_place_0 rfl (lv_at hl 0 rfl) ?_
  refine lv_iload_n hx hb dX6_place_1 rfl (lv_at hl 1 rfl) ?_
  refine va_callr (va_runV (As := [.int (nI k)]) (rest := []) ⟨hx, hb, hml, hown, hts⟩ (k_codeAt l dC dI s.heap.size cI cC o a0 a1 a2 tc nc ad h0 k hk hc4 had) (cwV 1 hts gX6_place_X6_codeAt rfl rfl rfl (by decide +kernel) ⟨Nat.le_of_ble_eq_true rfl, Nat.le_of_ble_eq_true rfl⟩) ⟨zfb, va_recv hK hP (ci := 6) (q0 := 0) rfl rfl, zpre (hP.sub (ws' := [(o, .inr (6, [.ref a0, .int tc, .ref a1, .int (nI nc), .null, .int 40, .int 48, .int 0, .ref a2])), (a1, .inl (cC, 4, .inr (.inr (.inr (.inr ad)))))]) [0, 1] rfl) (hK.sub (tys' := [(cI, .int), (cC, (.object RX0))]) [0, 1] rfl)⟩ rfl rfl hl.1 rfl (lv_room (Nat.le_of_ble_eq_true rfl)) dX6_place_2 ⟨Nat.le_of_ble_eq_true rfl, Nat.le_of_ble_eq_true rfl⟩) hS (fun q h1 h2 => absurd h2 (Nat.not_le.mpr h1)) (fun q h => hA q (Nat.le_trans hS.1 h)) (fun u9 ra9 t9 H1 locs ht hvm hw hB hz1 hk1 hS => ?_)
  have hB : h0 = ra9 := Eq.symm hB
  subst hB
  have hP := zr_keep hP hk1
  clear hk1 hz1 ht hvm
  refine lv_astore_n (lv' := [(3, .ref h0), (0, .ref o), (1, .int (nI k)), (2, .int (nI j))]) hx hb dX6_place_5 rfl hl (by decide) rfl (fun ls hl => ?_)
  refine lv_iload_n hx hb dX6_place_6 rfl (lv_at hl 3 rfl) ?_
  refine lv_iconst (v := 0) hx hb dX6_place_7 (by decide) ?_
  refine lv_sipush (v := 255) hx hb dX6_place_8 (by decide) ?_
  refine va_calli (va_runS (As := [.int (nI j), .int 0, .int 255]) (rest := []) ⟨hx, hb, hml, hown, hts⟩ (k_isWithin l dC dI H1.size (nI j) 0 255) (va_cwS 3 hts gX6_place_X6_isWithin rfl rfl rfl (by decide +kernel) ⟨Nat.le_of_ble_eq_true rfl, Nat.le_of_ble_eq_true rfl⟩) ⟨zfb, zpre (hP.sub (ws' := []) [] rfl) (hK.sub (tys' := []) [] rfl)⟩ rfl rfl hl.1 rfl (lv_room (Nat.le_of_ble_eq_true rfl)) dX6_place_11 ⟨Nat.le_of_ble_eq_true rfl, Nat.le_of_ble_eq_true rfl⟩) hS (fun q h1 h2 => absurd h2 (Nat.not_le.mpr h1)) (fun q h => hA q (Nat.le_trans hS.1 h)) (fun r9 u9 t9 H1 locs ht hvm hw hB hz1 hk1 hS => ?_)
  have hw : r9 = zb (decide ((0 : Int32) ≤ (nI j)) && decide ((nI j) ≤ 255)) := hw
  subst hw
  have hP := zr_keep hP hk1
  clear hk1 hz1 hB ht hvm hw
  refine zt_top (y := 1) (by rw [decide_eq_true (nI_pos' (by omega)), decide_eq_true (show nI j ≤ (255 : Int32) from nI_le (b := 255) (by omega) (by decide))]; rfl) ?_
  refine lv_if_ne (tgt := 27) hx hb dX6_place_14 (by decide) (fun c14 => ?_) (fun c => absurd c (by decide))
  refine lv_aload_n hx hb dX6_place_27 rfl (lv_at hl 0 rfl) ?_
  refine lv_iload_n hx hb dX6_place_28 rfl (lv_at hl 3 rfl) ?_
  refine va_calli (va_runV (As := [.int (nI j)]) (rest := []) ⟨hx, hb, hml, hown, hts⟩ (k_placeOf l dC dI H1.size cI h0 h1 h2 n T f g j hj) (cwV 1 hts gX6_place_X0_placeOf rfl rfl rfl (by decide +kernel) ⟨Nat.le_of_ble_eq_true rfl, Nat.le_of_ble_eq_true rfl⟩) ⟨zfb, va_recv hK hP (ci := 0) (q0 := 2) rfl rfl, zpre (hP.sub (ws' := [(h0, .inr (0, [.ref h1, .int (nI T), .ref h2])), (h1, .inl (cI, n, .inl f)), (h2, .inl (cI, 256, .inl g))]) [2, 3, 4] rfl) (hK.sub (tys' := [(cI, .int)]) [0] rfl)⟩ rfl rfl hl.1 rfl (lv_room (Nat.le_of_ble_eq_true rfl)) dX6_place_29 ⟨Nat.le_of_ble_eq_true rfl, Nat.le_of_ble_eq_true rfl⟩) hS (fun q h1 h2 => absurd h2 (Nat.not_le.mpr h1)) (fun q h => hA q (Nat.le_trans hS.1 h)) (fun r9 u9 t9 H1 locs ht hvm hw hB hz1 hk1 hS => ?_)
  have hw : r9 = g j := hw
  subst hw
  have hP := zr_keep hP hk1
  clear hk1 hz1 hB ht hvm hw
  refine lv_istore (lv' := [(4, .int (g j)), (3, .ref h0), (0, .ref o), (1, .int (nI k)), (2, .int (nI j))]) hx hb dX6_place_32 hl (by decide) rfl (fun ls hl => ?_)
  refine lv_iload hx hb dX6_place_34 (lv_at hl 0 rfl) ?_
  refine lv_iconst (v := (-1)) hx hb dX6_place_36 (by decide) ?_
  refine lv_icmp_ne (tgt := 50) hx hb dX6_place_37 (by decide) (fun c => absurd c (fun q => q hg)) (fun c37 => ?_)
  obtain ⟨sa, hsa⟩ := hE.2.1 (103, "the code has no such word") (List.mem_of_getElem? (i := 5) rfl)
  exact z_throwN hx hb hfl (own := RX6) (ik := 101) (is := 103) (ic := 105) (A := zq s.heap.size) hown (hts (.classLink RX6 101 "java/util/NoSuchElementException") (List.mem_of_getElem? (i := 3) rfl)) (hts (.initialized "java/util/NoSuchElementException") (List.mem_of_getElem? (i := 4) rfl)) hsa (zg_of (fun w hw => hts w (List.mem_cons_of_mem _ (List.mem_append_left _ (List.mem_append_right _ hw)))) zg_NSE hE.2.2.1) zo_NSE hE.1.1 hE.1.2 hS (hl.1.trans hml.symm) dX6_place_40 dX6_place_43 dX6_place_44 dX6_place_46 dX6_place_49 (fun x hx => (hnt x hx).elim) (Nat.le_of_ble_eq_true rfl) (Nat.le_of_ble_eq_true rfl) (Nat.le_of_ble_eq_true rfl) (Nat.le_of_ble_eq_true rfl) hlocks (z_hx hS) hS.2.2 (Nat.le_of_ble_eq_true rfl) (Nat.le_of_ble_eq_true rfl)

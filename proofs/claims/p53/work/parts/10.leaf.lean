set_option maxHeartbeats 4000000 in
set_option maxRecDepth 100000 in
/-- isWithin(n, a, b) -/
theorem k_isWithin (l : Launch) (dC : Nat → ClassId) (dI : Nat → Nat → Nat) (sz : Nat) (n a b : Int32) : Met l yX6_isWithin wsX6_isWithin ({ frames := 0, cells := 0, slots := 0, locals := 0 }) (va_Pc [.int n, .int a, .int b] (zPc (dC, dI) [] [] sz)) (va_Qi (fun (r : Int32) (_ : Unit) => r = zb (decide (a ≤ n) && decide (n ≤ b))) (fun _ _ => True) (zq sz)) 0 0 (zq sz) := by
  refine Met.ofW (cc := cX6_isWithin) (maxL := 3) (ret := (some .boolean)) (by decide) rfl ?_
  intro p e s m args below meth c s₁ B hml hv
  obtain ⟨rfl, hsz, hP, hK⟩ := hv
  have hx := B.exec
  have hb := B.bytes
  have hr := B.returns
  have hts := atoms_spec (ws := wsX6_isWithin) B.pre
  have hown : s.vm.findClass RX6 = some m.cls := findClass_of_methodNamed B.named
  have hlocks := B.notSynchronized
  subst hsz
  have hA : ∀ q : Nat, s.heap.size ≤ q → zq s.heap.size q := fun q h => h
  have hS : va_S (zq s.heap.size) s.heap s.heap [] := va_S.rf
  have hl := lv_entry ([.int n, .int a, .int b]) (n := 3) (Nat.le_of_ble_eq_true rfl)
  rw [lg_entry_eq]
  generalize (lg_sl ([.int n, .int a, .int b]) ++ List.replicate (3 - (lg_sl ([.int n, .int a, .int b])).length) Slot.unset).toArray = ls at hl ⊢
  have hl : lv_has ls 3 [(0, .int n), (1, .int a), (2, .int b)] := hl
  refine lv_iload_n hx hb dX6_isWithin_0 rfl (lv_at hl 0 rfl) ?_
  refine lv_iload_n hx hb dX6_isWithin_1 rfl (lv_at hl 1 rfl) ?_
  refine lv_icmp_lt (tgt := 14) hx hb dX6_isWithin_2 (by decide) (fun c2 => ?_) (fun c2 => ?_)
  · skip
    refine lv_iconst (v := 0) hx hb dX6_isWithin_14 (by decide) ?_
    exact W.zret (v := 0) hx hb hr (by decide) (fun t9 ht hW => ⟨⟨_, (), rfl, zw_0a c2, trivial⟩, hS.F ht⟩) hS.2.2 dX6_isWithin_15
  · skip
    refine lv_iload_n hx hb dX6_isWithin_5 rfl (lv_at hl 0 rfl) ?_
    refine lv_iload_n hx hb dX6_isWithin_6 rfl (lv_at hl 2 rfl) ?_
    refine lv_icmp_gt (tgt := 14) hx hb dX6_isWithin_7 (by decide) (fun c7 => ?_) (fun c7 => ?_)
    · skip
      refine lv_iconst (v := 0) hx hb dX6_isWithin_14 (by decide) ?_
      exact W.zret (v := 0) hx hb hr (by decide) (fun t9 ht hW => ⟨⟨_, (), rfl, zw_0b c7, trivial⟩, hS.F ht⟩) hS.2.2 dX6_isWithin_15
    · skip
      refine lv_iconst (v := 1) hx hb dX6_isWithin_10 (by decide) ?_
      refine lv_goto (tgt := 15) hx hb dX6_isWithin_11 (by decide) ?_
      exact W.zret (v := 1) hx hb hr (by decide) (fun t9 ht hW => ⟨⟨_, (), rfl, zw_1 c2 c7, trivial⟩, hS.F ht⟩) hS.2.2 dX6_isWithin_15

set_option maxHeartbeats 4000000 in
set_option maxRecDepth 100000 in
/-- modulo(a, b), both from 0 on -/
theorem k_modulo (l : Launch) (dC : Nat → ClassId) (dI : Nat → Nat → Nat) (sz : Nat) (a b : Nat) (ha : a < 2 ^ 31) (h0 : 0 < b) (hb2 : b < 2 ^ 31) : Met l yX6_modulo wsX6_modulo ({ frames := 0, cells := 0, slots := 0, locals := 0 }) (va_Pc [.int (nI a), .int (nI b)] (zPc (dC, dI) [] [] sz)) (va_Qi (fun (r : Int32) (_ : Unit) => r = nI (a % b)) (fun _ _ => True) (zq sz)) 0 0 (zq sz) := by
  refine Met.ofW (cc := cX6_modulo) (maxL := 3) (ret := (some .int)) (by decide) rfl ?_
  intro p e s m args below meth c s₁ B hml hv
  obtain ⟨rfl, hsz, hP, hK⟩ := hv
  have hx := B.exec
  have hb := B.bytes
  have hr := B.returns
  have hts := atoms_spec (ws := wsX6_modulo) B.pre
  have hown : s.vm.findClass RX6 = some m.cls := findClass_of_methodNamed B.named
  have hlocks := B.notSynchronized
  subst hsz
  have hA : ∀ q : Nat, s.heap.size ≤ q → zq s.heap.size q := fun q h => h
  have hS : va_S (zq s.heap.size) s.heap s.heap [] := va_S.rf
  have hl := lv_entry ([.int (nI a), .int (nI b)]) (n := 3) (Nat.le_of_ble_eq_true rfl)
  rw [lg_entry_eq]
  generalize (lg_sl ([.int (nI a), .int (nI b)]) ++ List.replicate (3 - (lg_sl ([.int (nI a), .int (nI b)])).length) Slot.unset).toArray = ls at hl ⊢
  have hl : lv_has ls 3 [(0, .int (nI a)), (1, .int (nI b))] := hl
  refine lv_iload_n hx hb dX6_modulo_0 rfl (lv_at hl 1 rfl) ?_
  refine lv_if_gt (tgt := 6) hx hb dX6_modulo_1 (by decide) (fun c1 => ?_) (fun c => absurd ((nI_0 ▸ nI_lt h0 hb2 : (0 : Int32) < nI b)) c)
  refine lv_iload_n hx hb dX6_modulo_6 rfl (lv_at hl 0 rfl) ?_
  refine lv_iload_n hx hb dX6_modulo_7 rfl (lv_at hl 1 rfl) ?_
  refine lv_irem hx hb dX6_modulo_8 (nI_ne0 h0 hb2) ?_
  refine zt_top (y := nI (a % b)) (pk_rem ha h0 hb2) ?_
  refine lv_istore_n (lv' := [(2, .int (nI (a % b))), (0, .int (nI a)), (1, .int (nI b))]) hx hb dX6_modulo_9 rfl hl (by decide) rfl (fun ls hl => ?_)
  refine lv_iload_n hx hb dX6_modulo_10 rfl (lv_at hl 0 rfl) ?_
  refine lv_if_ge (tgt := 20) hx hb dX6_modulo_11 (by decide) (fun c11 => ?_) (fun c => absurd (nI_pos' (Nat.lt_of_le_of_lt (Nat.mod_le a b) ha)) c)
  refine lv_iload_n hx hb dX6_modulo_20 rfl (lv_at hl 0 rfl) ?_
  exact W.iret (v := (nI (a % b))) hx hb hr (fun t9 ht hW => ⟨⟨_, (), rfl, rfl, trivial⟩, hS.F ht⟩) hS.2.2 dX6_modulo_21

set_option maxHeartbeats 4000000 in
set_option maxRecDepth 100000 in
/-- hasPlace(k) -/
theorem k_hasPlace (l : Launch) (dC : Nat → ClassId) (dI : Nat → Nat → Nat) (sz : Nat) (cI : ClassId) (h0 h1 h2 : Nat) (n T : Nat) (f g : Nat → Int32) (k : Nat) (hk : k < 2 ^ 31) (hn : n < 2 ^ 31) : Met l yX0_hasPlace wsX0_hasPlace ({ frames := 0, cells := 0, slots := 0, locals := 0 }) (va_Pc [.ref h0, .int (nI k)] (zPc (dC, dI) [(h0, .inr (0, [.ref h1, .int (nI T), .ref h2])), (h1, .inl (cI, n, .inl f)), (h2, .inl (cI, 256, .inl g))] [(cI, .int)] sz)) (va_Qi (fun (r : Int32) (_ : Unit) => r = zb (decide (k < n))) (fun _ _ => True) (zq sz)) 0 0 (zq sz) := by
  refine Met.ofW (cc := cX0_hasPlace) (maxL := 2) (ret := (some .boolean)) (by decide) rfl ?_
  intro p e s m args below meth c s₁ B hml hv
  obtain ⟨rfl, hsz, hP, hK⟩ := hv
  have hx := B.exec
  have hb := B.bytes
  have hr := B.returns
  have hts := atoms_spec (ws := wsX0_hasPlace) B.pre
  have hown : s.vm.findClass RX0 = some m.cls := findClass_of_methodNamed B.named
  have hlocks := B.notSynchronized
  subst hsz
  have hi0 : ∀ w ∈ u_ws RX0 TX0 3, w ∈ wsX0_hasPlace := by decide +kernel
  have hA : ∀ q : Nat, s.heap.size ≤ q → zq s.heap.size q := fun q h => h
  have hS : va_S (zq s.heap.size) s.heap s.heap [] := va_S.rf
  have hl := lv_entry ([.ref h0, .int (nI k)]) (n := 2) (Nat.le_of_ble_eq_true rfl)
  rw [lg_entry_eq]
  generalize (lg_sl ([.ref h0, .int (nI k)]) ++ List.replicate (2 - (lg_sl ([.ref h0, .int (nI k)])).length) Slot.unset).toArray = ls at hl ⊢
  have hl : lv_has ls 2 [(0, .ref h0), (1, .int (nI k))] := hl
  refine lv_iload_n hx hb dX0_hasPlace_0 rfl (lv_at hl 1 rfl) ?_
  refine lv_if_lt (tgt := 17) hx hb dX0_hasPlace_1 (by decide) (fun c => absurd c (nI_pos hk)) (fun c1 => ?_)
  refine lv_iload_n hx hb dX0_hasPlace_4 rfl (lv_at hl 1 rfl) ?_
  refine lv_aload_n hx hb dX0_hasPlace_5 rfl (lv_at hl 0 rfl) ?_
  refine va_get (D := (dC, dI)) (ci := 0) (v := .ref h1) (C := RX0) (T := TX0) (N := 3) hx hb hts hi0 hown hK hP 0 rfl rfl 0 (by decide) (hts (.fieldLink RX0 15 "Ringtrack$Code" "words" "[I") (List.mem_of_getElem? (i := 1) rfl)) (fun _ h9 => h9) rfl dX0_hasPlace_6 ?_
  refine va_alen (v := (nI n)) hx hb hK hP 1 0 rfl rfl rfl dX0_hasPlace_9 ?_
  refine lv_icmp_ge (tgt := 17) hx hb dX0_hasPlace_10 (by decide) (fun c10 => ?_) (fun c10 => ?_)
  · skip
    refine lv_iconst (v := 0) hx hb dX0_hasPlace_17 (by decide) ?_
    exact W.zret (v := 0) hx hb hr (by decide) (fun t9 ht hW => ⟨⟨_, (), rfl, by rw [decide_eq_false (Nat.not_lt.mpr ((nI_leI hn hk).mp c10))]; rfl, trivial⟩, hS.F ht⟩) hS.2.2 dX0_hasPlace_18
  · skip
    refine lv_iconst (v := 1) hx hb dX0_hasPlace_13 (by decide) ?_
    refine lv_goto (tgt := 18) hx hb dX0_hasPlace_14 (by decide) ?_
    exact W.zret (v := 1) hx hb hr (by decide) (fun t9 ht hW => ⟨⟨_, (), rfl, by rw [decide_eq_true (Nat.lt_of_not_le (fun q => c10 ((nI_leI hn hk).mpr q)))]; rfl, trivial⟩, hS.F ht⟩) hS.2.2 dX0_hasPlace_18

set_option maxHeartbeats 4000000 in
set_option maxRecDepth 100000 in
/-- hasTrack(k) -/
theorem k_hasTrack (l : Launch) (dC : Nat → ClassId) (dI : Nat → Nat → Nat) (sz : Nat) (cI : ClassId) (h0 h1 h2 : Nat) (n T : Nat) (f g : Nat → Int32) (k : Nat) (hk : k < 2 ^ 31) (hn : T < 2 ^ 31) : Met l yX0_hasTrack wsX0_hasTrack ({ frames := 0, cells := 0, slots := 0, locals := 0 }) (va_Pc [.ref h0, .int (nI k)] (zPc (dC, dI) [(h0, .inr (0, [.ref h1, .int (nI T), .ref h2])), (h1, .inl (cI, n, .inl f)), (h2, .inl (cI, 256, .inl g))] [(cI, .int)] sz)) (va_Qi (fun (r : Int32) (_ : Unit) => r = zb (decide (k < T))) (fun _ _ => True) (zq sz)) 0 0 (zq sz) := by
  refine Met.ofW (cc := cX0_hasTrack) (maxL := 2) (ret := (some .boolean)) (by decide) rfl ?_
  intro p e s m args below meth c s₁ B hml hv
  obtain ⟨rfl, hsz, hP, hK⟩ := hv
  have hx := B.exec
  have hb := B.bytes
  have hr := B.returns
  have hts := atoms_spec (ws := wsX0_hasTrack) B.pre
  have hown : s.vm.findClass RX0 = some m.cls := findClass_of_methodNamed B.named
  have hlocks := B.notSynchronized
  subst hsz
  have hi0 : ∀ w ∈ u_ws RX0 TX0 3, w ∈ wsX0_hasTrack := by decide +kernel
  have hA : ∀ q : Nat, s.heap.size ≤ q → zq s.heap.size q := fun q h => h
  have hS : va_S (zq s.heap.size) s.heap s.heap [] := va_S.rf
  have hl := lv_entry ([.ref h0, .int (nI k)]) (n := 2) (Nat.le_of_ble_eq_true rfl)
  rw [lg_entry_eq]
  generalize (lg_sl ([.ref h0, .int (nI k)]) ++ List.replicate (2 - (lg_sl ([.ref h0, .int (nI k)])).length) Slot.unset).toArray = ls at hl ⊢
  have hl : lv_has ls 2 [(0, .ref h0), (1, .int (nI k))] := hl
  refine lv_iload_n hx hb dX0_hasTrack_0 rfl (lv_at hl 1 rfl) ?_
  refine lv_if_lt (tgt := 16) hx hb dX0_hasTrack_1 (by decide) (fun c => absurd c (nI_pos hk)) (fun c1 => ?_)
  refine lv_iload_n hx hb dX0_hasTrack_4 rfl (lv_at hl 1 rfl) ?_
  refine lv_aload_n hx hb dX0_hasTrack_5 rfl (lv_at hl 0 rfl) ?_
  refine va_get (D := (dC, dI)) (ci := 0) (v := .int (nI T)) (C := RX0) (T := TX0) (N := 3) hx hb hts hi0 hown hK hP 0 rfl rfl 1 (by decide) (hts (.fieldLink RX0 24 "Ringtrack$Code" "tracks" "I") (List.mem_of_getElem? (i := 1) rfl)) (fun _ h9 => h9) rfl dX0_hasTrack_6 ?_
  refine lv_icmp_ge (tgt := 16) hx hb dX0_hasTrack_9 (by decide) (fun c9 => ?_) (fun c9 => ?_)
  · skip
    refine lv_iconst (v := 0) hx hb dX0_hasTrack_16 (by decide) ?_
    exact W.zret (v := 0) hx hb hr (by decide) (fun t9 ht hW => ⟨⟨_, (), rfl, by rw [decide_eq_false (Nat.not_lt.mpr ((nI_leI hn hk).mp c9))]; rfl, trivial⟩, hS.F ht⟩) hS.2.2 dX0_hasTrack_17
  · skip
    refine lv_iconst (v := 1) hx hb dX0_hasTrack_12 (by decide) ?_
    refine lv_goto (tgt := 17) hx hb dX0_hasTrack_13 (by decide) ?_
    exact W.zret (v := 1) hx hb hr (by decide) (fun t9 ht hW => ⟨⟨_, (), rfl, by rw [decide_eq_true (Nat.lt_of_not_le (fun q => c9 ((nI_leI hn hk).mpr q)))]; rfl, trivial⟩, hS.F ht⟩) hS.2.2 dX0_hasTrack_17

set_option maxHeartbeats 4000000 in
set_option maxRecDepth 100000 in
/-- wordAt(k) -/
theorem k_wordAt (l : Launch) (dC : Nat → ClassId) (dI : Nat → Nat → Nat) (sz : Nat) (cI : ClassId) (h0 h1 h2 : Nat) (n T : Nat) (f g : Nat → Int32) (k : Nat) (hk : k < n) (hn : n < 2 ^ 31) : Met l yX0_wordAt wsX0_wordAt ({ frames := 1, cells := 0, slots := 0, locals := 21 }) (va_Pc [.ref h0, .int (nI k)] (zPc (dC, dI) [(h0, .inr (0, [.ref h1, .int (nI T), .ref h2])), (h1, .inl (cI, n, .inl f)), (h2, .inl (cI, 256, .inl g))] [(cI, .int)] sz)) (va_Qi (fun (r : Int32) (_ : Unit) => r = f k) (fun _ _ => True) (zq sz)) 0 0 (zq sz) := by
  refine Met.ofW (cc := cX0_wordAt) (maxL := 2) (ret := (some .int)) (by decide) rfl ?_
  intro p e s m args below meth c s₁ B hml hv
  obtain ⟨rfl, hsz, hP, hK⟩ := hv
  have hx := B.exec
  have hb := B.bytes
  have hr := B.returns
  have hts := atoms_spec (ws := wsX0_wordAt) B.pre
  have hown : s.vm.findClass RX0 = some m.cls := findClass_of_methodNamed B.named
  have hlocks := B.notSynchronized
  subst hsz
  have hi0 : ∀ w ∈ u_ws RX0 TX0 3, w ∈ wsX0_wordAt := by decide +kernel
  have hA : ∀ q : Nat, s.heap.size ≤ q → zq s.heap.size q := fun q h => h
  have hS : va_S (zq s.heap.size) s.heap s.heap [] := va_S.rf
  have hl := lv_entry ([.ref h0, .int (nI k)]) (n := 2) (Nat.le_of_ble_eq_true rfl)
  rw [lg_entry_eq]
  generalize (lg_sl ([.ref h0, .int (nI k)]) ++ List.replicate (2 - (lg_sl ([.ref h0, .int (nI k)])).length) Slot.unset).toArray = ls at hl ⊢
  have hl : lv_has ls 2 [(0, .ref h0), (1, .int (nI k))] := hl
  refine lv_aload_n hx hb dX0_wordAt_0 rfl (lv_at hl 0 rfl) ?_
  refine lv_iload_n hx hb dX0_wordAt_1 rfl (lv_at hl 1 rfl) ?_
  refine va_calli (va_runV (As := [.int (nI k)]) (rest := []) ⟨hx, hb, hml, hown, hts⟩ (k_hasPlace l dC dI s.heap.size cI h0 h1 h2 n T f g k (by omega) hn) (cwV 1 hts gX0_wordAt_X0_hasPlace rfl rfl rfl (by decide +kernel) ⟨Nat.le_of_ble_eq_true rfl, Nat.le_of_ble_eq_true rfl⟩) ⟨zfb, va_recv hK hP (ci := 0) (q0 := 0) rfl rfl, zpre (hP.sub (ws' := [(h0, .inr (0, [.ref h1, .int (nI T), .ref h2])), (h1, .inl (cI, n, .inl f)), (h2, .inl (cI, 256, .inl g))]) [0, 1, 2] rfl) (hK.sub (tys' := [(cI, .int)]) [0] rfl)⟩ rfl rfl hl.1 rfl (lv_room (Nat.le_of_ble_eq_true rfl)) dX0_wordAt_2 ⟨Nat.le_of_ble_eq_true rfl, Nat.le_of_ble_eq_true rfl⟩) hS (fun q h1 h2 => absurd h2 (Nat.not_le.mpr h1)) (fun q h => hA q (Nat.le_trans hS.1 h)) (fun r9 u9 t9 H1 locs ht hvm hw hB hz1 hk1 hS => ?_)
  have hw : r9 = zb (decide (k < n)) := hw
  subst hw
  have hP := zr_keep hP hk1
  clear hk1 hz1 hB ht hvm
  refine zt_top (y := 1) (by rw [decide_eq_true hk]; rfl) ?_
  refine lv_if_eq (tgt := 17) hx hb dX0_wordAt_5 (by decide) (fun c => absurd c (by decide)) (fun c5 => ?_)
  refine lv_aload_n hx hb dX0_wordAt_8 rfl (lv_at hl 0 rfl) ?_
  refine va_get (D := (dC, dI)) (ci := 0) (v := .ref h1) (C := RX0) (T := TX0) (N := 3) hx hb hts hi0 hown hK hP 0 rfl rfl 0 (by decide) (hts (.fieldLink RX0 15 "Ringtrack$Code" "words" "[I") (List.mem_of_getElem? (i := 1) rfl)) (fun _ h9 => h9) rfl dX0_wordAt_9 ?_
  refine lv_iload_n hx hb dX0_wordAt_12 rfl (lv_at hl 1 rfl) ?_
  refine va_iald hx hb hK hP 1 0 rfl rfl (vp_in_nI hk hn) dX0_wordAt_13 ?_
  refine zt_top (y := f k) (by rw [nI_clamp (by omega)]) ?_
  refine lv_goto (tgt := 18) hx hb dX0_wordAt_14 (by decide) ?_
  exact W.iret (v := (f k)) hx hb hr (fun t9 ht hW => ⟨⟨_, (), rfl, rfl, trivial⟩, hS.F ht⟩) hS.2.2 dX0_wordAt_18

set_option maxHeartbeats 4000000 in
set_option maxRecDepth 100000 in
/-- placeOf(w) -/
theorem k_placeOf (l : Launch) (dC : Nat → ClassId) (dI : Nat → Nat → Nat) (sz : Nat) (cI : ClassId) (h0 h1 h2 : Nat) (n T : Nat) (f g : Nat → Int32) (k : Nat) (hk : k < 256) : Met l yX0_placeOf wsX0_placeOf ({ frames := 0, cells := 0, slots := 0, locals := 0 }) (va_Pc [.ref h0, .int (nI k)] (zPc (dC, dI) [(h0, .inr (0, [.ref h1, .int (nI T), .ref h2])), (h1, .inl (cI, n, .inl f)), (h2, .inl (cI, 256, .inl g))] [(cI, .int)] sz)) (va_Qi (fun (r : Int32) (_ : Unit) => r = g k) (fun _ _ => True) (zq sz)) 0 0 (zq sz) := by
  refine Met.ofW (cc := cX0_placeOf) (maxL := 2) (ret := (some .int)) (by decide) rfl ?_
  intro p e s m args below meth c s₁ B hml hv
  obtain ⟨rfl, hsz, hP, hK⟩ := hv
  have hx := B.exec
  have hb := B.bytes
  have hr := B.returns
  have hts := atoms_spec (ws := wsX0_placeOf) B.pre
  have hown : s.vm.findClass RX0 = some m.cls := findClass_of_methodNamed B.named
  have hlocks := B.notSynchronized
  subst hsz
  have hi0 : ∀ w ∈ u_ws RX0 TX0 3, w ∈ wsX0_placeOf := by decide +kernel
  have hA : ∀ q : Nat, s.heap.size ≤ q → zq s.heap.size q := fun q h => h
  have hS : va_S (zq s.heap.size) s.heap s.heap [] := va_S.rf
  have hl := lv_entry ([.ref h0, .int (nI k)]) (n := 2) (Nat.le_of_ble_eq_true rfl)
  rw [lg_entry_eq]
  generalize (lg_sl ([.ref h0, .int (nI k)]) ++ List.replicate (2 - (lg_sl ([.ref h0, .int (nI k)])).length) Slot.unset).toArray = ls at hl ⊢
  have hl : lv_has ls 2 [(0, .ref h0), (1, .int (nI k))] := hl
  refine lv_iload_n hx hb dX0_placeOf_0 rfl (lv_at hl 1 rfl) ?_
  refine lv_if_lt (tgt := 22) hx hb dX0_placeOf_1 (by decide) (fun c => absurd c (nI_pos (by omega))) (fun c1 => ?_)
  refine lv_iload_n hx hb dX0_placeOf_4 rfl (lv_at hl 1 rfl) ?_
  refine lv_aload_n hx hb dX0_placeOf_5 rfl (lv_at hl 0 rfl) ?_
  refine va_get (D := (dC, dI)) (ci := 0) (v := .ref h2) (C := RX0) (T := TX0) (N := 3) hx hb hts hi0 hown hK hP 0 rfl rfl 2 (by decide) (hts (.fieldLink RX0 9 "Ringtrack$Code" "places" "[I") (List.mem_of_getElem? (i := 1) rfl)) (fun _ h9 => h9) rfl dX0_placeOf_6 ?_
  refine va_alen (v := 256) hx hb hK hP 2 0 rfl rfl rfl dX0_placeOf_9 ?_
  refine lv_icmp_ge (tgt := 22) hx hb dX0_placeOf_10 (by decide) (fun c => absurd c (nI_ge hk (by decide))) (fun c10 => ?_)
  refine lv_aload_n hx hb dX0_placeOf_13 rfl (lv_at hl 0 rfl) ?_
  refine va_get (D := (dC, dI)) (ci := 0) (v := .ref h2) (C := RX0) (T := TX0) (N := 3) hx hb hts hi0 hown hK hP 0 rfl rfl 2 (by decide) (hts (.fieldLink RX0 9 "Ringtrack$Code" "places" "[I") (List.mem_of_getElem? (i := 1) rfl)) (fun _ h9 => h9) rfl dX0_placeOf_14 ?_
  refine lv_iload_n hx hb dX0_placeOf_17 rfl (lv_at hl 1 rfl) ?_
  refine va_iald hx hb hK hP 2 0 rfl rfl (vp_in_nI hk (by decide)) dX0_placeOf_18 ?_
  refine zt_top (y := g k) (by rw [nI_clamp (by omega)]) ?_
  refine lv_goto (tgt := 23) hx hb dX0_placeOf_19 (by decide) ?_
  exact W.iret (v := (g k)) hx hb hr (fun t9 ht hW => ⟨⟨_, (), rfl, rfl, trivial⟩, hS.F ht⟩) hS.2.2 dX0_placeOf_23

set_option maxHeartbeats 4000000 in
set_option maxRecDepth 100000 in
/-- mark(k, t) -/
theorem k_mark (l : Launch) (dC : Nat → ClassId) (dI : Nat → Nat → Nat) (sz : Nat) (cI : ClassId) (h0 h1 h2 : Nat) (n T : Nat) (f g : Nat → Int32) (k t : Nat) (hk : k < n) (hn : n < 2 ^ 31) : Met l yX0_mark wsX0_mark ({ frames := 2, cells := 0, slots := 0, locals := 42 }) (va_Pc [.ref h0, .int (nI k), .int (nI t)] (zPc (dC, dI) [(h0, .inr (0, [.ref h1, .int (nI T), .ref h2])), (h1, .inl (cI, n, .inl f)), (h2, .inl (cI, 256, .inl g))] [(cI, .int)] sz)) (va_Qi (fun (r : Int32) (_ : Unit) => r = zmk f k t) (fun _ _ => True) (zq sz)) 0 0 (zq sz) := by
  refine Met.ofW (cc := cX0_mark) (maxL := 3) (ret := (some .int)) (by decide) rfl ?_
  intro p e s m args below meth c s₁ B hml hv
  obtain ⟨rfl, hsz, hP, hK⟩ := hv
  have hx := B.exec
  have hb := B.bytes
  have hr := B.returns
  have hts := atoms_spec (ws := wsX0_mark) B.pre
  have hown : s.vm.findClass RX0 = some m.cls := findClass_of_methodNamed B.named
  have hlocks := B.notSynchronized
  subst hsz
  have hi0 : ∀ w ∈ u_ws RX0 TX0 3, w ∈ wsX0_mark := by decide +kernel
  have hA : ∀ q : Nat, s.heap.size ≤ q → zq s.heap.size q := fun q h => h
  have hS : va_S (zq s.heap.size) s.heap s.heap [] := va_S.rf
  have hl := lv_entry ([.ref h0, .int (nI k), .int (nI t)]) (n := 3) (Nat.le_of_ble_eq_true rfl)
  rw [lg_entry_eq]
  generalize (lg_sl ([.ref h0, .int (nI k), .int (nI t)]) ++ List.replicate (3 - (lg_sl ([.ref h0, .int (nI k), .int (nI t)])).length) Slot.unset).toArray = ls at hl ⊢
  have hl : lv_has ls 3 [(0, .ref h0), (1, .int (nI k)), (2, .int (nI t))] := hl
  refine lv_aload_n hx hb dX0_mark_0 rfl (lv_at hl 0 rfl) ?_
  refine lv_iload_n hx hb dX0_mark_1 rfl (lv_at hl 1 rfl) ?_
  refine va_calli (va_runV (As := [.int (nI k)]) (rest := []) ⟨hx, hb, hml, hown, hts⟩ (k_wordAt l dC dI s.heap.size cI h0 h1 h2 n T f g k hk hn) (cwV 1 hts gX0_mark_X0_wordAt rfl rfl rfl (by decide +kernel) ⟨Nat.le_of_ble_eq_true rfl, Nat.le_of_ble_eq_true rfl⟩) ⟨zfb, va_recv hK hP (ci := 0) (q0 := 0) rfl rfl, zpre (hP.sub (ws' := [(h0, .inr (0, [.ref h1, .int (nI T), .ref h2])), (h1, .inl (cI, n, .inl f)), (h2, .inl (cI, 256, .inl g))]) [0, 1, 2] rfl) (hK.sub (tys' := [(cI, .int)]) [0] rfl)⟩ rfl rfl hl.1 rfl (lv_room (Nat.le_of_ble_eq_true rfl)) dX0_mark_2 ⟨Nat.le_of_ble_eq_true rfl, Nat.le_of_ble_eq_true rfl⟩) hS (fun q h1 h2 => absurd h2 (Nat.not_le.mpr h1)) (fun q h => hA q (Nat.le_trans hS.1 h)) (fun r9 u9 t9 H1 locs ht hvm hw hB hz1 hk1 hS => ?_)
  have hw : r9 = f k := hw
  subst hw
  have hP := zr_keep hP hk1
  clear hk1 hz1 hB ht hvm
  refine lv_iload_n hx hb dX0_mark_5 rfl (lv_at hl 2 rfl) ?_
  refine lv_ishr hx hb dX0_mark_6 ?_
  refine lv_iconst (v := 1) hx hb dX0_mark_7 (by decide) ?_
  refine lv_iand hx hb dX0_mark_8 ?_
  exact W.iret (v := (((f k) >>> ((nI t) &&& 31)) &&& 1)) hx hb hr (fun t9 ht hW => ⟨⟨_, (), rfl, rfl, trivial⟩, hS.F ht⟩) hS.2.2 dX0_mark_9

set_option maxHeartbeats 4000000 in
set_option maxRecDepth 100000 in
/-- changesOf(t) -/
theorem k_changesOf (l : Launch) (dC : Nat → ClassId) (dI : Nat → Nat → Nat) (sz : Nat) (cI : ClassId) (h0 h1 h2 : Nat) (n T : Nat) (f g : Nat → Int32) (t : Nat) (hn : n < 2 ^ 30) : Met l yX0_changesOf wsX0_changesOf ({ frames := 3, cells := 0, slots := 0, locals := 64 }) (va_Pc [.ref h0, .int (nI t)] (zPcN (dC, dI) [(h0, .inr (0, [.ref h1, .int (nI T), .ref h2])), (h1, .inl (cI, n, .inl f)), (h2, .inl (cI, 256, .inl g))] [(cI, .int)] sz)) (va_Qi (fun (r : Int32) (_ : Unit) => r = nI (zchg f n t)) (fun _ _ => True) (zq sz)) 0 0 (zq sz) := by
  refine Met.ofW (cc := cX0_changesOf) (maxL := 5) (ret := (some .int)) (by decide) rfl ?_
  intro p e s m args below meth c s₁ B hml hv
  obtain ⟨rfl, hsz, hP, hK, hE⟩ := hv
  have hx := B.exec
  have hb := B.bytes
  have hr := B.returns
  have hts := atoms_spec (ws := wsX0_changesOf) B.pre
  have hown : s.vm.findClass RX0 = some m.cls := findClass_of_methodNamed B.named
  have hlocks := B.notSynchronized
  subst hsz
  have hi0 : ∀ w ∈ u_ws RX0 TX0 3, w ∈ wsX0_changesOf := by decide +kernel
  have hA : ∀ q : Nat, s.heap.size ≤ q → zq s.heap.size q := fun q h => h
  have hS : va_S (zq s.heap.size) s.heap s.heap [] := va_S.rf
  have hl := lv_entry ([.ref h0, .int (nI t)]) (n := 5) (Nat.le_of_ble_eq_true rfl)
  rw [lg_entry_eq]
  generalize (lg_sl ([.ref h0, .int (nI t)]) ++ List.replicate (5 - (lg_sl ([.ref h0, .int (nI t)])).length) Slot.unset).toArray = ls at hl ⊢
  have hl : lv_has ls 5 [(0, .ref h0), (1, .int (nI t))] := hl
  have hn1 : n < 2 ^ 31 := by omega
  refine lv_iconst (v := 0) hx hb dX0_changesOf_0 (by decide) ?_
  refine lv_istore_n (lv' := [(2, .int 0), (0, .ref h0), (1, .int (nI t))]) hx hb dX0_changesOf_1 rfl hl (by decide) rfl (fun ls hl => ?_)
  refine lv_iconst (v := 0) hx hb dX0_changesOf_2 (by decide) ?_
  refine lv_istore_n (lv' := [(3, .int 0), (2, .int 0), (0, .ref h0), (1, .int (nI t))]) hx hb dX0_changesOf_3 rfl hl (by decide) rfl (fun ls hl => ?_)
  have loop : ∀ (d : Nat) (k : Nat), n + 1 ≤ k + d → k ≤ n → ∀ (H : Heap) (locs : List Loc), va_P (dC, dI) vwCl [(h0, .inr (0, [.ref h1, .int (nI T), .ref h2])), (h1, .inl (cI, n, .inl f)), (h2, .inl (cI, 256, .inl g))] H → va_S (zq s.heap.size) s.heap H locs → ∀ ls : Array Slot, lv_has ls 5 [(0, .ref h0), (1, .int (nI t)), (2, .int (nI (zct (fun k => decide (¬ zmk f k t = zmk f ((k + 1) % n) t)) k))), (3, .int (nI k))] → W p l e (headSpec wsX0_changesOf ({ frames := 3, cells := 0, slots := 0, locals := 64 })).room s m ([.ref h0, .int (nI t)] : List Value).toArray below meth c H locs 0 0 (MQ below (va_Qi (fun (r : Int32) (_ : Unit) => r = nI (zchg f n t)) (fun _ _ => True) (zq s.heap.size)) ([.ref h0, .int (nI t)] : List Value).toArray s 0 0 (zq s.heap.size)) (F0 m 4 ls []) := by
    intro d
    induction d with
    | zero => intro k hd hk; exact absurd hd (by omega)
    | succ d ih =>
      intro k hd hk H locs hP hS ls hl
      refine lv_iload_n hx hb dX0_changesOf_4 rfl (lv_at hl 3 rfl) ?_
      refine lv_aload_n hx hb dX0_changesOf_5 rfl (lv_at hl 0 rfl) ?_
      refine va_get (D := (dC, dI)) (ci := 0) (v := .ref h1) (C := RX0) (T := TX0) (N := 3) hx hb hts hi0 hown hK hP 0 rfl rfl 0 (by decide) (hts (.fieldLink RX0 15 "Ringtrack$Code" "words" "[I") (List.mem_of_getElem? (i := 1) rfl)) (fun _ h9 => h9) rfl dX0_changesOf_6 ?_
      refine va_alen (v := (nI n)) hx hb hK hP 1 0 rfl rfl rfl dX0_changesOf_9 ?_
      refine lv_icmp_ge (tgt := 51) hx hb dX0_changesOf_10 (by decide) (fun c10 => ?_) (fun c10 => ?_)
      · skip
        have hkn : k = n := Nat.le_antisymm hk ((nI_leI hn1 (by omega)).mp c10)
        refine lv_iload_n hx hb dX0_changesOf_51 rfl (lv_at hl 2 rfl) ?_
        exact W.iret (v := (nI (zct (fun k => decide (¬ zmk f k t = zmk f ((k + 1) % n) t)) k))) hx hb hr (fun t9 ht hW => ⟨⟨_, (), rfl, by rw [hkn]; rfl, trivial⟩, hS.F ht⟩) hS.2.2 dX0_changesOf_52
      · skip
        have hkn : k < n := Nat.lt_of_not_le (fun q => c10 ((nI_leI hn1 (by omega)).mpr q))
        refine lv_iload_n hx hb dX0_changesOf_13 rfl (lv_at hl 3 rfl) ?_
        refine lv_iconst (v := 1) hx hb dX0_changesOf_14 (by decide) ?_
        refine lv_iadd hx hb dX0_changesOf_15 ?_
        refine zt_top (y := nI (k + 1)) (nI_1 k) ?_
        refine lv_aload_n hx hb dX0_changesOf_16 rfl (lv_at hl 0 rfl) ?_
        refine va_get (D := (dC, dI)) (ci := 0) (v := .ref h1) (C := RX0) (T := TX0) (N := 3) hx hb hts hi0 hown hK hP 0 rfl rfl 0 (by decide) (hts (.fieldLink RX0 15 "Ringtrack$Code" "words" "[I") (List.mem_of_getElem? (i := 1) rfl)) (fun _ h9 => h9) rfl dX0_changesOf_17 ?_
        refine va_alen (v := (nI n)) hx hb hK hP 1 0 rfl rfl rfl dX0_changesOf_20 ?_
        refine va_calli (va_runSN (As := [.int (nI (k + 1)), .int (nI n)]) (rest := []) ⟨hx, hb, hml, hown, hts⟩ (k_modulo l dC dI H.size (k + 1) n (by omega) (by omega) (by omega)) ⟨va_cnB 2 hts gX0_changesOf_X6_modulo_n36 rfl rfl rfl (hE) (hts (.initialized RX6) (List.mem_of_getElem? (i := 3) rfl)) (by decide +kernel) ⟨Nat.le_of_ble_eq_true rfl, Nat.le_of_ble_eq_true rfl⟩, (hts (.static yX6_modulo) (List.mem_of_getElem? (i := 2) rfl)), trivial⟩ ⟨zfb, zpre (hP.sub (ws' := []) [] rfl) (hK.sub (tys' := []) [] rfl)⟩ rfl rfl hl.1 rfl (lv_room (Nat.le_of_ble_eq_true rfl)) dX0_changesOf_21 ⟨Nat.le_of_ble_eq_true rfl, Nat.le_of_ble_eq_true rfl⟩) hS (fun q h1 h2 => absurd h2 (Nat.not_le.mpr h1)) (fun q h => hA q (Nat.le_trans hS.1 h)) (fun r9 u9 t9 H1 locs ht hvm hw hB hz1 hk1 hS => ?_)
        have hw : r9 = nI ((k + 1) % n) := hw
        subst hw
        have hP := zr_keep hP hk1
        clear hk1 hz1 hB ht hvm
        refine lv_istore (lv' := [(4, .int (nI ((k + 1) % n))), (0, .ref h0), (1, .int (nI t)), (2, .int (nI (zct (fun k => decide (¬ zmk f k t = zmk f ((k + 1) % n) t)) k))), (3, .int (nI k))]) hx hb dX0_changesOf_24 hl (by decide) rfl (fun ls hl => ?_)
        refine lv_aload_n hx hb dX0_changesOf_26 rfl (lv_at hl 1 rfl) ?_
        refine lv_iload_n hx hb dX0_changesOf_27 rfl (lv_at hl 4 rfl) ?_
        refine lv_iload_n hx hb dX0_changesOf_28 rfl (lv_at hl 2 rfl) ?_
        refine va_calli (va_runV (As := [.int (nI k), .int (nI t)]) (rest := []) ⟨hx, hb, hml, hown, hts⟩ (k_mark l dC dI H1.size cI h0 h1 h2 n T f g k t hkn hn1) (cwV 2 hts gX0_changesOf_X0_mark rfl rfl rfl (by decide +kernel) ⟨Nat.le_of_ble_eq_true rfl, Nat.le_of_ble_eq_true rfl⟩) ⟨zfb, va_recv hK hP (ci := 0) (q0 := 0) rfl rfl, zpre (hP.sub (ws' := [(h0, .inr (0, [.ref h1, .int (nI T), .ref h2])), (h1, .inl (cI, n, .inl f)), (h2, .inl (cI, 256, .inl g))]) [0, 1, 2] rfl) (hK.sub (tys' := [(cI, .int)]) [0] rfl)⟩ rfl rfl hl.1 rfl (lv_room (Nat.le_of_ble_eq_true rfl)) dX0_changesOf_29 ⟨Nat.le_of_ble_eq_true rfl, Nat.le_of_ble_eq_true rfl⟩) hS (fun q h1 h2 => absurd h2 (Nat.not_le.mpr h1)) (fun q h => hA q (Nat.le_trans hS.1 h)) (fun r9 u9 t9 H1 locs ht hvm hw hB hz1 hk1 hS => ?_)
        have hw : r9 = zmk f k t := hw
        subst hw
        have hP := zr_keep hP hk1
        clear hk1 hz1 hB ht hvm
        refine lv_aload_n hx hb dX0_changesOf_32 rfl (lv_at hl 1 rfl) ?_
        refine lv_iload hx hb dX0_changesOf_33 (lv_at hl 0 rfl) ?_
        refine lv_iload_n hx hb dX0_changesOf_35 rfl (lv_at hl 2 rfl) ?_
        refine va_calli (va_runV (As := [.int (nI ((k + 1) % n)), .int (nI t)]) (rest := [.int (zmk f k t)]) ⟨hx, hb, hml, hown, hts⟩ (k_mark l dC dI H1.size cI h0 h1 h2 n T f g ((k + 1) % n) t (Nat.mod_lt _ (by omega)) hn1) (cwV 2 hts gX0_changesOf_X0_mark rfl rfl rfl (by decide +kernel) ⟨Nat.le_of_ble_eq_true rfl, Nat.le_of_ble_eq_true rfl⟩) ⟨zfb, va_recv hK hP (ci := 0) (q0 := 0) rfl rfl, zpre (hP.sub (ws' := [(h0, .inr (0, [.ref h1, .int (nI T), .ref h2])), (h1, .inl (cI, n, .inl f)), (h2, .inl (cI, 256, .inl g))]) [0, 1, 2] rfl) (hK.sub (tys' := [(cI, .int)]) [0] rfl)⟩ rfl rfl hl.1 rfl (lv_room (Nat.le_of_ble_eq_true rfl)) dX0_changesOf_36 ⟨Nat.le_of_ble_eq_true rfl, Nat.le_of_ble_eq_true rfl⟩) hS (fun q h1 h2 => absurd h2 (Nat.not_le.mpr h1)) (fun q h => hA q (Nat.le_trans hS.1 h)) (fun r9 u9 t9 H1 locs ht hvm hw hB hz1 hk1 hS => ?_)
        have hw : r9 = zmk f ((k + 1) % n) t := hw
        subst hw
        have hP := zr_keep hP hk1
        clear hk1 hz1 hB ht hvm
        refine lv_icmp_eq (tgt := 45) hx hb dX0_changesOf_39 (by decide) (fun c39 => ?_) (fun c39 => ?_)
        · skip
          have ec := zct_f (p := (fun k => decide (¬ zmk f k t = zmk f ((k + 1) % n) t))) (n := k) (decide_eq_false (not_not_intro c39))
          refine lv_iinc (v := nI (k + 1)) (lv' := [(3, .int (nI (k + 1))), (4, .int (nI ((k + 1) % n))), (0, .ref h0), (1, .int (nI t)), (2, .int (nI (zct (fun k => decide (¬ zmk f k t = zmk f ((k + 1) % n) t)) k)))]) hx hb dX0_changesOf_45 hl (k := 4) rfl (nI_1 k) (by decide) rfl (fun ls hl => ?_)
          refine lv_goto (tgt := 4) hx hb dX0_changesOf_48 (by decide) ?_
          exact ih (k + 1) (by omega) (by omega) _ _ hP hS ls (by rw [ec]; exact lv_sub hl [2, 3, 4, 0] rfl)
        · skip
          have ec := zct_t (p := (fun k => decide (¬ zmk f k t = zmk f ((k + 1) % n) t))) (n := k) (decide_eq_true c39)
          refine lv_iinc (v := nI (zct (fun k => decide (¬ zmk f k t = zmk f ((k + 1) % n) t)) k + 1)) (lv' := [(2, .int (nI (zct (fun k => decide (¬ zmk f k t = zmk f ((k + 1) % n) t)) k + 1))), (4, .int (nI ((k + 1) % n))), (0, .ref h0), (1, .int (nI t)), (3, .int (nI k))]) hx hb dX0_changesOf_42 hl (k := 3) rfl (nI_1 _) (by decide) rfl (fun ls hl => ?_)
          refine lv_iinc (v := nI (k + 1)) (lv' := [(3, .int (nI (k + 1))), (2, .int (nI (zct (fun k => decide (¬ zmk f k t = zmk f ((k + 1) % n) t)) k + 1))), (4, .int (nI ((k + 1) % n))), (0, .ref h0), (1, .int (nI t))]) hx hb dX0_changesOf_45 hl (k := 4) rfl (nI_1 k) (by decide) rfl (fun ls hl => ?_)
          refine lv_goto (tgt := 4) hx hb dX0_changesOf_48 (by decide) ?_
          exact ih (k + 1) (by omega) (by omega) _ _ hP hS ls (by rw [ec]; exact lv_sub hl [3, 4, 1, 0] rfl)
  exact loop (n + 1) 0 (by omega) (Nat.zero_le _) _ _ hP hS ls (lv_sub hl [2, 3, 1, 0] rfl)

set_option maxHeartbeats 4000000 in
set_option maxRecDepth 100000 in
/-- isFirstTrackFrom(t, b) -/
theorem k_ftFrom (l : Launch) (dC : Nat → ClassId) (dI : Nat → Nat → Nat) (sz : Nat) (cI : ClassId) (h0 h1 h2 : Nat) (n T : Nat) (f g : Nat → Int32) (t b : Nat) (hn : n < 2 ^ 30) (hbn : b < n) : Met l yX0_isFirstTrackFrom wsX0_isFirstTrackFrom ({ frames := 3, cells := 0, slots := 0, locals := 64 }) (va_Pc [.ref h0, .int (nI t), .int (nI b)] (zPcN (dC, dI) [(h0, .inr (0, [.ref h1, .int (nI T), .ref h2])), (h1, .inl (cI, n, .inl f)), (h2, .inl (cI, 256, .inl g))] [(cI, .int)] sz)) (va_Qi (fun (r : Int32) (_ : Unit) => r = zb (zft f n t b)) (fun _ _ => True) (zq sz)) 0 0 (zq sz) := by
  refine Met.ofW (cc := cX0_isFirstTrackFrom) (maxL := 4) (ret := (some .boolean)) (by decide) rfl ?_
  intro p e s m args below meth c s₁ B hml hv
  obtain ⟨rfl, hsz, hP, hK, hE⟩ := hv
  have hx := B.exec
  have hb := B.bytes
  have hr := B.returns
  have hts := atoms_spec (ws := wsX0_isFirstTrackFrom) B.pre
  have hown : s.vm.findClass RX0 = some m.cls := findClass_of_methodNamed B.named
  have hlocks := B.notSynchronized
  subst hsz
  have hi0 : ∀ w ∈ u_ws RX0 TX0 3, w ∈ wsX0_isFirstTrackFrom := by decide +kernel
  have hA : ∀ q : Nat, s.heap.size ≤ q → zq s.heap.size q := fun q h => h
  have hS : va_S (zq s.heap.size) s.heap s.heap [] := va_S.rf
  have hl := lv_entry ([.ref h0, .int (nI t), .int (nI b)]) (n := 4) (Nat.le_of_ble_eq_true rfl)
  rw [lg_entry_eq]
  generalize (lg_sl ([.ref h0, .int (nI t), .int (nI b)]) ++ List.replicate (4 - (lg_sl ([.ref h0, .int (nI t), .int (nI b)])).length) Slot.unset).toArray = ls at hl ⊢
  have hl : lv_has ls 4 [(0, .ref h0), (1, .int (nI t)), (2, .int (nI b))] := hl
  have hn1 : n < 2 ^ 31 := by omega
  refine lv_iconst (v := 0) hx hb dX0_isFirstTrackFrom_0 (by decide) ?_
  refine lv_istore_n (lv' := [(3, .int 0), (0, .ref h0), (1, .int (nI t)), (2, .int (nI b))]) hx hb dX0_isFirstTrackFrom_1 rfl hl (by decide) rfl (fun ls hl => ?_)
  have loop : ∀ (d : Nat) (k : Nat), n + 1 ≤ k + d → k ≤ n → zal (fun k => decide (zmk f k t = zmk f ((k + b) % n) 0)) k = true → ∀ (H : Heap) (locs : List Loc), va_P (dC, dI) vwCl [(h0, .inr (0, [.ref h1, .int (nI T), .ref h2])), (h1, .inl (cI, n, .inl f)), (h2, .inl (cI, 256, .inl g))] H → va_S (zq s.heap.size) s.heap H locs → ∀ ls : Array Slot, lv_has ls 4 [(0, .ref h0), (1, .int (nI t)), (2, .int (nI b)), (3, .int (nI k))] → W p l e (headSpec wsX0_isFirstTrackFrom ({ frames := 3, cells := 0, slots := 0, locals := 64 })).room s m ([.ref h0, .int (nI t), .int (nI b)] : List Value).toArray below meth c H locs 0 0 (MQ below (va_Qi (fun (r : Int32) (_ : Unit) => r = zb (zft f n t b)) (fun _ _ => True) (zq s.heap.size)) ([.ref h0, .int (nI t), .int (nI b)] : List Value).toArray s 0 0 (zq s.heap.size)) (F0 m 2 ls []) := by
    intro d
    induction d with
    | zero => intro k hd hk hz; exact absurd hd (by omega)
    | succ d ih =>
      intro k hd hk hz H locs hP hS ls hl
      refine lv_iload_n hx hb dX0_isFirstTrackFrom_2 rfl (lv_at hl 3 rfl) ?_
      refine lv_aload_n hx hb dX0_isFirstTrackFrom_3 rfl (lv_at hl 0 rfl) ?_
      refine va_get (D := (dC, dI)) (ci := 0) (v := .ref h1) (C := RX0) (T := TX0) (N := 3) hx hb hts hi0 hown hK hP 0 rfl rfl 0 (by decide) (hts (.fieldLink RX0 15 "Ringtrack$Code" "words" "[I") (List.mem_of_getElem? (i := 1) rfl)) (fun _ h9 => h9) rfl dX0_isFirstTrackFrom_4 ?_
      refine va_alen (v := (nI n)) hx hb hK hP 1 0 rfl rfl rfl dX0_isFirstTrackFrom_7 ?_
      refine lv_icmp_ge (tgt := 44) hx hb dX0_isFirstTrackFrom_8 (by decide) (fun c8 => ?_) (fun c8 => ?_)
      · skip
        have hkn : k = n := Nat.le_antisymm hk ((nI_leI hn1 (by omega)).mp c8)
        refine lv_iconst (v := 1) hx hb dX0_isFirstTrackFrom_44 (by decide) ?_
        exact W.zret (v := 1) hx hb hr (by decide) (fun t9 ht hW => ⟨⟨_, (), rfl, by rw [hkn] at hz; rw [show zft f n t b = true from hz]; rfl, trivial⟩, hS.F ht⟩) hS.2.2 dX0_isFirstTrackFrom_45
      · skip
        have hkn : k < n := Nat.lt_of_not_le (fun q => c8 ((nI_leI hn1 (by omega)).mpr q))
        refine lv_aload_n hx hb dX0_isFirstTrackFrom_11 rfl (lv_at hl 0 rfl) ?_
        refine lv_iload_n hx hb dX0_isFirstTrackFrom_12 rfl (lv_at hl 3 rfl) ?_
        refine lv_iload_n hx hb dX0_isFirstTrackFrom_13 rfl (lv_at hl 1 rfl) ?_
        refine va_calli (va_runV (As := [.int (nI k), .int (nI t)]) (rest := []) ⟨hx, hb, hml, hown, hts⟩ (k_mark l dC dI H.size cI h0 h1 h2 n T f g k t hkn hn1) (cwV 2 hts gX0_isFirstTrackFrom_X0_mark rfl rfl rfl (by decide +kernel) ⟨Nat.le_of_ble_eq_true rfl, Nat.le_of_ble_eq_true rfl⟩) ⟨zfb, va_recv hK hP (ci := 0) (q0 := 0) rfl rfl, zpre (hP.sub (ws' := [(h0, .inr (0, [.ref h1, .int (nI T), .ref h2])), (h1, .inl (cI, n, .inl f)), (h2, .inl (cI, 256, .inl g))]) [0, 1, 2] rfl) (hK.sub (tys' := [(cI, .int)]) [0] rfl)⟩ rfl rfl hl.1 rfl (lv_room (Nat.le_of_ble_eq_true rfl)) dX0_isFirstTrackFrom_14 ⟨Nat.le_of_ble_eq_true rfl, Nat.le_of_ble_eq_true rfl⟩) hS (fun q h1 h2 => absurd h2 (Nat.not_le.mpr h1)) (fun q h => hA q (Nat.le_trans hS.1 h)) (fun r9 u9 t9 H1 locs ht hvm hw hB hz1 hk1 hS => ?_)
        have hw : r9 = zmk f k t := hw
        subst hw
        have hP := zr_keep hP hk1
        clear hk1 hz1 hB ht hvm
        refine lv_aload_n hx hb dX0_isFirstTrackFrom_17 rfl (lv_at hl 0 rfl) ?_
        refine lv_iload_n hx hb dX0_isFirstTrackFrom_18 rfl (lv_at hl 3 rfl) ?_
        refine lv_iload_n hx hb dX0_isFirstTrackFrom_19 rfl (lv_at hl 2 rfl) ?_
        refine lv_iadd hx hb dX0_isFirstTrackFrom_20 ?_
        refine zt_top (y := nI (k + b)) (nI_add k b) ?_
        refine lv_aload_n hx hb dX0_isFirstTrackFrom_21 rfl (lv_at hl 0 rfl) ?_
        refine va_get (D := (dC, dI)) (ci := 0) (v := .ref h1) (C := RX0) (T := TX0) (N := 3) hx hb hts hi0 hown hK hP 0 rfl rfl 0 (by decide) (hts (.fieldLink RX0 15 "Ringtrack$Code" "words" "[I") (List.mem_of_getElem? (i := 1) rfl)) (fun _ h9 => h9) rfl dX0_isFirstTrackFrom_22 ?_
        refine va_alen (v := (nI n)) hx hb hK hP 1 0 rfl rfl rfl dX0_isFirstTrackFrom_25 ?_
        refine va_calli (va_runSN (As := [.int (nI (k + b)), .int (nI n)]) (rest := [.ref h0, .int (zmk f k t)]) ⟨hx, hb, hml, hown, hts⟩ (k_modulo l dC dI H1.size (k + b) n (by omega) (by omega) (by omega)) ⟨va_cnB 2 hts gX0_isFirstTrackFrom_X6_modulo_n36 rfl rfl rfl (hE) (hts (.initialized RX6) (List.mem_of_getElem? (i := 16) rfl)) (by decide +kernel) ⟨Nat.le_of_ble_eq_true rfl, Nat.le_of_ble_eq_true rfl⟩, (hts (.static yX6_modulo) (List.mem_of_getElem? (i := 15) rfl)), trivial⟩ ⟨zfb, zpre (hP.sub (ws' := []) [] rfl) (hK.sub (tys' := []) [] rfl)⟩ rfl rfl hl.1 rfl (lv_room (Nat.le_of_ble_eq_true rfl)) dX0_isFirstTrackFrom_26 ⟨Nat.le_of_ble_eq_true rfl, Nat.le_of_ble_eq_true rfl⟩) hS (fun q h1 h2 => absurd h2 (Nat.not_le.mpr h1)) (fun q h => hA q (Nat.le_trans hS.1 h)) (fun r9 u9 t9 H1 locs ht hvm hw hB hz1 hk1 hS => ?_)
        have hw : r9 = nI ((k + b) % n) := hw
        subst hw
        have hP := zr_keep hP hk1
        clear hk1 hz1 hB ht hvm
        refine lv_iconst (v := 0) hx hb dX0_isFirstTrackFrom_29 (by decide) ?_
        refine zt_top (y := nI 0) (nI_0.symm) ?_
        refine va_calli (va_runV (As := [.int (nI ((k + b) % n)), .int (nI 0)]) (rest := [.int (zmk f k t)]) ⟨hx, hb, hml, hown, hts⟩ (k_mark l dC dI H1.size cI h0 h1 h2 n T f g ((k + b) % n) 0 (Nat.mod_lt _ (by omega)) hn1) (cwV 2 hts gX0_isFirstTrackFrom_X0_mark rfl rfl rfl (by decide +kernel) ⟨Nat.le_of_ble_eq_true rfl, Nat.le_of_ble_eq_true rfl⟩) ⟨zfb, va_recv hK hP (ci := 0) (q0 := 0) rfl rfl, zpre (hP.sub (ws' := [(h0, .inr (0, [.ref h1, .int (nI T), .ref h2])), (h1, .inl (cI, n, .inl f)), (h2, .inl (cI, 256, .inl g))]) [0, 1, 2] rfl) (hK.sub (tys' := [(cI, .int)]) [0] rfl)⟩ rfl rfl hl.1 rfl (lv_room (Nat.le_of_ble_eq_true rfl)) dX0_isFirstTrackFrom_30 ⟨Nat.le_of_ble_eq_true rfl, Nat.le_of_ble_eq_true rfl⟩) hS (fun q h1 h2 => absurd h2 (Nat.not_le.mpr h1)) (fun q h => hA q (Nat.le_trans hS.1 h)) (fun r9 u9 t9 H1 locs ht hvm hw hB hz1 hk1 hS => ?_)
        have hw : r9 = zmk f ((k + b) % n) 0 := hw
        subst hw
        have hP := zr_keep hP hk1
        clear hk1 hz1 hB ht hvm
        refine lv_icmp_eq (tgt := 38) hx hb dX0_isFirstTrackFrom_33 (by decide) (fun c33 => ?_) (fun c33 => ?_)
        · skip
          have ec : zal (fun k => decide (zmk f k t = zmk f ((k + b) % n) 0)) (k + 1) = true := zal_s hz (decide_eq_true c33)
          refine lv_iinc (v := nI (k + 1)) (lv' := [(3, .int (nI (k + 1))), (0, .ref h0), (1, .int (nI t)), (2, .int (nI b))]) hx hb dX0_isFirstTrackFrom_38 hl (k := 3) rfl (nI_1 k) (by decide) rfl (fun ls hl => ?_)
          refine lv_goto (tgt := 2) hx hb dX0_isFirstTrackFrom_41 (by decide) ?_
          exact ih (k + 1) (by omega) (by omega) ec _ _ hP hS ls (lv_sub hl [1, 2, 3, 0] rfl)
        · skip
          have ec : zft f n t b = false := zal_f hkn (decide_eq_false c33)
          refine lv_iconst (v := 0) hx hb dX0_isFirstTrackFrom_36 (by decide) ?_
          exact W.zret (v := 0) hx hb hr (by decide) (fun t9 ht hW => ⟨⟨_, (), rfl, by rw [ec]; rfl, trivial⟩, hS.F ht⟩) hS.2.2 dX0_isFirstTrackFrom_37
  exact loop (n + 1) 0 (by omega) (Nat.zero_le _) rfl _ _ hP hS ls (lv_sub hl [1, 2, 3, 0] rfl)

set_option maxHeartbeats 4000000 in
set_option maxRecDepth 100000 in
/-- isFirstTrackMoved(t) -/
theorem k_ftMoved (l : Launch) (dC : Nat → ClassId) (dI : Nat → Nat → Nat) (sz : Nat) (cI : ClassId) (h0 h1 h2 : Nat) (n T : Nat) (f g : Nat → Int32) (t : Nat) (hn : n < 2 ^ 30) : Met l yX0_isFirstTrackMoved wsX0_isFirstTrackMoved ({ frames := 4, cells := 0, slots := 0, locals := 87 }) (va_Pc [.ref h0, .int (nI t)] (zPcN (dC, dI) [(h0, .inr (0, [.ref h1, .int (nI T), .ref h2])), (h1, .inl (cI, n, .inl f)), (h2, .inl (cI, 256, .inl g))] [(cI, .int)] sz)) (va_Qi (fun (r : Int32) (_ : Unit) => r = zb (zmv f n t)) (fun _ _ => True) (zq sz)) 0 0 (zq sz) := by
  refine Met.ofW (cc := cX0_isFirstTrackMoved) (maxL := 3) (ret := (some .boolean)) (by decide) rfl ?_
  intro p e s m args below meth c s₁ B hml hv
  obtain ⟨rfl, hsz, hP, hK, hE⟩ := hv
  have hx := B.exec
  have hb := B.bytes
  have hr := B.returns
  have hts := atoms_spec (ws := wsX0_isFirstTrackMoved) B.pre
  have hown : s.vm.findClass RX0 = some m.cls := findClass_of_methodNamed B.named
  have hlocks := B.notSynchronized
  subst hsz
  have hi0 : ∀ w ∈ u_ws RX0 TX0 3, w ∈ wsX0_isFirstTrackMoved := by decide +kernel
  have hA : ∀ q : Nat, s.heap.size ≤ q → zq s.heap.size q := fun q h => h
  have hS : va_S (zq s.heap.size) s.heap s.heap [] := va_S.rf
  have hl := lv_entry ([.ref h0, .int (nI t)]) (n := 3) (Nat.le_of_ble_eq_true rfl)
  rw [lg_entry_eq]
  generalize (lg_sl ([.ref h0, .int (nI t)]) ++ List.replicate (3 - (lg_sl ([.ref h0, .int (nI t)])).length) Slot.unset).toArray = ls at hl ⊢
  have hl : lv_has ls 3 [(0, .ref h0), (1, .int (nI t))] := hl
  have hn1 : n < 2 ^ 31 := by omega
  refine lv_iconst (v := 0) hx hb dX0_isFirstTrackMoved_0 (by decide) ?_
  refine lv_istore_n (lv' := [(2, .int 0), (0, .ref h0), (1, .int (nI t))]) hx hb dX0_isFirstTrackMoved_1 rfl hl (by decide) rfl (fun ls hl => ?_)
  have loop : ∀ (d : Nat) (k : Nat), n + 1 ≤ k + d → k ≤ n → zex (fun b => zft f n t b) k = false → ∀ (H : Heap) (locs : List Loc), va_P (dC, dI) vwCl [(h0, .inr (0, [.ref h1, .int (nI T), .ref h2])), (h1, .inl (cI, n, .inl f)), (h2, .inl (cI, 256, .inl g))] H → va_S (zq s.heap.size) s.heap H locs → ∀ ls : Array Slot, lv_has ls 3 [(0, .ref h0), (1, .int (nI t)), (2, .int (nI k))] → W p l e (headSpec wsX0_isFirstTrackMoved ({ frames := 4, cells := 0, slots := 0, locals := 87 })).room s m ([.ref h0, .int (nI t)] : List Value).toArray below meth c H locs 0 0 (MQ below (va_Qi (fun (r : Int32) (_ : Unit) => r = zb (zmv f n t)) (fun _ _ => True) (zq s.heap.size)) ([.ref h0, .int (nI t)] : List Value).toArray s 0 0 (zq s.heap.size)) (F0 m 2 ls []) := by
    intro d
    induction d with
    | zero => intro k hd hk hz; exact absurd hd (by omega)
    | succ d ih =>
      intro k hd hk hz H locs hP hS ls hl
      refine lv_iload_n hx hb dX0_isFirstTrackMoved_2 rfl (lv_at hl 2 rfl) ?_
      refine lv_aload_n hx hb dX0_isFirstTrackMoved_3 rfl (lv_at hl 0 rfl) ?_
      refine va_get (D := (dC, dI)) (ci := 0) (v := .ref h1) (C := RX0) (T := TX0) (N := 3) hx hb hts hi0 hown hK hP 0 rfl rfl 0 (by decide) (hts (.fieldLink RX0 15 "Ringtrack$Code" "words" "[I") (List.mem_of_getElem? (i := 1) rfl)) (fun _ h9 => h9) rfl dX0_isFirstTrackMoved_4 ?_
      refine va_alen (v := (nI n)) hx hb hK hP 1 0 rfl rfl rfl dX0_isFirstTrackMoved_7 ?_
      refine lv_icmp_ge (tgt := 28) hx hb dX0_isFirstTrackMoved_8 (by decide) (fun c8 => ?_) (fun c8 => ?_)
      · skip
        have hkn : k = n := Nat.le_antisymm hk ((nI_leI hn1 (by omega)).mp c8)
        refine lv_iconst (v := 0) hx hb dX0_isFirstTrackMoved_28 (by decide) ?_
        exact W.zret (v := 0) hx hb hr (by decide) (fun t9 ht hW => ⟨⟨_, (), rfl, by rw [hkn] at hz; rw [show zmv f n t = false from hz]; rfl, trivial⟩, hS.F ht⟩) hS.2.2 dX0_isFirstTrackMoved_29
      · skip
        have hkn : k < n := Nat.lt_of_not_le (fun q => c8 ((nI_leI hn1 (by omega)).mpr q))
        refine lv_aload_n hx hb dX0_isFirstTrackMoved_11 rfl (lv_at hl 0 rfl) ?_
        refine lv_iload_n hx hb dX0_isFirstTrackMoved_12 rfl (lv_at hl 1 rfl) ?_
        refine lv_iload_n hx hb dX0_isFirstTrackMoved_13 rfl (lv_at hl 2 rfl) ?_
        refine va_calli (va_runV (As := [.int (nI t), .int (nI k)]) (rest := []) ⟨hx, hb, hml, hown, hts⟩ (k_ftFrom l dC dI H.size cI h0 h1 h2 n T f g t k hn hkn) (cwV 2 hts gX0_isFirstTrackMoved_X0_isFirstTrackFrom rfl rfl rfl (by decide +kernel) ⟨Nat.le_of_ble_eq_true rfl, Nat.le_of_ble_eq_true rfl⟩) ⟨zfbN, va_recv hK hP (ci := 0) (q0 := 0) rfl rfl, zpreN (hP.sub (ws' := [(h0, .inr (0, [.ref h1, .int (nI T), .ref h2])), (h1, .inl (cI, n, .inl f)), (h2, .inl (cI, 256, .inl g))]) [0, 1, 2] rfl) (hK.sub (tys' := [(cI, .int)]) [0] rfl) hE⟩ rfl rfl hl.1 rfl (lv_room (Nat.le_of_ble_eq_true rfl)) dX0_isFirstTrackMoved_14 ⟨Nat.le_of_ble_eq_true rfl, Nat.le_of_ble_eq_true rfl⟩) hS (fun q h1 h2 => absurd h2 (Nat.not_le.mpr h1)) (fun q h => hA q (Nat.le_trans hS.1 h)) (fun r9 u9 t9 H1 locs ht hvm hw hB hz1 hk1 hS => ?_)
        have hw : r9 = zb (zft f n t k) := hw
        subst hw
        have hP := zr_keep hP hk1
        clear hk1 hz1 hB ht hvm
        refine lv_if_eq (tgt := 22) hx hb dX0_isFirstTrackMoved_17 (by decide) (fun c17 => ?_) (fun c17 => ?_)
        · skip
          have ec : zex (fun b => zft f n t b) (k + 1) = false := zex_f hz (zb_0.mp c17)
          refine lv_iinc (v := nI (k + 1)) (lv' := [(2, .int (nI (k + 1))), (0, .ref h0), (1, .int (nI t))]) hx hb dX0_isFirstTrackMoved_22 hl (k := 2) rfl (nI_1 k) (by decide) rfl (fun ls hl => ?_)
          refine lv_goto (tgt := 2) hx hb dX0_isFirstTrackMoved_25 (by decide) ?_
          exact ih (k + 1) (by omega) (by omega) ec _ _ hP hS ls (lv_sub hl [1, 2, 0] rfl)
        · skip
          have ec : zmv f n t = true := zex_t hkn (zb_n0.mp c17)
          refine lv_iconst (v := 1) hx hb dX0_isFirstTrackMoved_20 (by decide) ?_
          exact W.zret (v := 1) hx hb hr (by decide) (fun t9 ht hW => ⟨⟨_, (), rfl, by rw [ec]; rfl, trivial⟩, hS.F ht⟩) hS.2.2 dX0_isFirstTrackMoved_21
  exact loop (n + 1) 0 (by omega) (Nat.zero_le _) rfl _ _ hP hS ls (lv_sub hl [1, 2, 0] rfl)

set_option maxHeartbeats 4000000 in
set_option maxRecDepth 100000 in
/-- repeatsFirstTrack() -/
theorem k_repeats (l : Launch) (dC : Nat → ClassId) (dI : Nat → Nat → Nat) (sz : Nat) (cI : ClassId) (h0 h1 h2 : Nat) (n T : Nat) (f g : Nat → Int32) (hn : n < 2 ^ 30) (hT : 1 ≤ T) (hT2 : T < 2 ^ 30) : Met l yX0_repeatsFirstTrack wsX0_repeatsFirstTrack ({ frames := 5, cells := 0, slots := 0, locals := 109 }) (va_Pc [.ref h0] (zPcN (dC, dI) [(h0, .inr (0, [.ref h1, .int (nI T), .ref h2])), (h1, .inl (cI, n, .inl f)), (h2, .inl (cI, 256, .inl g))] [(cI, .int)] sz)) (va_Qi (fun (r : Int32) (_ : Unit) => r = zb (zon f n T)) (fun _ _ => True) (zq sz)) 0 0 (zq sz) := by
  refine Met.ofW (cc := cX0_repeatsFirstTrack) (maxL := 2) (ret := (some .boolean)) (by decide) rfl ?_
  intro p e s m args below meth c s₁ B hml hv
  obtain ⟨rfl, hsz, hP, hK, hE⟩ := hv
  have hx := B.exec
  have hb := B.bytes
  have hr := B.returns
  have hts := atoms_spec (ws := wsX0_repeatsFirstTrack) B.pre
  have hown : s.vm.findClass RX0 = some m.cls := findClass_of_methodNamed B.named
  have hlocks := B.notSynchronized
  subst hsz
  have hi0 : ∀ w ∈ u_ws RX0 TX0 3, w ∈ wsX0_repeatsFirstTrack := by decide +kernel
  have hA : ∀ q : Nat, s.heap.size ≤ q → zq s.heap.size q := fun q h => h
  have hS : va_S (zq s.heap.size) s.heap s.heap [] := va_S.rf
  have hl := lv_entry ([.ref h0]) (n := 2) (Nat.le_of_ble_eq_true rfl)
  rw [lg_entry_eq]
  generalize (lg_sl ([.ref h0]) ++ List.replicate (2 - (lg_sl ([.ref h0])).length) Slot.unset).toArray = ls at hl ⊢
  have hl : lv_has ls 2 [(0, .ref h0)] := hl
  refine lv_iconst (v := 1) hx hb dX0_repeatsFirstTrack_0 (by decide) ?_
  refine lv_istore_n (lv' := [(1, .int 1), (0, .ref h0)]) hx hb dX0_repeatsFirstTrack_1 rfl hl (by decide) rfl (fun ls hl => ?_)
  have loop : ∀ (d : Nat) (k : Nat), T + 1 ≤ k + d → k ≤ T → 1 ≤ k → zal (fun t => t == 0 || zmv f n t) k = true → ∀ (H : Heap) (locs : List Loc), va_P (dC, dI) vwCl [(h0, .inr (0, [.ref h1, .int (nI T), .ref h2])), (h1, .inl (cI, n, .inl f)), (h2, .inl (cI, 256, .inl g))] H → va_S (zq s.heap.size) s.heap H locs → ∀ ls : Array Slot, lv_has ls 2 [(0, .ref h0), (1, .int (nI k))] → W p l e (headSpec wsX0_repeatsFirstTrack ({ frames := 5, cells := 0, slots := 0, locals := 109 })).room s m ([.ref h0] : List Value).toArray below meth c H locs 0 0 (MQ below (va_Qi (fun (r : Int32) (_ : Unit) => r = zb (zon f n T)) (fun _ _ => True) (zq s.heap.size)) ([.ref h0] : List Value).toArray s 0 0 (zq s.heap.size)) (F0 m 2 ls []) := by
    intro d
    induction d with
    | zero => intro k hd hk hk1 hz; exact absurd hd (by omega)
    | succ d ih =>
      intro k hd hk hk1 hz H locs hP hS ls hl
      refine lv_iload_n hx hb dX0_repeatsFirstTrack_2 rfl (lv_at hl 1 rfl) ?_
      refine lv_aload_n hx hb dX0_repeatsFirstTrack_3 rfl (lv_at hl 0 rfl) ?_
      refine va_get (D := (dC, dI)) (ci := 0) (v := .int (nI T)) (C := RX0) (T := TX0) (N := 3) hx hb hts hi0 hown hK hP 0 rfl rfl 1 (by decide) (hts (.fieldLink RX0 24 "Ringtrack$Code" "tracks" "I") (List.mem_of_getElem? (i := 1) rfl)) (fun _ h9 => h9) rfl dX0_repeatsFirstTrack_4 ?_
      refine lv_icmp_ge (tgt := 26) hx hb dX0_repeatsFirstTrack_7 (by decide) (fun c7 => ?_) (fun c7 => ?_)
      · skip
        have hkn : k = T := Nat.le_antisymm hk ((nI_leI (by omega) (by omega)).mp c7)
        refine lv_iconst (v := 1) hx hb dX0_repeatsFirstTrack_26 (by decide) ?_
        exact W.zret (v := 1) hx hb hr (by decide) (fun t9 ht hW => ⟨⟨_, (), rfl, by rw [hkn] at hz; rw [show zon f n T = true from hz]; rfl, trivial⟩, hS.F ht⟩) hS.2.2 dX0_repeatsFirstTrack_27
      · skip
        have hkn : k < T := Nat.lt_of_not_le (fun q => c7 ((nI_leI (by omega) (by omega)).mpr q))
        refine lv_aload_n hx hb dX0_repeatsFirstTrack_10 rfl (lv_at hl 0 rfl) ?_
        refine lv_iload_n hx hb dX0_repeatsFirstTrack_11 rfl (lv_at hl 1 rfl) ?_
        refine va_calli (va_runV (As := [.int (nI k)]) (rest := []) ⟨hx, hb, hml, hown, hts⟩ (k_ftMoved l dC dI H.size cI h0 h1 h2 n T f g k hn) (cwV 1 hts gX0_repeatsFirstTrack_X0_isFirstTrackMoved rfl rfl rfl (by decide +kernel) ⟨Nat.le_of_ble_eq_true rfl, Nat.le_of_ble_eq_true rfl⟩) ⟨zfbN, va_recv hK hP (ci := 0) (q0 := 0) rfl rfl, zpreN (hP.sub (ws' := [(h0, .inr (0, [.ref h1, .int (nI T), .ref h2])), (h1, .inl (cI, n, .inl f)), (h2, .inl (cI, 256, .inl g))]) [0, 1, 2] rfl) (hK.sub (tys' := [(cI, .int)]) [0] rfl) hE⟩ rfl rfl hl.1 rfl (lv_room (Nat.le_of_ble_eq_true rfl)) dX0_repeatsFirstTrack_12 ⟨Nat.le_of_ble_eq_true rfl, Nat.le_of_ble_eq_true rfl⟩) hS (fun q h1 h2 => absurd h2 (Nat.not_le.mpr h1)) (fun q h => hA q (Nat.le_trans hS.1 h)) (fun r9 u9 t9 H1 locs ht hvm hw hB hz1 hk1 hS => ?_)
        have hw : r9 = zb (zmv f n k) := hw
        subst hw
        have hP := zr_keep hP hk1
        clear hk1 hz1 hB ht hvm
        refine lv_if_ne (tgt := 20) hx hb dX0_repeatsFirstTrack_15 (by decide) (fun c15 => ?_) (fun c15 => ?_)
        · skip
          have ec : zal (fun t => t == 0 || zmv f n t) (k + 1) = true := zal_s hz (by show (k == 0 || zmv f n k) = true; rw [zb_n0.mp c15, Bool.or_true])
          refine lv_iinc (v := nI (k + 1)) (lv' := [(1, .int (nI (k + 1))), (0, .ref h0)]) hx hb dX0_repeatsFirstTrack_20 hl (k := 1) rfl (nI_1 k) (by decide) rfl (fun ls hl => ?_)
          refine lv_goto (tgt := 2) hx hb dX0_repeatsFirstTrack_23 (by decide) ?_
          exact ih (k + 1) (by omega) (by omega) (by omega) ec _ _ hP hS ls (lv_sub hl [1, 0] rfl)
        · skip
          have ec : zon f n T = false := zal_f hkn (by show (k == 0 || zmv f n k) = false; rw [zb_0.mp c15, Bool.or_false]; exact beq_eq_false_iff_ne.mpr (by omega))
          refine lv_iconst (v := 0) hx hb dX0_repeatsFirstTrack_18 (by decide) ?_
          exact W.zret (v := 0) hx hb hr (by decide) (fun t9 ht hW => ⟨⟨_, (), rfl, by rw [ec]; rfl, trivial⟩, hS.F ht⟩) hS.2.2 dX0_repeatsFirstTrack_19
  exact loop (T + 1) 1 (by omega) hT (Nat.le_refl 1) rfl _ _ hP hS ls (lv_sub hl [1, 0] rfl)

set_option maxHeartbeats 4000000 in
set_option maxRecDepth 100000 in
/-- changesEvenly() -/
theorem k_evenly (l : Launch) (dC : Nat → ClassId) (dI : Nat → Nat → Nat) (sz : Nat) (cI : ClassId) (h0 h1 h2 : Nat) (n T : Nat) (f g : Nat → Int32) (hn : n < 2 ^ 30) (hT2 : T < 2 ^ 30) : Met l yX0_changesEvenly wsX0_changesEvenly ({ frames := 4, cells := 0, slots := 0, locals := 88 }) (va_Pc [.ref h0] (zPcN (dC, dI) [(h0, .inr (0, [.ref h1, .int (nI T), .ref h2])), (h1, .inl (cI, n, .inl f)), (h2, .inl (cI, 256, .inl g))] [(cI, .int)] sz)) (va_Qi (fun (r : Int32) (_ : Unit) => r = zb (!decide ((2 : Int32) < nI (zhi f n T) - nI (zlo f n T)))) (fun _ _ => True) (zq sz)) 0 0 (zq sz) := by
  refine Met.ofW (cc := cX0_changesEvenly) (maxL := 5) (ret := (some .boolean)) (by decide) rfl ?_
  intro p e s m args below meth c s₁ B hml hv
  obtain ⟨rfl, hsz, hP, hK, hE⟩ := hv
  have hx := B.exec
  have hb := B.bytes
  have hr := B.returns
  have hts := atoms_spec (ws := wsX0_changesEvenly) B.pre
  have hown : s.vm.findClass RX0 = some m.cls := findClass_of_methodNamed B.named
  have hlocks := B.notSynchronized
  subst hsz
  have hi0 : ∀ w ∈ u_ws RX0 TX0 3, w ∈ wsX0_changesEvenly := by decide +kernel
  have hA : ∀ q : Nat, s.heap.size ≤ q → zq s.heap.size q := fun q h => h
  have hS : va_S (zq s.heap.size) s.heap s.heap [] := va_S.rf
  have hl := lv_entry ([.ref h0]) (n := 5) (Nat.le_of_ble_eq_true rfl)
  rw [lg_entry_eq]
  generalize (lg_sl ([.ref h0]) ++ List.replicate (5 - (lg_sl ([.ref h0])).length) Slot.unset).toArray = ls at hl ⊢
  have hl : lv_has ls 5 [(0, .ref h0)] := hl
  refine lv_aload_n hx hb dX0_changesEvenly_0 rfl (lv_at hl 0 rfl) ?_
  refine va_get (D := (dC, dI)) (ci := 0) (v := .ref h1) (C := RX0) (T := TX0) (N := 3) hx hb hts hi0 hown hK hP 0 rfl rfl 0 (by decide) (hts (.fieldLink RX0 15 "Ringtrack$Code" "words" "[I") (List.mem_of_getElem? (i := 1) rfl)) (fun _ h9 => h9) rfl dX0_changesEvenly_1 ?_
  refine va_alen (v := (nI n)) hx hb hK hP 1 0 rfl rfl rfl dX0_changesEvenly_4 ?_
  refine lv_istore_n (lv' := [(1, .int (nI n)), (0, .ref h0)]) hx hb dX0_changesEvenly_5 rfl hl (by decide) rfl (fun ls hl => ?_)
  refine lv_iconst (v := 0) hx hb dX0_changesEvenly_6 (by decide) ?_
  refine lv_istore_n (lv' := [(2, .int 0), (1, .int (nI n)), (0, .ref h0)]) hx hb dX0_changesEvenly_7 rfl hl (by decide) rfl (fun ls hl => ?_)
  refine lv_iconst (v := 0) hx hb dX0_changesEvenly_8 (by decide) ?_
  refine lv_istore_n (lv' := [(3, .int 0), (2, .int 0), (1, .int (nI n)), (0, .ref h0)]) hx hb dX0_changesEvenly_9 rfl hl (by decide) rfl (fun ls hl => ?_)
  have loop : ∀ (d : Nat) (k : Nat), T + 1 ≤ k + d → k ≤ T → ∀ (H : Heap) (locs : List Loc), va_P (dC, dI) vwCl [(h0, .inr (0, [.ref h1, .int (nI T), .ref h2])), (h1, .inl (cI, n, .inl f)), (h2, .inl (cI, 256, .inl g))] H → va_S (zq s.heap.size) s.heap H locs → ∀ ls : Array Slot, lv_has ls 5 [(0, .ref h0), (1, .int (nI (zlo f n k))), (2, .int (nI (zhi f n k))), (3, .int (nI k))] → W p l e (headSpec wsX0_changesEvenly ({ frames := 4, cells := 0, slots := 0, locals := 88 })).room s m ([.ref h0] : List Value).toArray below meth c H locs 0 0 (MQ below (va_Qi (fun (r : Int32) (_ : Unit) => r = zb (!decide ((2 : Int32) < nI (zhi f n T) - nI (zlo f n T)))) (fun _ _ => True) (zq s.heap.size)) ([.ref h0] : List Value).toArray s 0 0 (zq s.heap.size)) (F0 m 10 ls []) := by
    intro d
    induction d with
    | zero => intro k hd hk; exact absurd hd (by omega)
    | succ d ih =>
      intro k hd hk H locs hP hS ls hl
      refine lv_iload_n hx hb dX0_changesEvenly_10 rfl (lv_at hl 3 rfl) ?_
      refine lv_aload_n hx hb dX0_changesEvenly_11 rfl (lv_at hl 0 rfl) ?_
      refine va_get (D := (dC, dI)) (ci := 0) (v := .int (nI T)) (C := RX0) (T := TX0) (N := 3) hx hb hts hi0 hown hK hP 0 rfl rfl 1 (by decide) (hts (.fieldLink RX0 24 "Ringtrack$Code" "tracks" "I") (List.mem_of_getElem? (i := 2) rfl)) (fun _ h9 => h9) rfl dX0_changesEvenly_12 ?_
      refine lv_icmp_ge (tgt := 45) hx hb dX0_changesEvenly_15 (by decide) (fun c15 => ?_) (fun c15 => ?_)
      · skip
        have hkn : k = T := Nat.le_antisymm hk ((nI_leI (by omega) (by omega)).mp c15)
        refine lv_iload_n hx hb dX0_changesEvenly_45 rfl (lv_at hl 2 rfl) ?_
        refine lv_iload_n hx hb dX0_changesEvenly_46 rfl (lv_at hl 1 rfl) ?_
        refine lv_isub hx hb dX0_changesEvenly_47 ?_
        refine lv_iconst (v := 2) hx hb dX0_changesEvenly_48 (by decide) ?_
        refine lv_icmp_gt (tgt := 56) hx hb dX0_changesEvenly_49 (by decide) (fun c49 => ?_) (fun c49 => ?_)
        · skip
          refine lv_iconst (v := 0) hx hb dX0_changesEvenly_56 (by decide) ?_
          exact W.zret (v := 0) hx hb hr (by decide) (fun t9 ht hW => ⟨⟨_, (), rfl, by rw [hkn] at c49; rw [decide_eq_true c49]; rfl, trivial⟩, hS.F ht⟩) hS.2.2 dX0_changesEvenly_57
        · skip
          refine lv_iconst (v := 1) hx hb dX0_changesEvenly_52 (by decide) ?_
          refine lv_goto (tgt := 57) hx hb dX0_changesEvenly_53 (by decide) ?_
          exact W.zret (v := 1) hx hb hr (by decide) (fun t9 ht hW => ⟨⟨_, (), rfl, by rw [hkn] at c49; rw [decide_eq_false c49]; rfl, trivial⟩, hS.F ht⟩) hS.2.2 dX0_changesEvenly_57
      · skip
        have hkn : k < T := Nat.lt_of_not_le (fun q => c15 ((nI_leI (by omega) (by omega)).mpr q))
        refine lv_aload_n hx hb dX0_changesEvenly_18 rfl (lv_at hl 0 rfl) ?_
        refine lv_iload_n hx hb dX0_changesEvenly_19 rfl (lv_at hl 3 rfl) ?_
        refine va_calli (va_runV (As := [.int (nI k)]) (rest := []) ⟨hx, hb, hml, hown, hts⟩ (k_changesOf l dC dI H.size cI h0 h1 h2 n T f g k hn) (cwV 1 hts gX0_changesEvenly_X0_changesOf rfl rfl rfl (by decide +kernel) ⟨Nat.le_of_ble_eq_true rfl, Nat.le_of_ble_eq_true rfl⟩) ⟨zfbN, va_recv hK hP (ci := 0) (q0 := 0) rfl rfl, zpreN (hP.sub (ws' := [(h0, .inr (0, [.ref h1, .int (nI T), .ref h2])), (h1, .inl (cI, n, .inl f)), (h2, .inl (cI, 256, .inl g))]) [0, 1, 2] rfl) (hK.sub (tys' := [(cI, .int)]) [0] rfl) hE⟩ rfl rfl hl.1 rfl (lv_room (Nat.le_of_ble_eq_true rfl)) dX0_changesEvenly_20 ⟨Nat.le_of_ble_eq_true rfl, Nat.le_of_ble_eq_true rfl⟩) hS (fun q h1 h2 => absurd h2 (Nat.not_le.mpr h1)) (fun q h => hA q (Nat.le_trans hS.1 h)) (fun r9 u9 t9 H1 locs ht hvm hw hB hz1 hk1 hS => ?_)
        have hw : r9 = nI (zchg f n k) := hw
        subst hw
        have hP := zr_keep hP hk1
        clear hk1 hz1 hB ht hvm
        refine lv_istore (lv' := [(4, .int (nI (zchg f n k))), (0, .ref h0), (1, .int (nI (zlo f n k))), (2, .int (nI (zhi f n k))), (3, .int (nI k))]) hx hb dX0_changesEvenly_23 hl (by decide) rfl (fun ls hl => ?_)
        refine lv_iload_n hx hb dX0_changesEvenly_25 rfl (lv_at hl 2 rfl) ?_
        refine lv_iload hx hb dX0_changesEvenly_26 (lv_at hl 0 rfl) ?_
        refine va_mmin hx hb (hml.trans hl.1.symm) hown (hts (.methodLink RX0 46 Lib.Math.min.name) (List.mem_of_getElem? (i := 3) rfl)) (hts (.static Lib.Math.min.name) (List.mem_of_getElem? (i := 4) rfl)) (hts (.initialized "java/lang/Math") (List.mem_of_getElem? (i := 5) rfl)) (hts (.code Lib.Math.min.name Lib.Math.min.code 2 (some .int)) (List.mem_of_getElem? (i := 6) rfl)) (Nat.le_of_ble_eq_true rfl) (Nat.le_of_ble_eq_true rfl) (Nat.zero_le _) (Nat.zero_le _) dX0_changesEvenly_28 ?_
        refine zt_top (y := nI (zlo f n (k + 1))) (zlo_i f n k hn) ?_
        refine lv_istore_n (lv' := [(1, .int (nI (zlo f n (k + 1)))), (4, .int (nI (zchg f n k))), (0, .ref h0), (2, .int (nI (zhi f n k))), (3, .int (nI k))]) hx hb dX0_changesEvenly_31 rfl hl (by decide) rfl (fun ls hl => ?_)
        refine lv_iload_n hx hb dX0_changesEvenly_32 rfl (lv_at hl 3 rfl) ?_
        refine lv_iload hx hb dX0_changesEvenly_33 (lv_at hl 1 rfl) ?_
        refine va_mmax hx hb (hml.trans hl.1.symm) hown (hts (.methodLink RX0 51 Lib.Math.max.name) (List.mem_of_getElem? (i := 7) rfl)) (hts (.static Lib.Math.max.name) (List.mem_of_getElem? (i := 8) rfl)) (hts (.initialized "java/lang/Math") (List.mem_of_getElem? (i := 5) rfl)) (hts (.code Lib.Math.max.name Lib.Math.max.code 2 (some .int)) (List.mem_of_getElem? (i := 9) rfl)) (Nat.le_of_ble_eq_true rfl) (Nat.le_of_ble_eq_true rfl) (Nat.zero_le _) (Nat.zero_le _) dX0_changesEvenly_35 ?_
        refine zt_top (y := nI (zhi f n (k + 1))) (zhi_i f n k hn) ?_
        refine lv_istore_n (lv' := [(2, .int (nI (zhi f n (k + 1)))), (1, .int (nI (zlo f n (k + 1)))), (4, .int (nI (zchg f n k))), (0, .ref h0), (3, .int (nI k))]) hx hb dX0_changesEvenly_38 rfl hl (by decide) rfl (fun ls hl => ?_)
        refine lv_iinc (v := nI (k + 1)) (lv' := [(3, .int (nI (k + 1))), (2, .int (nI (zhi f n (k + 1)))), (1, .int (nI (zlo f n (k + 1)))), (4, .int (nI (zchg f n k))), (0, .ref h0)]) hx hb dX0_changesEvenly_39 hl (k := 4) rfl (nI_1 k) (by decide) rfl (fun ls hl => ?_)
        refine lv_goto (tgt := 10) hx hb dX0_changesEvenly_42 (by decide) ?_
        exact ih (k + 1) (by omega) (by omega) _ _ hP hS ls (lv_sub hl [4, 2, 1, 0] rfl)
  exact loop (T + 1) 0 (by omega) (Nat.zero_le _) _ _ hP hS ls (lv_sub hl [3, 2, 1, 0] rfl)

set_option maxHeartbeats 4000000 in
set_option maxRecDepth 100000 in
/-- the end of the law -/
theorem law_end {p : Program} {e : Env} {s : State} {m : MethodId} {below : List Frame} {meth : Method} {c : Code} {l : Launch} (hflags : l.flags = flags0) {b L : Nat} {xs : Nat → Int32} (hL260 : L ≤ 260) (C0 : lw_At p s m meth c b L xs) {dC : Nat → ClassId} {dI : Nat → Nat → Nat} {cI cC : ClassId} (hK : va_K (dC, dI) vwCl [(cI, .int), (cC, .object RX0)] s) {X : va_W} {o a0 a1 a2 : Nat} {w nc : Nat} {ad : Nat → Option Nat} {ft : Nat → Int32} {i : Nat} (hnc : nc ≤ 4) (hM : zM cI nc ad X) (cn sn : Nat) (hcn : cn + 100 ≤ 679936) (hsn : sn + 1000 ≤ 7061659) (H : Heap) (locs : List Loc) (hP : va_P (dC, dI) vwCl ([(o, .inr (6, [.ref a0, .int (nI w), .ref a1, .int (nI nc), .null, .int 40, .int 48, .int 0, .ref a2])), (a0, .inl (cI, 64, .inl ft)), (a1, .inl (cC, 4, .inr (.inr (.inr (.inr ad)))))] ++ X) H) (hS : va_S (zq s.heap.size) s.heap H locs) (ls : Array Slot) (hl : lv_has ls 19 [(0, .ref b), (1, .ref o), (2, .int 1), (3, .int (nI nc)), (4, .int (nI i))]) : W p l e room_1 s m #[Value.ref b] below meth c H locs cn sn (lw_Z below #[Value.ref b] s) (F0 m 1055 ls []) := by
  have hL0 := z_zL hflags hL260 C0
  have hr := C0.2.2.1
  have hlocks := C0.2.2.2.2.2.2.2.2.1
  obtain ⟨hx, hb, hml, hown, hts, hX, hbl, hfl, hE, -⟩ := id hL0
  have hA : ∀ q : Nat, s.heap.size ≤ q → zq s.heap.size q := fun q h => h
  have hbA : ¬ zq s.heap.size b := Nat.not_le.mpr hbl
  refine lv_iload_n hx hb dL_law_1055 rfl (lv_at hl 2 rfl) ?_
  refine lv_if_eq (tgt := 1123) hx hb dL_law_1056 (by decide) (fun c => absurd c (by decide)) (fun c1056 => ?_)
  refine lv_aload_n hx hb dL_law_1059 rfl (lv_at hl 1 rfl) ?_
  refine lv_iload_n hx hb dL_law_1060 rfl (lv_at hl 3 rfl) ?_
  refine va_calli (vx_runSW (As := [.ref o, .int (nI nc)]) (rest := []) ⟨hx, hb, hml, hown, hts⟩ (w_words_bad l dC dI H.size cI cC o a0 a1 a2 (nI w) nc ad nc hfl (Nat.le_refl _) (by omega)) (vx_cwSW 2 hts gL_law_L_words rfl rfl rfl (by decide +kernel) ⟨Nat.le_of_ble_eq_true rfl, Nat.le_of_ble_eq_true rfl⟩) ⟨zfbX, zpreX (hP.sub (ws' := [(o, .inr (6, [.ref a0, .int (nI w), .ref a1, .int (nI nc), .null, .int 40, .int 48, .int 0, .ref a2])), (a1, .inl (cC, 4, .inr (.inr (.inr (.inr ad)))))]) [0, 2] rfl) (hK.sub (tys' := [(cI, .int), (cC, (.object RX0))]) [0, 1] rfl) hE hS hA⟩ rfl rfl hl.1 rfl (lv_room (Nat.le_of_ble_eq_true rfl)) dL_law_1061 ⟨(show cn + 1 ≤ 679936 by omega), (show sn + 6 ≤ 7061659 by omega)⟩) hS (fun q h1 h2 => absurd h2 (Nat.not_le.mpr h1)) (fun q h => hA q (Nat.le_trans hS.1 h)) (fun r9 u9 t9 H1 locs ht hvm hw hB hz1 hk1 hS => ?_)
  have hw : r9 = (-900001) := hw
  subst hw
  have hP := zr_keep hP hk1
  clear hk1 hz1 hB ht hvm hw
  refine lv_ldc hx hb hown (hts (.constant RL 17 (-900001)) (List.mem_of_getElem? (i := 3) rfl)) dL_law_1064 ?_
  refine lv_icmp_ne (tgt := 1123) hx hb dL_law_1066 (by decide) (fun c => absurd c (fun q => q rfl)) (fun c1066 => ?_)
  refine lv_aload_n hx hb dL_law_1069 rfl (lv_at hl 1 rfl) ?_
  refine lv_iload_n hx hb dL_law_1070 rfl (lv_at hl 3 rfl) ?_
  refine lv_iconst (v := 0) hx hb dL_law_1071 (by decide) ?_
  refine va_calli (vx_runSW (As := [.ref o, .int (nI nc), .int 0]) (rest := []) ⟨hx, hb, hml, hown, hts⟩ (w_place_bad l dC dI H1.size cI cC o a0 a1 a2 (nI w) nc ad nc 0 hfl (Nat.le_refl _) (by omega)) (vx_cwSW 3 hts gL_law_L_place rfl rfl rfl (by decide +kernel) ⟨Nat.le_of_ble_eq_true rfl, Nat.le_of_ble_eq_true rfl⟩) ⟨zfbX, zpreX (hP.sub (ws' := [(o, .inr (6, [.ref a0, .int (nI w), .ref a1, .int (nI nc), .null, .int 40, .int 48, .int 0, .ref a2])), (a1, .inl (cC, 4, .inr (.inr (.inr (.inr ad)))))]) [0, 2] rfl) (hK.sub (tys' := [(cI, .int), (cC, (.object RX0))]) [0, 1] rfl) hE hS hA⟩ rfl rfl hl.1 rfl (lv_room (Nat.le_of_ble_eq_true rfl)) dL_law_1072 ⟨(show (cn + 1) + 1 ≤ 679936 by omega), (show (sn + 6) + 6 ≤ 7061659 by omega)⟩) hS (fun q h1 h2 => absurd h2 (Nat.not_le.mpr h1)) (fun q h => hA q (Nat.le_trans hS.1 h)) (fun r9 u9 t9 H1 locs ht hvm hw hB hz1 hk1 hS => ?_)
  have hw : r9 = (-900001) := hw
  subst hw
  have hP := zr_keep hP hk1
  clear hk1 hz1 hB ht hvm hw
  refine lv_ldc hx hb hown (hts (.constant RL 17 (-900001)) (List.mem_of_getElem? (i := 3) rfl)) dL_law_1075 ?_
  refine lv_icmp_ne (tgt := 1123) hx hb dL_law_1077 (by decide) (fun c => absurd c (fun q => q rfl)) (fun c1077 => ?_)
  refine lv_aload_n hx hb dL_law_1080 rfl (lv_at hl 1 rfl) ?_
  refine lv_iload_n hx hb dL_law_1081 rfl (lv_at hl 3 rfl) ?_
  refine lv_iconst (v := 0) hx hb dL_law_1082 (by decide) ?_
  refine va_calli (vx_runSW (As := [.ref o, .int (nI nc), .int 0]) (rest := []) ⟨hx, hb, hml, hown, hts⟩ (w_setDisc_bad l dC dI H1.size cI cC o a0 a1 a2 (nI w) nc ad nc 0 hfl (Nat.le_refl _) (by omega)) (vx_cwSW 3 hts gL_law_L_setDisc rfl rfl rfl (by decide +kernel) ⟨Nat.le_of_ble_eq_true rfl, Nat.le_of_ble_eq_true rfl⟩) ⟨zfbX, zpreX (hP.sub (ws' := [(o, .inr (6, [.ref a0, .int (nI w), .ref a1, .int (nI nc), .null, .int 40, .int 48, .int 0, .ref a2])), (a1, .inl (cC, 4, .inr (.inr (.inr (.inr ad)))))]) [0, 2] rfl) (hK.sub (tys' := [(cI, .int), (cC, (.object RX0))]) [0, 1] rfl) hE hS hA⟩ rfl rfl hl.1 rfl (lv_room (Nat.le_of_ble_eq_true rfl)) dL_law_1083 ⟨(show ((cn + 1) + 1) + 1 ≤ 679936 by omega), (show ((sn + 6) + 6) + 6 ≤ 7061659 by omega)⟩) hS (fun q h1 h2 => absurd h2 (Nat.not_le.mpr h1)) (fun q h => hA q (Nat.le_trans hS.1 h)) (fun r9 u9 t9 H1 locs ht hvm hw hB hz1 hk1 hS => ?_)
  have hw : r9 = (-900001) := hw
  subst hw
  have hP := zr_keep hP hk1
  clear hk1 hz1 hB ht hvm hw
  refine lv_ldc hx hb hown (hts (.constant RL 17 (-900001)) (List.mem_of_getElem? (i := 3) rfl)) dL_law_1086 ?_
  refine lv_icmp_ne (tgt := 1123) hx hb dL_law_1088 (by decide) (fun c => absurd c (fun q => q rfl)) (fun c1088 => ?_)
  rcases Nat.eq_zero_or_pos nc with hz | hz
  · skip
    refine lv_aload_n hx hb dL_law_1091 rfl (lv_at hl 1 rfl) ?_
    refine lv_iconst (v := 0) hx hb dL_law_1092 (by decide) ?_
    refine zt_top (y := nI 0) (nI_0.symm) ?_
    refine lv_bipush (v := 41) hx hb dL_law_1093 (by decide) ?_
    refine va_calli (vx_runSW (As := [.ref o, .int (nI 0), .int 41]) (rest := []) ⟨hx, hb, hml, hown, hts⟩ (w_setDisc_bad l dC dI H1.size cI cC o a0 a1 a2 (nI w) nc ad 0 41 hfl (by omega) (by omega)) (vx_cwSW 3 hts gL_law_L_setDisc rfl rfl rfl (by decide +kernel) ⟨Nat.le_of_ble_eq_true rfl, Nat.le_of_ble_eq_true rfl⟩) ⟨zfbX, zpreX (hP.sub (ws' := [(o, .inr (6, [.ref a0, .int (nI w), .ref a1, .int (nI nc), .null, .int 40, .int 48, .int 0, .ref a2])), (a1, .inl (cC, 4, .inr (.inr (.inr (.inr ad)))))]) [0, 2] rfl) (hK.sub (tys' := [(cI, .int), (cC, (.object RX0))]) [0, 1] rfl) hE hS hA⟩ rfl rfl hl.1 rfl (lv_room (Nat.le_of_ble_eq_true rfl)) dL_law_1095 ⟨(show (((cn + 1) + 1) + 1) + 1 ≤ 679936 by omega), (show (((sn + 6) + 6) + 6) + 6 ≤ 7061659 by omega)⟩) hS (fun q h1 h2 => absurd h2 (Nat.not_le.mpr h1)) (fun q h => hA q (Nat.le_trans hS.1 h)) (fun r9 u9 t9 H1 locs ht hvm hw hB hz1 hk1 hS => ?_)
    have hw : r9 = (-900001) := hw
    subst hw
    have hP := zr_keep hP hk1
    clear hk1 hz1 hB ht hvm hw
    refine lv_iload_n hx hb dL_law_1098 rfl (lv_at hl 3 rfl) ?_
    refine lv_if_ne (tgt := 1107) hx hb dL_law_1099 (by decide) (fun c => absurd c (fun q => q (by rw [hz]; exact nI_0))) (fun c1099 => ?_)
    refine lv_ldc hx hb hown (hts (.constant RL 17 (-900001)) (List.mem_of_getElem? (i := 3) rfl)) dL_law_1102 ?_
    refine lv_goto (tgt := 1109) hx hb dL_law_1104 (by decide) ?_
    refine lv_icmp_ne (tgt := 1123) hx hb dL_law_1109 (by decide) (fun c => absurd c (fun q => q rfl)) (fun c1109 => ?_)
    refine lv_aload_n hx hb dL_law_1112 rfl (lv_at hl 1 rfl) ?_
    have hC := zM_Cs (Y := [(o, .inr (6, [.ref a0, .int (nI w), .ref a1, .int (nI nc), .null, .int 40, .int 48, .int 0, .ref a2])), (a0, .inl (cI, 64, .inl ft)), (a1, .inl (cC, 4, .inr (.inr (.inr (.inr ad)))))]) hM hP
    refine va_calli (va_runV (As := []) (rest := []) ⟨hx, hb, hml, hown, hts⟩ (k_isSound l dC dI H1.size cI cC o a0 a1 a2 (nI w) nc ad hnc) (cwV 0 hts gL_law_X6_isSound rfl rfl rfl (by decide +kernel) ⟨Nat.le_of_ble_eq_true rfl, Nat.le_of_ble_eq_true rfl⟩) ⟨zfbC, va_recv hK hP (ci := 6) (q0 := 0) rfl rfl, zpreC (hP.sub (ws' := [(o, .inr (6, [.ref a0, .int (nI w), .ref a1, .int (nI nc), .null, .int 40, .int 48, .int 0, .ref a2])), (a1, .inl (cC, 4, .inr (.inr (.inr (.inr ad)))))]) [0, 2] rfl) (hK.sub (tys' := [(cI, .int), (cC, (.object RX0))]) [0, 1] rfl) hC⟩ rfl rfl hl.1 rfl (lv_room (Nat.le_of_ble_eq_true rfl)) dL_law_1113 ⟨(show ((((cn + 1) + 1) + 1) + 1) + 0 ≤ 679936 by omega), (show ((((sn + 6) + 6) + 6) + 6) + 0 ≤ 7061659 by omega)⟩) hS (fun q h1 h2 => absurd h2 (Nat.not_le.mpr h1)) (fun q h => hA q (Nat.le_trans hS.1 h)) (fun r9 u9 t9 H1 locs ht hvm hw hB hz1 hk1 hS => ?_)
    have hw : r9 = 1 := hw
    subst hw
    have hP := zr_keep hP hk1
    clear hk1 hz1 hB ht hvm hw
    refine lv_if_eq (tgt := 1123) hx hb dL_law_1116 (by decide) (fun c => absurd c (by decide)) (fun c1116 => ?_)
    refine lv_iconst (v := 1) hx hb dL_law_1119 (by decide) ?_
    refine lv_goto (tgt := 1124) hx hb dL_law_1120 (by decide) ?_
    refine va_forget (fun q hq => hS.2.2 q hq) ?_
    refine W.widen (k := 679936) (n := 7061659) (by omega) (by omega) ?_
    exact lw_ret hx hb hr hlocks dL_law_1124
  · skip
    obtain ⟨h0, h1, h2, n0, T0, f0, had, -⟩ := hM 0 hz
    refine lv_aload_n hx hb dL_law_1091 rfl (lv_at hl 1 rfl) ?_
    refine lv_iconst (v := 0) hx hb dL_law_1092 (by decide) ?_
    refine zt_top (y := nI 0) (nI_0.symm) ?_
    refine lv_bipush (v := 41) hx hb dL_law_1093 (by decide) ?_
    refine va_calli (vx_runSW (As := [.ref o, .int (nI 0), .int 41]) (rest := []) ⟨hx, hb, hml, hown, hts⟩ (w_setDisc_bad3 l dC dI H1.size cI cC o a0 a1 a2 (nI w) nc ad h0 0 hfl hz hnc had) (vx_cwSW 3 hts gL_law_L_setDisc rfl rfl rfl (by decide +kernel) ⟨Nat.le_of_ble_eq_true rfl, Nat.le_of_ble_eq_true rfl⟩) ⟨zfbX, zpreX (hP.sub (ws' := [(o, .inr (6, [.ref a0, .int (nI w), .ref a1, .int (nI nc), .null, .int 40, .int 48, .int 0, .ref a2])), (a1, .inl (cC, 4, .inr (.inr (.inr (.inr ad)))))]) [0, 2] rfl) (hK.sub (tys' := [(cI, .int), (cC, (.object RX0))]) [0, 1] rfl) hE hS hA⟩ rfl rfl hl.1 rfl (lv_room (Nat.le_of_ble_eq_true rfl)) dL_law_1095 ⟨(show (((cn + 1) + 1) + 1) + 1 ≤ 679936 by omega), (show (((sn + 6) + 6) + 6) + 6 ≤ 7061659 by omega)⟩) hS (fun q h1 h2 => absurd h2 (Nat.not_le.mpr h1)) (fun q h => hA q (Nat.le_trans hS.1 h)) (fun r9 u9 t9 H1 locs ht hvm hw hB hz1 hk1 hS => ?_)
    have hw : r9 = (-900002) := hw
    subst hw
    have hP := zr_keep hP hk1
    clear hk1 hz1 hB ht hvm hw
    refine lv_iload_n hx hb dL_law_1098 rfl (lv_at hl 3 rfl) ?_
    refine lv_if_ne (tgt := 1107) hx hb dL_law_1099 (by decide) (fun c1099 => ?_) (fun c => absurd c (nI_ne0 hz (by omega)))
    refine lv_ldc hx hb hown (hts (.constant RL 20 (-900002)) (List.mem_of_getElem? (i := 5) rfl)) dL_law_1107 ?_
    refine lv_icmp_ne (tgt := 1123) hx hb dL_law_1109 (by decide) (fun c => absurd c (fun q => q rfl)) (fun c1109 => ?_)
    refine lv_aload_n hx hb dL_law_1112 rfl (lv_at hl 1 rfl) ?_
    have hC := zM_Cs (Y := [(o, .inr (6, [.ref a0, .int (nI w), .ref a1, .int (nI nc), .null, .int 40, .int 48, .int 0, .ref a2])), (a0, .inl (cI, 64, .inl ft)), (a1, .inl (cC, 4, .inr (.inr (.inr (.inr ad)))))]) hM hP
    refine va_calli (va_runV (As := []) (rest := []) ⟨hx, hb, hml, hown, hts⟩ (k_isSound l dC dI H1.size cI cC o a0 a1 a2 (nI w) nc ad hnc) (cwV 0 hts gL_law_X6_isSound rfl rfl rfl (by decide +kernel) ⟨Nat.le_of_ble_eq_true rfl, Nat.le_of_ble_eq_true rfl⟩) ⟨zfbC, va_recv hK hP (ci := 6) (q0 := 0) rfl rfl, zpreC (hP.sub (ws' := [(o, .inr (6, [.ref a0, .int (nI w), .ref a1, .int (nI nc), .null, .int 40, .int 48, .int 0, .ref a2])), (a1, .inl (cC, 4, .inr (.inr (.inr (.inr ad)))))]) [0, 2] rfl) (hK.sub (tys' := [(cI, .int), (cC, (.object RX0))]) [0, 1] rfl) hC⟩ rfl rfl hl.1 rfl (lv_room (Nat.le_of_ble_eq_true rfl)) dL_law_1113 ⟨(show ((((cn + 1) + 1) + 1) + 1) + 0 ≤ 679936 by omega), (show ((((sn + 6) + 6) + 6) + 6) + 0 ≤ 7061659 by omega)⟩) hS (fun q h1 h2 => absurd h2 (Nat.not_le.mpr h1)) (fun q h => hA q (Nat.le_trans hS.1 h)) (fun r9 u9 t9 H1 locs ht hvm hw hB hz1 hk1 hS => ?_)
    have hw : r9 = 1 := hw
    subst hw
    have hP := zr_keep hP hk1
    clear hk1 hz1 hB ht hvm hw
    refine lv_if_eq (tgt := 1123) hx hb dL_law_1116 (by decide) (fun c => absurd c (by decide)) (fun c1116 => ?_)
    refine lv_iconst (v := 1) hx hb dL_law_1119 (by decide) ?_
    refine lv_goto (tgt := 1124) hx hb dL_law_1120 (by decide) ?_
    refine va_forget (fun q hq => hS.2.2 q hq) ?_
    refine W.widen (k := 679936) (n := 7061659) (by omega) (by omega) ?_
    exact lw_ret hx hb hr hlocks dL_law_1124

set_option maxHeartbeats 4000000 in
set_option maxRecDepth 100000 in
/-- the law's outer loop -/
theorem law_loop {p : Program} {e : Env} {s : State} {m : MethodId} {below : List Frame} {meth : Method} {c : Code} {l : Launch} (hflags : l.flags = flags0) {b L : Nat} {xs : Nat → Int32} (hL260 : L ≤ 260) (C0 : lw_At p s m meth c b L xs) {dC : Nat → ClassId} {dI : Nat → Nat → Nat} {cI cC : ClassId} (hK : va_K (dC, dI) vwCl [(cI, .int), (cC, .object RX0)] s) {o a0 a1 a2 : Nat} : ∀ (d i nc w : Nat) (ad : Nat → Option Nat) (ft : Nat → Int32) (X : va_W) (cn sn : Nat), 7 ≤ i + d → i ≤ 6 → nc ≤ 4 → w ≤ 64 → zM cI nc ad X → cn ≤ 100 + 500 * i → sn ≤ 2000 + 5000 * i → ∀ (H : Heap) (locs : List Loc), va_P (dC, dI) vwCl ([(o, .inr (6, [.ref a0, .int (nI w), .ref a1, .int (nI nc), .null, .int 40, .int 48, .int 0, .ref a2])), (a0, .inl (cI, 64, .inl ft)), (a1, .inl (cC, 4, .inr (.inr (.inr (.inr ad)))))] ++ X) H → va_D (zq s.heap.size) ([(o, .inr (6, [.ref a0, .int (nI w), .ref a1, .int (nI nc), .null, .int 40, .int 48, .int 0, .ref a2])), (a0, .inl (cI, 64, .inl ft)), (a1, .inl (cC, 4, .inr (.inr (.inr (.inr ad)))))] ++ X) → va_S (zq s.heap.size) s.heap H locs → ∀ ls : Array Slot, lv_has ls 19 [(0, .ref b), (1, .ref o), (2, .int 1), (3, .int (nI nc)), (4, .int (nI i))] → W p l e room_1 s m #[Value.ref b] below meth c H locs cn sn (lw_Z below #[Value.ref b] s) (F0 m 90 ls []) := by
  have hL0 := z_zL hflags hL260 C0
  have hr := C0.2.2.1
  have hlocks := C0.2.2.2.2.2.2.2.2.1
  obtain ⟨hx, hb, hml, hown, hts, hX, hbl, hfl, hE, -⟩ := id hL0
  have hA : ∀ q : Nat, s.heap.size ≤ q → zq s.heap.size q := fun q h => h
  have hbA : ¬ zq s.heap.size b := Nat.not_le.mpr hbl
  intro d
  induction d with
  | zero => intro i nc w ad ft X cn sn hd hi; exact absurd hd (by omega)
  | succ d ih =>
    intro i nc w ad ft X cn sn hd hi hnc hwm hM hcn hsn H locs hP hD hS ls hl
    refine lv_iload hx hb dL_law_90 (lv_at hl 4 rfl) ?_
    refine lv_bipush (v := 6) hx hb dL_law_92 (by decide) ?_
    refine zt_top (y := nI 6) (rfl) ?_
    refine lv_icmp_ge (tgt := 1055) hx hb dL_law_94 (by decide) (fun c94 => ?_) (fun c94 => ?_)
    · skip
      have hi6 : i = 6 := Nat.le_antisymm hi ((nI_leI (by decide) (by omega)).mp c94)
      exact law_end hflags hL260 C0 hK (w := w) (ft := ft) hnc hM _ _ (by omega) (by omega) _ _ hP hS ls hl
    · skip
      have hi6 : i < 6 := Nat.lt_of_not_le (fun q => c94 ((nI_leI (by decide) (by omega)).mpr q))
      refine it_all hL0 hK hnc hwm hM hi6 _ _ (by omega) (by omega) _ _ hP hD hS ls hl (fun nc ad X w ft H locs cn2 sn2 hnc hwm hM hc2 hs2 hP hD hS ls hl => ?_)
      refine lv_iinc (v := nI (i + 1)) (lv' := [(4, .int (nI (i + 1))), (0, .ref b), (1, .ref o), (2, .int 1), (3, .int (nI nc))]) hx hb dL_law_1049 hl (k := 4) rfl (nI_1 i) (by decide) rfl (fun ls hl => ?_)
      refine lv_goto (tgt := 90) hx hb dL_law_1052 (by decide) ?_
      exact ih (i + 1) nc w ad ft X _ _ (by omega) (by omega) hnc hwm hM (by omega) (by omega) _ _ hP hD hS ls (lv_sub hl [1, 2, 3, 4, 0] rfl)

set_option maxHeartbeats 4000000 in
set_option maxRecDepth 100000 in
/-- THE LAW, from its entry -/
theorem whole_start {p : Program} {e : Env} {s : State} {m : MethodId} {below : List Frame} {meth : Method} {c : Code} (l : Launch) (hflags : l.flags = flags0) {b L : Nat} {xs : Nat → Int32} (hL : L ≤ 260) (C0 : lw_At p s m meth c b L xs) : W p l e room_1 s m #[Value.ref b] below meth c s.heap [] 0 0 (lw_Z below #[Value.ref b] s) (entryFrame m ([Value.ref b] : List Value).toArray 19) := by
  have hL260 := hL
  have hL0 := z_zL hflags hL260 C0
  have hr := C0.2.2.1
  have hlocks := C0.2.2.2.2.2.2.2.2.1
  obtain ⟨hx, hb, hml, hown, hts, hX, hbl, hfl, hE, -⟩ := id hL0
  have hA : ∀ q : Nat, s.heap.size ≤ q → zq s.heap.size q := fun q h => h
  have hbA : ¬ zq s.heap.size b := Nat.not_le.mpr hbl
  have hts0 : ∀ w ∈ lw_tbl, w.before #[Value.ref b] s = true := C0.2.2.2.2.2.1
  have hI := z_zI hts0
  obtain ⟨c0, iS0, hKn0⟩ := u_known (C := RX0) (T := TX0) (N := 3) (n := 3) hts0 inX0 (hts0 (.instantiable RX0 3) (by decide +kernel))
  obtain ⟨c1, iS1, hKn1⟩ := u_known (C := RX1) (T := TX1) (N := 8) (n := 8) hts0 inX1 (hts0 (.instantiable RX1 8) (by decide +kernel))
  obtain ⟨c2, iS2, hKn2⟩ := u_known (C := RX2) (T := TX2) (N := 7) (n := 7) hts0 inX2 (hts0 (.instantiable RX2 7) (by decide +kernel))
  obtain ⟨c3, iS3, hKn3⟩ := u_known (C := RX3) (T := TX3) (N := 3) (n := 3) hts0 inX3 (hts0 (.instantiable RX3 3) (by decide +kernel))
  obtain ⟨c4, iS4, hKn4⟩ := u_known (C := RX4) (T := TX4) (N := 9) (n := 9) hts0 inX4 (hts0 (.instantiable RX4 9) (by decide +kernel))
  obtain ⟨c5, iS5, hKn5⟩ := u_known (C := RX5) (T := TX5) (N := 5) (n := 5) hts0 inX5 (hts0 (.instantiable RX5 5) (by decide +kernel))
  obtain ⟨c6, iS6, hKn6⟩ := u_known (C := RX6) (T := TX6) (N := 9) (n := 9) hts0 inX6 (hts0 (.instantiable RX6 9) (by decide +kernel))
  obtain ⟨dC, dI, hKc⟩ : ∃ (dC : Nat → ClassId) (dI : Nat → Nat → Nat), ∀ (k : Nat) (q : vw_C), vwCl[k]? = some q → u_Kn s q.1 q.2.1 q.2.2 (dC k) (dI k) := by
    refine ⟨fun k => if k = 0 then c0 else if k = 1 then c1 else if k = 2 then c2 else if k = 3 then c3 else if k = 4 then c4 else if k = 5 then c5 else c6, fun k => if k = 0 then iS0 else if k = 1 then iS1 else if k = 2 then iS2 else if k = 3 then iS3 else if k = 4 then iS4 else if k = 5 then iS5 else iS6, ?_⟩
    intro k q hq
    match k, hq with
    | 0, hq => cases hq; exact hKn0
    | 1, hq => cases hq; exact hKn1
    | 2, hq => cases hq; exact hKn2
    | 3, hq => cases hq; exact hKn3
    | 4, hq => cases hq; exact hKn4
    | 5, hq => cases hq; exact hKn5
    | 6, hq => cases hq; exact hKn6
    | k + 7, hq => simp [vwCl] at hq
  have hS : va_S (zq s.heap.size) s.heap s.heap [] := va_S.rf
  have hK : va_K (dC, dI) vwCl [] s := ⟨hKc, fun k q h => by simp at h⟩
  obtain ⟨X, hX9⟩ : ∃ X : va_W, X = [] := ⟨_, rfl⟩
  have hP : va_P (dC, dI) vwCl ([] ++ X) s.heap := by rw [hX9]; exact fun k q h => by simp at h
  have hD : va_D (zq s.heap.size) ([] ++ X) := by rw [hX9]; exact ⟨fun i j p q h => by simp at h, fun k q h => by simp at h⟩
  have hl := lv_entry ([.ref b]) (n := 19) (Nat.le_of_ble_eq_true rfl)
  rw [lg_entry_eq]
  generalize (lg_sl ([.ref b]) ++ List.replicate (19 - (lg_sl ([.ref b])).length) Slot.unset).toArray = ls at hl ⊢
  have hl : lv_has ls 19 [(0, .ref b)] := hl
  refine va_new (ci := 6) (fs := [.null, .int 0, .null, .int 0, .null, .int 0, .int 0, .int 0, .null]) (C := RX6) (T := TX6) (N := 9) hx hb hts inlX6 tyX6 tyX6_ok hown (hts (.classLink RL 10 RX6) (List.mem_of_getElem? (i := 0) rfl)) (hts (.instantiable RX6 9) (List.mem_of_getElem? (i := 1) rfl)) (hts (.initialized RX6) (List.mem_of_getElem? (i := 2) rfl)) hK hP hD hS hA rfl (fun j hj => by rcases (show j = 0 ∨ j = 1 ∨ j = 2 ∨ j = 3 ∨ j = 4 ∨ j = 5 ∨ j = 6 ∨ j = 7 ∨ j = 8 by omega) with rfl | rfl | rfl | rfl | rfl | rfl | rfl | rfl | rfl <;> rfl) (Nat.le_of_ble_eq_true rfl) (Nat.le_of_ble_eq_true rfl) dL_law_0 (fun o H hP hD hS => ?_)
  have hP := hP.swap
  have hD := hD.swap
  have hP : va_P (dC, dI) vwCl ([(o, .inr (6, [.null, .int 0, .null, .int 0, .null, .int 0, .int 0, .int 0, .null]))] ++ X) H := hP
  have hD : va_D (zq s.heap.size) ([(o, .inr (6, [.null, .int 0, .null, .int 0, .null, .int 0, .int 0, .int 0, .null]))] ++ X) := hD
  refine W.widen (k := 1) (n := 9) (by omega) (by omega) ?_
  refine lv_dup hx hb dL_law_3 rfl ?_
  have hPc := hP.sub (ws' := [(o, .inr (6, [.null, .int 0, .null, .int 0, .null, .int 0, .int 0, .int 0, .null]))]) [0] rfl
  have hDc := hD.sub (ws' := [(o, .inr (6, [.null, .int 0, .null, .int 0, .null, .int 0, .int 0, .int 0, .null]))]) [0] (by decide) rfl
  have hFc := va_free (wc := [(o, .inr (6, [.null, .int 0, .null, .int 0, .null, .int 0, .int 0, .int 0, .null]))]) hD hS hA [0] rfl
  refine va_callv (va_runI (As := []) (rest := [.ref o]) ⟨hx, hb, hml, hown, hts⟩ (k_Ringtrack l dC dI H.size o) (cwI 0 hts gL_law_X6_init rfl rfl rfl (hts (.initialized RX6) (List.mem_of_getElem? (i := 2) rfl)) (hts (.methodLink RL 74 yX6_init) (List.mem_of_getElem? (i := 7) rfl)) (hts (.instanceMethod yX6_init) (List.mem_of_getElem? (i := 8) rfl)) rfl (by decide +kernel) ⟨Nat.le_of_ble_eq_true rfl, Nat.le_of_ble_eq_true rfl⟩) ⟨zfbID, zpreID hPc hK hI hDc⟩ rfl rfl hl.1 rfl (lv_room (Nat.le_of_ble_eq_true rfl)) dL_law_4 ⟨Nat.le_of_ble_eq_true rfl, Nat.le_of_ble_eq_true rfl⟩) hS (fun q _ h => hFc q h) hFc (fun u9 t9 H1 locs ht hvm hw hB hz1 hk1 hS => ?_)
  obtain ⟨a0, a1, a2, cI, cC⟩ := u9
  obtain ⟨⟨hP1, hD1⟩, hK1⟩ := hB
  rw [ht] at hP1
  have hK : va_K (dC, dI) vwCl [(cI, .int), (cC, .object RX0)] s := va_K.moved hvm.symm hK1
  obtain ⟨hP, hD⟩ := va_joinQ (wr := []) (w1 := [(o, .inr (6, [.ref a0, .int (nI 0), .ref a1, .int (nI 0), .null, .int 40, .int 48, .int 0, .ref a2])), (a0, .inl (cI, 64, .inl (fun _ => 0))), (a1, .inl (cC, 4, .inr (.inr (.inr (.inr (fun _ => none))))))]) (pl := X) hP hD [0] [] rfl rfl (by decide) (by decide) hk1 hFc hP1 hD1
  clear hPc hDc hFc hP1 hD1 hk1 hz1 ht hvm
  have hP : va_P (dC, dI) vwCl ([(o, .inr (6, [.ref a0, .int (nI 0), .ref a1, .int (nI 0), .null, .int 40, .int 48, .int 0, .ref a2])), (a0, .inl (cI, 64, .inl (fun _ => 0))), (a1, .inl (cC, 4, .inr (.inr (.inr (.inr (fun _ => none))))))] ++ X) H1 := hP
  have hD : va_D (zq s.heap.size) ([(o, .inr (6, [.ref a0, .int (nI 0), .ref a1, .int (nI 0), .null, .int 40, .int 48, .int 0, .ref a2])), (a0, .inl (cI, 64, .inl (fun _ => 0))), (a1, .inl (cC, 4, .inr (.inr (.inr (.inr (fun _ => none))))))] ++ X) := hD
  refine W.widen (k := 7) (n := 614) (by omega) (by omega) ?_
  refine lv_astore_n (lv' := [(1, .ref o), (0, .ref b)]) hx hb dL_law_7 rfl hl (by decide) rfl (fun ls hl => ?_)
  refine lv_aload_n hx hb dL_law_8 rfl (lv_at hl 0 rfl) ?_
  refine va_calli (vx_runSW (As := [.ref o]) (rest := []) ⟨hx, hb, hml, hown, hts⟩ (w_ring_bad l dC dI H1.size cI cC o a0 a1 a2 0 0 (fun _ => 0) hfl (by decide) rfl) (vx_cwSW 1 hts gL_law_L_ring rfl rfl rfl (by decide +kernel) ⟨Nat.le_of_ble_eq_true rfl, Nat.le_of_ble_eq_true rfl⟩) ⟨zfbX, zpreX (hP.sub (ws' := [(o, .inr (6, [.ref a0, .int (nI 0), .ref a1, .int (nI 0), .null, .int 40, .int 48, .int 0, .ref a2])), (a0, .inl (cI, 64, .inl (fun _ => 0)))]) [0, 1] rfl) (hK.sub (tys' := [(cI, .int), (cC, (.object RX0))]) [0, 1] rfl) hE hS hA⟩ rfl rfl hl.1 rfl (lv_room (Nat.le_of_ble_eq_true rfl)) dL_law_9 ⟨(show 7 + 1 ≤ 679936 by omega), (show 614 + 6 ≤ 7061659 by omega)⟩) hS (fun q h1 h2 => absurd h2 (Nat.not_le.mpr h1)) (fun q h => hA q (Nat.le_trans hS.1 h)) (fun r9 u9 t9 H1 locs ht hvm hw hB hz1 hk1 hS => ?_)
  have hw : r9 = (-900001) := hw
  subst hw
  have hP := zr_keep hP hk1
  clear hk1 hz1 hB ht hvm hw
  refine lv_ldc hx hb hown (hts (.constant RL 17 (-900001)) (List.mem_of_getElem? (i := 3) rfl)) dL_law_12 ?_
  refine lv_icmp_ne (tgt := 83) hx hb dL_law_14 (by decide) (fun c => absurd c (fun q => q rfl)) (fun c14 => ?_)
  refine lv_aload_n hx hb dL_law_17 rfl (lv_at hl 0 rfl) ?_
  refine lv_sipush (v := 256) hx hb dL_law_18 (by decide) ?_
  refine va_calli (vx_runSW (As := [.ref o, .int 256]) (rest := []) ⟨hx, hb, hml, hown, hts⟩ (w_type_bad l dC dI H1.size cI cC o a0 a1 a2 (nI 0) 0 (fun _ => none) hfl) (vx_cwSW 2 hts gL_law_L_type rfl rfl rfl (by decide +kernel) ⟨Nat.le_of_ble_eq_true rfl, Nat.le_of_ble_eq_true rfl⟩) ⟨zfbX, zpreX (hP.sub (ws' := [(o, .inr (6, [.ref a0, .int (nI 0), .ref a1, .int (nI 0), .null, .int 40, .int 48, .int 0, .ref a2]))]) [0] rfl) (hK.sub (tys' := [(cI, .int), (cC, (.object RX0))]) [0, 1] rfl) hE hS hA⟩ rfl rfl hl.1 rfl (lv_room (Nat.le_of_ble_eq_true rfl)) dL_law_21 ⟨(show (7 + 1) + 1 ≤ 679936 by omega), (show (614 + 6) + 6 ≤ 7061659 by omega)⟩) hS (fun q h1 h2 => absurd h2 (Nat.not_le.mpr h1)) (fun q h => hA q (Nat.le_trans hS.1 h)) (fun r9 u9 t9 H1 locs ht hvm hw hB hz1 hk1 hS => ?_)
  have hw : r9 = (-900001) := hw
  subst hw
  have hP := zr_keep hP hk1
  clear hk1 hz1 hB ht hvm hw
  refine lv_ldc hx hb hown (hts (.constant RL 17 (-900001)) (List.mem_of_getElem? (i := 3) rfl)) dL_law_24 ?_
  refine lv_icmp_ne (tgt := 83) hx hb dL_law_26 (by decide) (fun c => absurd c (fun q => q rfl)) (fun c26 => ?_)
  refine lv_aload_n hx hb dL_law_29 rfl (lv_at hl 0 rfl) ?_
  refine lv_bipush (v := 7) hx hb dL_law_30 (by decide) ?_
  refine va_calli (vx_runSW (As := [.ref o, .int 7]) (rest := []) ⟨hx, hb, hml, hown, hts⟩ (w_reflected_bad l dC dI H1.size cI cC o a0 a1 a2 (nI 0) 0 (fun _ => none) 7 hfl (by decide)) (vx_cwSW 2 hts gL_law_L_reflected rfl rfl rfl (by decide +kernel) ⟨Nat.le_of_ble_eq_true rfl, Nat.le_of_ble_eq_true rfl⟩) ⟨zfbX, zpreX (hP.sub (ws' := [(o, .inr (6, [.ref a0, .int (nI 0), .ref a1, .int (nI 0), .null, .int 40, .int 48, .int 0, .ref a2]))]) [0] rfl) (hK.sub (tys' := [(cI, .int), (cC, (.object RX0))]) [0, 1] rfl) hE hS hA⟩ rfl rfl hl.1 rfl (lv_room (Nat.le_of_ble_eq_true rfl)) dL_law_32 ⟨(show ((7 + 1) + 1) + 1 ≤ 679936 by omega), (show ((614 + 6) + 6) + 6 ≤ 7061659 by omega)⟩) hS (fun q h1 h2 => absurd h2 (Nat.not_le.mpr h1)) (fun q h => hA q (Nat.le_trans hS.1 h)) (fun r9 u9 t9 H1 locs ht hvm hw hB hz1 hk1 hS => ?_)
  have hw : r9 = (-900001) := hw
  subst hw
  have hP := zr_keep hP hk1
  clear hk1 hz1 hB ht hvm hw
  refine lv_ldc hx hb hown (hts (.constant RL 17 (-900001)) (List.mem_of_getElem? (i := 3) rfl)) dL_law_35 ?_
  refine lv_icmp_ne (tgt := 83) hx hb dL_law_37 (by decide) (fun c => absurd c (fun q => q rfl)) (fun c37 => ?_)
  refine lv_aload_n hx hb dL_law_40 rfl (lv_at hl 0 rfl) ?_
  refine lv_iconst (v := 1) hx hb dL_law_41 (by decide) ?_
  refine va_calli (vx_runSW (As := [.ref o, .int 1]) (rest := []) ⟨hx, hb, hml, hown, hts⟩ (w_reflected_bad l dC dI H1.size cI cC o a0 a1 a2 (nI 0) 0 (fun _ => none) 1 hfl (by decide)) (vx_cwSW 2 hts gL_law_L_reflected rfl rfl rfl (by decide +kernel) ⟨Nat.le_of_ble_eq_true rfl, Nat.le_of_ble_eq_true rfl⟩) ⟨zfbX, zpreX (hP.sub (ws' := [(o, .inr (6, [.ref a0, .int (nI 0), .ref a1, .int (nI 0), .null, .int 40, .int 48, .int 0, .ref a2]))]) [0] rfl) (hK.sub (tys' := [(cI, .int), (cC, (.object RX0))]) [0, 1] rfl) hE hS hA⟩ rfl rfl hl.1 rfl (lv_room (Nat.le_of_ble_eq_true rfl)) dL_law_42 ⟨(show (((7 + 1) + 1) + 1) + 1 ≤ 679936 by omega), (show (((614 + 6) + 6) + 6) + 6 ≤ 7061659 by omega)⟩) hS (fun q h1 h2 => absurd h2 (Nat.not_le.mpr h1)) (fun q h => hA q (Nat.le_trans hS.1 h)) (fun r9 u9 t9 H1 locs ht hvm hw hB hz1 hk1 hS => ?_)
  have hw : r9 = (-900001) := hw
  subst hw
  have hP := zr_keep hP hk1
  clear hk1 hz1 hB ht hvm hw
  refine lv_ldc hx hb hown (hts (.constant RL 17 (-900001)) (List.mem_of_getElem? (i := 3) rfl)) dL_law_45 ?_
  refine lv_icmp_ne (tgt := 83) hx hb dL_law_47 (by decide) (fun c => absurd c (fun q => q rfl)) (fun c47 => ?_)
  refine lv_aload_n hx hb dL_law_50 rfl (lv_at hl 0 rfl) ?_
  refine lv_iconst (v := 0) hx hb dL_law_51 (by decide) ?_
  refine zt_top (y := nI 0) (nI_0.symm) ?_
  refine va_calli (vx_runSW (As := [.ref o, .int (nI 0)]) (rest := []) ⟨hx, hb, hml, hown, hts⟩ (w_words_bad l dC dI H1.size cI cC o a0 a1 a2 (nI 0) 0 (fun _ => none) 0 hfl (Nat.le_refl _) (by decide)) (vx_cwSW 2 hts gL_law_L_words rfl rfl rfl (by decide +kernel) ⟨Nat.le_of_ble_eq_true rfl, Nat.le_of_ble_eq_true rfl⟩) ⟨zfbX, zpreX (hP.sub (ws' := [(o, .inr (6, [.ref a0, .int (nI 0), .ref a1, .int (nI 0), .null, .int 40, .int 48, .int 0, .ref a2])), (a1, .inl (cC, 4, .inr (.inr (.inr (.inr (fun _ => none))))))]) [0, 2] rfl) (hK.sub (tys' := [(cI, .int), (cC, (.object RX0))]) [0, 1] rfl) hE hS hA⟩ rfl rfl hl.1 rfl (lv_room (Nat.le_of_ble_eq_true rfl)) dL_law_52 ⟨(show ((((7 + 1) + 1) + 1) + 1) + 1 ≤ 679936 by omega), (show ((((614 + 6) + 6) + 6) + 6) + 6 ≤ 7061659 by omega)⟩) hS (fun q h1 h2 => absurd h2 (Nat.not_le.mpr h1)) (fun q h => hA q (Nat.le_trans hS.1 h)) (fun r9 u9 t9 H1 locs ht hvm hw hB hz1 hk1 hS => ?_)
  have hw : r9 = (-900001) := hw
  subst hw
  have hP := zr_keep hP hk1
  clear hk1 hz1 hB ht hvm hw
  refine lv_ldc hx hb hown (hts (.constant RL 17 (-900001)) (List.mem_of_getElem? (i := 3) rfl)) dL_law_55 ?_
  refine lv_icmp_ne (tgt := 83) hx hb dL_law_57 (by decide) (fun c => absurd c (fun q => q rfl)) (fun c57 => ?_)
  refine lv_aload_n hx hb dL_law_60 rfl (lv_at hl 0 rfl) ?_
  refine va_calli (vx_runSW (As := [.ref o]) (rest := []) ⟨hx, hb, hml, hown, hts⟩ (w_angle_bad l dC dI H1.size cI cC o a0 a1 a2 (nI 0) 0 (fun _ => none) hfl) (vx_cwSW 1 hts gL_law_L_angle rfl rfl rfl (by decide +kernel) ⟨Nat.le_of_ble_eq_true rfl, Nat.le_of_ble_eq_true rfl⟩) ⟨zfbX, zpreX (hP.sub (ws' := [(o, .inr (6, [.ref a0, .int (nI 0), .ref a1, .int (nI 0), .null, .int 40, .int 48, .int 0, .ref a2]))]) [0] rfl) (hK.sub (tys' := [(cI, .int), (cC, (.object RX0))]) [0, 1] rfl) hE hS hA⟩ rfl rfl hl.1 rfl (lv_room (Nat.le_of_ble_eq_true rfl)) dL_law_61 ⟨(show (((((7 + 1) + 1) + 1) + 1) + 1) + 1 ≤ 679936 by omega), (show (((((614 + 6) + 6) + 6) + 6) + 6) + 6 ≤ 7061659 by omega)⟩) hS (fun q h1 h2 => absurd h2 (Nat.not_le.mpr h1)) (fun q h => hA q (Nat.le_trans hS.1 h)) (fun r9 u9 t9 H1 locs ht hvm hw hB hz1 hk1 hS => ?_)
  have hw : r9 = (-900001) := hw
  subst hw
  have hP := zr_keep hP hk1
  clear hk1 hz1 hB ht hvm hw
  refine lv_ldc hx hb hown (hts (.constant RL 17 (-900001)) (List.mem_of_getElem? (i := 3) rfl)) dL_law_64 ?_
  refine lv_icmp_ne (tgt := 83) hx hb dL_law_66 (by decide) (fun c => absurd c (fun q => q rfl)) (fun c66 => ?_)
  refine lv_aload_n hx hb dL_law_69 rfl (lv_at hl 0 rfl) ?_
  refine lv_iconst (v := 0) hx hb dL_law_70 (by decide) ?_
  refine va_calli (vx_runSW (As := [.ref o, .int 0]) (rest := []) ⟨hx, hb, hml, hown, hts⟩ (w_turn_bad l dC dI H1.size cI cC o a0 a1 a2 (nI 0) 0 (fun _ => none) 0 hfl) (vx_cwSW 2 hts gL_law_L_turn rfl rfl rfl (by decide +kernel) ⟨Nat.le_of_ble_eq_true rfl, Nat.le_of_ble_eq_true rfl⟩) ⟨zfbX, zpreX (hP.sub (ws' := [(o, .inr (6, [.ref a0, .int (nI 0), .ref a1, .int (nI 0), .null, .int 40, .int 48, .int 0, .ref a2]))]) [0] rfl) (hK.sub (tys' := [(cI, .int), (cC, (.object RX0))]) [0, 1] rfl) hE hS hA⟩ rfl rfl hl.1 rfl (lv_room (Nat.le_of_ble_eq_true rfl)) dL_law_71 ⟨(show ((((((7 + 1) + 1) + 1) + 1) + 1) + 1) + 1 ≤ 679936 by omega), (show ((((((614 + 6) + 6) + 6) + 6) + 6) + 6) + 6 ≤ 7061659 by omega)⟩) hS (fun q h1 h2 => absurd h2 (Nat.not_le.mpr h1)) (fun q h => hA q (Nat.le_trans hS.1 h)) (fun r9 u9 t9 H1 locs ht hvm hw hB hz1 hk1 hS => ?_)
  have hw : r9 = (-900001) := hw
  subst hw
  have hP := zr_keep hP hk1
  clear hk1 hz1 hB ht hvm hw
  refine lv_ldc hx hb hown (hts (.constant RL 17 (-900001)) (List.mem_of_getElem? (i := 3) rfl)) dL_law_74 ?_
  refine lv_icmp_ne (tgt := 83) hx hb dL_law_76 (by decide) (fun c => absurd c (fun q => q rfl)) (fun c76 => ?_)
  refine lv_iconst (v := 1) hx hb dL_law_79 (by decide) ?_
  refine lv_goto (tgt := 84) hx hb dL_law_80 (by decide) ?_
  refine lv_istore_n (lv' := [(2, .int 1), (1, .ref o), (0, .ref b)]) hx hb dL_law_84 rfl hl (by decide) rfl (fun ls hl => ?_)
  refine lv_iconst (v := 0) hx hb dL_law_85 (by decide) ?_
  refine zt_top (y := nI 0) (nI_0.symm) ?_
  refine lv_istore_n (lv' := [(3, .int (nI 0)), (2, .int 1), (1, .ref o), (0, .ref b)]) hx hb dL_law_86 rfl hl (by decide) rfl (fun ls hl => ?_)
  refine lv_iconst (v := 0) hx hb dL_law_87 (by decide) ?_
  refine zt_top (y := nI 0) (nI_0.symm) ?_
  refine lv_istore (lv' := [(4, .int (nI 0)), (3, .int (nI 0)), (2, .int 1), (1, .ref o), (0, .ref b)]) hx hb dL_law_88 hl (by decide) rfl (fun ls hl => ?_)
  exact law_loop hflags hL260 C0 hK 7 0 0 0 (fun _ => none) (fun _ => 0) X _ _ (by omega) (by omega) (by omega) (by omega) zM_0 (by omega) (by omega) _ _ hP hD hS ls (lv_sub hl [4, 3, 2, 1, 0] rfl)

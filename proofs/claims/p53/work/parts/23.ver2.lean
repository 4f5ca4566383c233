section ZV2
variable {p : Program} {l : Launch} {e : Env} {s : State} {m : MethodId} {below : List Frame} {meth : Method} {c : Code} {b L : Nat} {xs : Nat → Int32} {Q : State → Prop}

set_option maxHeartbeats 4000000 in
set_option maxRecDepth 100000 in
/-- balance and one track are told -/
theorem v_4 (hL : zL p l s m c b L xs) {dC : Nat → ClassId} {dI : Nat → Nat → Nat} {cI cC : ClassId} (hK : va_K (dC, dI) vwCl [(cI, .int), (cC, .object RX0)] s) {X : va_W} {o a0 a1 a2 a3 h0 h1 h2 : Nat} {tc : Int32} {nc n : Nat} {ad : Nat → Option Nat} {ft fr : Nat → Int32} {v : Nat → Nat} {i : Nat} (hnc : nc < 4) (hn4 : 4 ≤ n) (hn : n ≤ 32) (had : ad nc = some h0) (hv : ∀ k, k < n → fr k = nI (v k) ∧ v k < 256) (hrg : zrg fr n = true) (cn sn : Nat) (hcn : cn + 400 ≤ 679936) (hsn : sn + 4000 ≤ 7061659) (H : Heap) (locs : List Loc) (hP : va_P (dC, dI) vwCl ([(o, .inr (6, [.ref a0, .int tc, .ref a1, .int (nI (nc + 1)), .null, .int 40, .int 48, .int 0, .ref a2])), (a0, .inl (cI, 64, .inl ft)), (a1, .inl (cC, 4, .inr (.inr (.inr (.inr ad))))), (a3, .inl (cI, 64, .inl fr)), (h0, .inr (0, [.ref h1, .int (nI (ztr fr n)), .ref h2])), (h1, .inl (cI, n, .inl fr)), (h2, .inl (cI, 256, .inl (zpl fr n)))] ++ X) H) (hS : va_S (zq s.heap.size) s.heap H locs) (ls : Array Slot) (hl : lv_has ls 19 [(0, .ref b), (1, .ref o), (2, .int 1), (3, .int (nI nc)), (4, .int (nI i)), (6, .ref a3), (7, .int (nI n)), (9, .int (nI (ztr fr n))), (10, .int (nI (zlo fr n (ztr fr n)))), (11, .int (nI (zhi fr n (ztr fr n)))), (12, .int (zb (zon fr n (ztr fr n))))]) (kk : ∀ (H : Heap) (locs : List Loc) (cn2 sn2 : Nat), cn2 ≤ cn + 1 → sn2 ≤ sn + 6 → va_P (dC, dI) vwCl ([(o, .inr (6, [.ref a0, .int tc, .ref a1, .int (nI (nc + 1)), .null, .int 40, .int 48, .int 0, .ref a2])), (a0, .inl (cI, 64, .inl ft)), (a1, .inl (cC, 4, .inr (.inr (.inr (.inr ad))))), (a3, .inl (cI, 64, .inl fr)), (h0, .inr (0, [.ref h1, .int (nI (ztr fr n)), .ref h2])), (h1, .inl (cI, n, .inl fr)), (h2, .inl (cI, 256, .inl (zpl fr n)))] ++ X) H → va_S (zq s.heap.size) s.heap H locs → ∀ ls : Array Slot, lv_has ls 19 [(0, .ref b), (1, .ref o), (2, .int 1), (3, .int (nI nc)), (4, .int (nI i)), (6, .ref a3), (7, .int (nI n))] → W p l e room_1 s m #[Value.ref b] below meth c H locs cn2 sn2 Q (F0 m 911 ls [])) : W p l e room_1 s m #[Value.ref b] below meth c H locs cn sn Q (F0 m 851 ls []) := by
  obtain ⟨hx, hb, hml, hown, hts, hX, hbl, hfl, hE, hL260⟩ := hL
  have hA : ∀ q : Nat, s.heap.size ≤ q → zq s.heap.size q := fun q h => h
  have hbA : ¬ zq s.heap.size b := Nat.not_le.mpr hbl
  have hT8 : (ztr fr n) ≤ 8 := ztr_le fr n
  have hT1 : 1 ≤ (ztr fr n) := ztr_pos (by omega) hv hrg
  refine lv_iload_n hx hb dL_law_851 rfl (lv_at hl 2 rfl) ?_
  refine lv_aload_n hx hb dL_law_852 rfl (lv_at hl 1 rfl) ?_
  refine lv_iload_n hx hb dL_law_853 rfl (lv_at hl 3 rfl) ?_
  refine va_calli (vx_runSW (As := [.ref o, .int (nI nc)]) (rest := [.int 1]) ⟨hx, hb, hml, hown, hts⟩ (w_isBalanced l dC dI H.size cI cC o a0 a1 a2 tc (nc + 1) ad h0 h1 h2 n (ztr fr n) fr (zpl fr n) nc (by omega) (by omega) had (by omega) (by omega)) (vx_cwSW 2 hts gL_law_L_isBalanced rfl rfl rfl (by decide +kernel) ⟨Nat.le_of_ble_eq_true rfl, Nat.le_of_ble_eq_true rfl⟩) ⟨zfbN, zpreN (hP.sub (ws' := [(o, .inr (6, [.ref a0, .int tc, .ref a1, .int (nI (nc + 1)), .null, .int 40, .int 48, .int 0, .ref a2])), (a1, .inl (cC, 4, .inr (.inr (.inr (.inr ad))))), (h0, .inr (0, [.ref h1, .int (nI (ztr fr n)), .ref h2])), (h1, .inl (cI, n, .inl fr)), (h2, .inl (cI, 256, .inl (zpl fr n)))]) [0, 2, 4, 5, 6] rfl) (hK.sub (tys' := [(cI, .int), (cC, (.object RX0))]) [0, 1] rfl) (zX_N hE)⟩ rfl rfl hl.1 rfl (lv_room (Nat.le_of_ble_eq_true rfl)) dL_law_854 ⟨(show cn + 0 ≤ 679936 by omega), (show sn + 0 ≤ 7061659 by omega)⟩) hS (fun q h1 h2 => absurd h2 (Nat.not_le.mpr h1)) (fun q h => hA q (Nat.le_trans hS.1 h)) (fun r9 u9 t9 H1 locs ht hvm hw hB hz1 hk1 hS => ?_)
  have hw : r9 = zb (!decide ((2 : Int32) < nI (zhi fr n (ztr fr n)) - nI (zlo fr n (ztr fr n)))) := hw
  subst hw
  have hP := zr_keep hP hk1
  clear hk1 hz1 hB ht hvm hw
  refine lv_iload hx hb dL_law_857 (lv_at hl 9 rfl) ?_
  refine lv_iload hx hb dL_law_859 (lv_at hl 8 rfl) ?_
  refine lv_isub hx hb dL_law_861 ?_
  refine lv_iconst (v := 2) hx hb dL_law_862 (by decide) ?_
  refine lv_icmp_gt (tgt := 870) hx hb dL_law_863 (by decide) (fun c863 => ?_) (fun c863 => ?_)
  · skip
    refine lv_iconst (v := 0) hx hb dL_law_870 (by decide) ?_
    refine lv_icmp_ne (tgt := 908) hx hb dL_law_871 (by decide) (fun c => absurd c (fun q => q (by rw [decide_eq_true c863]; rfl))) (fun c871 => ?_)
    refine lv_aload_n hx hb dL_law_874 rfl (lv_at hl 1 rfl) ?_
    refine lv_iload_n hx hb dL_law_875 rfl (lv_at hl 3 rfl) ?_
    refine va_calli (vx_runSW (As := [.ref o, .int (nI nc)]) (rest := [.int 1]) ⟨hx, hb, hml, hown, hts⟩ (w_isOneTrack l dC dI H1.size cI cC o a0 a1 a2 tc (nc + 1) ad h0 h1 h2 n (ztr fr n) fr (zpl fr n) nc (by omega) (by omega) had (by omega) hT1 (by omega)) (vx_cwSW 2 hts gL_law_L_isOneTrack rfl rfl rfl (by decide +kernel) ⟨Nat.le_of_ble_eq_true rfl, Nat.le_of_ble_eq_true rfl⟩) ⟨zfbN, zpreN (hP.sub (ws' := [(o, .inr (6, [.ref a0, .int tc, .ref a1, .int (nI (nc + 1)), .null, .int 40, .int 48, .int 0, .ref a2])), (a1, .inl (cC, 4, .inr (.inr (.inr (.inr ad))))), (h0, .inr (0, [.ref h1, .int (nI (ztr fr n)), .ref h2])), (h1, .inl (cI, n, .inl fr)), (h2, .inl (cI, 256, .inl (zpl fr n)))]) [0, 2, 4, 5, 6] rfl) (hK.sub (tys' := [(cI, .int), (cC, (.object RX0))]) [0, 1] rfl) (zX_N hE)⟩ rfl rfl hl.1 rfl (lv_room (Nat.le_of_ble_eq_true rfl)) dL_law_876 ⟨(show cn + 0 ≤ 679936 by omega), (show sn + 0 ≤ 7061659 by omega)⟩) hS (fun q h1 h2 => absurd h2 (Nat.not_le.mpr h1)) (fun q h => hA q (Nat.le_trans hS.1 h)) (fun r9 u9 t9 H1 locs ht hvm hw hB hz1 hk1 hS => ?_)
    have hw : r9 = zb (zon fr n (ztr fr n)) := hw
    subst hw
    have hP := zr_keep hP hk1
    clear hk1 hz1 hB ht hvm hw
    refine lv_iload hx hb dL_law_879 (lv_at hl 10 rfl) ?_
    refine lv_if_eq (tgt := 888) hx hb dL_law_881 (by decide) (fun c881 => ?_) (fun c881 => ?_)
    · skip
      refine lv_iconst (v := 0) hx hb dL_law_888 (by decide) ?_
      refine lv_icmp_ne (tgt := 908) hx hb dL_law_889 (by decide) (fun c => absurd c (fun q => q (by rw [zb_0.mp c881]; rfl))) (fun c889 => ?_)
      refine lv_aload_n hx hb dL_law_892 rfl (lv_at hl 1 rfl) ?_
      refine lv_iload_n hx hb dL_law_893 rfl (lv_at hl 3 rfl) ?_
      refine lv_iload hx hb dL_law_894 (lv_at hl 7 rfl) ?_
      refine va_calli (vx_runSW (As := [.ref o, .int (nI nc), .int (nI (ztr fr n))]) (rest := [.int 1]) ⟨hx, hb, hml, hown, hts⟩ (w_changes_bad l dC dI H1.size cI cC o a0 a1 a2 tc (nc + 1) ad h0 h1 h2 n (ztr fr n) fr (zpl fr n) nc (ztr fr n) hfl (by omega) (by omega) had (Nat.le_refl _) (by omega)) (vx_cwSW 3 hts gL_law_L_changes rfl rfl rfl (by decide +kernel) ⟨Nat.le_of_ble_eq_true rfl, Nat.le_of_ble_eq_true rfl⟩) ⟨zfbX, zpreX (hP.sub (ws' := [(o, .inr (6, [.ref a0, .int tc, .ref a1, .int (nI (nc + 1)), .null, .int 40, .int 48, .int 0, .ref a2])), (a1, .inl (cC, 4, .inr (.inr (.inr (.inr ad))))), (h0, .inr (0, [.ref h1, .int (nI (ztr fr n)), .ref h2])), (h1, .inl (cI, n, .inl fr)), (h2, .inl (cI, 256, .inl (zpl fr n)))]) [0, 2, 4, 5, 6] rfl) (hK.sub (tys' := [(cI, .int), (cC, (.object RX0))]) [0, 1] rfl) hE hS hA⟩ rfl rfl hl.1 rfl (lv_room (Nat.le_of_ble_eq_true rfl)) dL_law_896 ⟨(show cn + 1 ≤ 679936 by omega), (show sn + 6 ≤ 7061659 by omega)⟩) hS (fun q h1 h2 => absurd h2 (Nat.not_le.mpr h1)) (fun q h => hA q (Nat.le_trans hS.1 h)) (fun r9 u9 t9 H1 locs ht hvm hw hB hz1 hk1 hS => ?_)
      have hw : r9 = (-900002) := hw
      subst hw
      have hP := zr_keep hP hk1
      clear hk1 hz1 hB ht hvm hw
      refine lv_ldc hx hb hown (hts (.constant RL 20 (-900002)) (List.mem_of_getElem? (i := 5) rfl)) dL_law_899 ?_
      refine lv_icmp_ne (tgt := 908) hx hb dL_law_901 (by decide) (fun c => absurd c (fun q => q rfl)) (fun c901 => ?_)
      refine lv_iconst (v := 1) hx hb dL_law_904 (by decide) ?_
      refine lv_goto (tgt := 909) hx hb dL_law_905 (by decide) ?_
      refine lv_iand hx hb dL_law_909 ?_
      refine zt_top (y := 1) (z11) ?_
      refine lv_istore_n (lv' := [(2, .int 1), (0, .ref b), (1, .ref o), (3, .int (nI nc)), (4, .int (nI i)), (6, .ref a3), (7, .int (nI n)), (9, .int (nI (ztr fr n))), (10, .int (nI (zlo fr n (ztr fr n)))), (11, .int (nI (zhi fr n (ztr fr n)))), (12, .int (zb (zon fr n (ztr fr n))))]) hx hb dL_law_910 rfl hl (by decide) rfl (fun ls hl => ?_)
      exact kk _ _ _ _ (by omega) (by omega) hP hS ls (lv_sub hl [1, 2, 0, 3, 4, 5, 6] rfl)
    · skip
      refine lv_iconst (v := 1) hx hb dL_law_884 (by decide) ?_
      refine lv_goto (tgt := 889) hx hb dL_law_885 (by decide) ?_
      refine lv_icmp_ne (tgt := 908) hx hb dL_law_889 (by decide) (fun c => absurd c (fun q => q (by rw [zb_n0.mp c881]; rfl))) (fun c889 => ?_)
      refine lv_aload_n hx hb dL_law_892 rfl (lv_at hl 1 rfl) ?_
      refine lv_iload_n hx hb dL_law_893 rfl (lv_at hl 3 rfl) ?_
      refine lv_iload hx hb dL_law_894 (lv_at hl 7 rfl) ?_
      refine va_calli (vx_runSW (As := [.ref o, .int (nI nc), .int (nI (ztr fr n))]) (rest := [.int 1]) ⟨hx, hb, hml, hown, hts⟩ (w_changes_bad l dC dI H1.size cI cC o a0 a1 a2 tc (nc + 1) ad h0 h1 h2 n (ztr fr n) fr (zpl fr n) nc (ztr fr n) hfl (by omega) (by omega) had (Nat.le_refl _) (by omega)) (vx_cwSW 3 hts gL_law_L_changes rfl rfl rfl (by decide +kernel) ⟨Nat.le_of_ble_eq_true rfl, Nat.le_of_ble_eq_true rfl⟩) ⟨zfbX, zpreX (hP.sub (ws' := [(o, .inr (6, [.ref a0, .int tc, .ref a1, .int (nI (nc + 1)), .null, .int 40, .int 48, .int 0, .ref a2])), (a1, .inl (cC, 4, .inr (.inr (.inr (.inr ad))))), (h0, .inr (0, [.ref h1, .int (nI (ztr fr n)), .ref h2])), (h1, .inl (cI, n, .inl fr)), (h2, .inl (cI, 256, .inl (zpl fr n)))]) [0, 2, 4, 5, 6] rfl) (hK.sub (tys' := [(cI, .int), (cC, (.object RX0))]) [0, 1] rfl) hE hS hA⟩ rfl rfl hl.1 rfl (lv_room (Nat.le_of_ble_eq_true rfl)) dL_law_896 ⟨(show cn + 1 ≤ 679936 by omega), (show sn + 6 ≤ 7061659 by omega)⟩) hS (fun q h1 h2 => absurd h2 (Nat.not_le.mpr h1)) (fun q h => hA q (Nat.le_trans hS.1 h)) (fun r9 u9 t9 H1 locs ht hvm hw hB hz1 hk1 hS => ?_)
      have hw : r9 = (-900002) := hw
      subst hw
      have hP := zr_keep hP hk1
      clear hk1 hz1 hB ht hvm hw
      refine lv_ldc hx hb hown (hts (.constant RL 20 (-900002)) (List.mem_of_getElem? (i := 5) rfl)) dL_law_899 ?_
      refine lv_icmp_ne (tgt := 908) hx hb dL_law_901 (by decide) (fun c => absurd c (fun q => q rfl)) (fun c901 => ?_)
      refine lv_iconst (v := 1) hx hb dL_law_904 (by decide) ?_
      refine lv_goto (tgt := 909) hx hb dL_law_905 (by decide) ?_
      refine lv_iand hx hb dL_law_909 ?_
      refine zt_top (y := 1) (z11) ?_
      refine lv_istore_n (lv' := [(2, .int 1), (0, .ref b), (1, .ref o), (3, .int (nI nc)), (4, .int (nI i)), (6, .ref a3), (7, .int (nI n)), (9, .int (nI (ztr fr n))), (10, .int (nI (zlo fr n (ztr fr n)))), (11, .int (nI (zhi fr n (ztr fr n)))), (12, .int (zb (zon fr n (ztr fr n))))]) hx hb dL_law_910 rfl hl (by decide) rfl (fun ls hl => ?_)
      exact kk _ _ _ _ (by omega) (by omega) hP hS ls (lv_sub hl [1, 2, 0, 3, 4, 5, 6] rfl)
  · skip
    refine lv_iconst (v := 1) hx hb dL_law_866 (by decide) ?_
    refine lv_goto (tgt := 871) hx hb dL_law_867 (by decide) ?_
    refine lv_icmp_ne (tgt := 908) hx hb dL_law_871 (by decide) (fun c => absurd c (fun q => q (by rw [decide_eq_false c863]; rfl))) (fun c871 => ?_)
    refine lv_aload_n hx hb dL_law_874 rfl (lv_at hl 1 rfl) ?_
    refine lv_iload_n hx hb dL_law_875 rfl (lv_at hl 3 rfl) ?_
    refine va_calli (vx_runSW (As := [.ref o, .int (nI nc)]) (rest := [.int 1]) ⟨hx, hb, hml, hown, hts⟩ (w_isOneTrack l dC dI H1.size cI cC o a0 a1 a2 tc (nc + 1) ad h0 h1 h2 n (ztr fr n) fr (zpl fr n) nc (by omega) (by omega) had (by omega) hT1 (by omega)) (vx_cwSW 2 hts gL_law_L_isOneTrack rfl rfl rfl (by decide +kernel) ⟨Nat.le_of_ble_eq_true rfl, Nat.le_of_ble_eq_true rfl⟩) ⟨zfbN, zpreN (hP.sub (ws' := [(o, .inr (6, [.ref a0, .int tc, .ref a1, .int (nI (nc + 1)), .null, .int 40, .int 48, .int 0, .ref a2])), (a1, .inl (cC, 4, .inr (.inr (.inr (.inr ad))))), (h0, .inr (0, [.ref h1, .int (nI (ztr fr n)), .ref h2])), (h1, .inl (cI, n, .inl fr)), (h2, .inl (cI, 256, .inl (zpl fr n)))]) [0, 2, 4, 5, 6] rfl) (hK.sub (tys' := [(cI, .int), (cC, (.object RX0))]) [0, 1] rfl) (zX_N hE)⟩ rfl rfl hl.1 rfl (lv_room (Nat.le_of_ble_eq_true rfl)) dL_law_876 ⟨(show cn + 0 ≤ 679936 by omega), (show sn + 0 ≤ 7061659 by omega)⟩) hS (fun q h1 h2 => absurd h2 (Nat.not_le.mpr h1)) (fun q h => hA q (Nat.le_trans hS.1 h)) (fun r9 u9 t9 H1 locs ht hvm hw hB hz1 hk1 hS => ?_)
    have hw : r9 = zb (zon fr n (ztr fr n)) := hw
    subst hw
    have hP := zr_keep hP hk1
    clear hk1 hz1 hB ht hvm hw
    refine lv_iload hx hb dL_law_879 (lv_at hl 10 rfl) ?_
    refine lv_if_eq (tgt := 888) hx hb dL_law_881 (by decide) (fun c881 => ?_) (fun c881 => ?_)
    · skip
      refine lv_iconst (v := 0) hx hb dL_law_888 (by decide) ?_
      refine lv_icmp_ne (tgt := 908) hx hb dL_law_889 (by decide) (fun c => absurd c (fun q => q (by rw [zb_0.mp c881]; rfl))) (fun c889 => ?_)
      refine lv_aload_n hx hb dL_law_892 rfl (lv_at hl 1 rfl) ?_
      refine lv_iload_n hx hb dL_law_893 rfl (lv_at hl 3 rfl) ?_
      refine lv_iload hx hb dL_law_894 (lv_at hl 7 rfl) ?_
      refine va_calli (vx_runSW (As := [.ref o, .int (nI nc), .int (nI (ztr fr n))]) (rest := [.int 1]) ⟨hx, hb, hml, hown, hts⟩ (w_changes_bad l dC dI H1.size cI cC o a0 a1 a2 tc (nc + 1) ad h0 h1 h2 n (ztr fr n) fr (zpl fr n) nc (ztr fr n) hfl (by omega) (by omega) had (Nat.le_refl _) (by omega)) (vx_cwSW 3 hts gL_law_L_changes rfl rfl rfl (by decide +kernel) ⟨Nat.le_of_ble_eq_true rfl, Nat.le_of_ble_eq_true rfl⟩) ⟨zfbX, zpreX (hP.sub (ws' := [(o, .inr (6, [.ref a0, .int tc, .ref a1, .int (nI (nc + 1)), .null, .int 40, .int 48, .int 0, .ref a2])), (a1, .inl (cC, 4, .inr (.inr (.inr (.inr ad))))), (h0, .inr (0, [.ref h1, .int (nI (ztr fr n)), .ref h2])), (h1, .inl (cI, n, .inl fr)), (h2, .inl (cI, 256, .inl (zpl fr n)))]) [0, 2, 4, 5, 6] rfl) (hK.sub (tys' := [(cI, .int), (cC, (.object RX0))]) [0, 1] rfl) hE hS hA⟩ rfl rfl hl.1 rfl (lv_room (Nat.le_of_ble_eq_true rfl)) dL_law_896 ⟨(show cn + 1 ≤ 679936 by omega), (show sn + 6 ≤ 7061659 by omega)⟩) hS (fun q h1 h2 => absurd h2 (Nat.not_le.mpr h1)) (fun q h => hA q (Nat.le_trans hS.1 h)) (fun r9 u9 t9 H1 locs ht hvm hw hB hz1 hk1 hS => ?_)
      have hw : r9 = (-900002) := hw
      subst hw
      have hP := zr_keep hP hk1
      clear hk1 hz1 hB ht hvm hw
      refine lv_ldc hx hb hown (hts (.constant RL 20 (-900002)) (List.mem_of_getElem? (i := 5) rfl)) dL_law_899 ?_
      refine lv_icmp_ne (tgt := 908) hx hb dL_law_901 (by decide) (fun c => absurd c (fun q => q rfl)) (fun c901 => ?_)
      refine lv_iconst (v := 1) hx hb dL_law_904 (by decide) ?_
      refine lv_goto (tgt := 909) hx hb dL_law_905 (by decide) ?_
      refine lv_iand hx hb dL_law_909 ?_
      refine zt_top (y := 1) (z11) ?_
      refine lv_istore_n (lv' := [(2, .int 1), (0, .ref b), (1, .ref o), (3, .int (nI nc)), (4, .int (nI i)), (6, .ref a3), (7, .int (nI n)), (9, .int (nI (ztr fr n))), (10, .int (nI (zlo fr n (ztr fr n)))), (11, .int (nI (zhi fr n (ztr fr n)))), (12, .int (zb (zon fr n (ztr fr n))))]) hx hb dL_law_910 rfl hl (by decide) rfl (fun ls hl => ?_)
      exact kk _ _ _ _ (by omega) (by omega) hP hS ls (lv_sub hl [1, 2, 0, 3, 4, 5, 6] rfl)
    · skip
      refine lv_iconst (v := 1) hx hb dL_law_884 (by decide) ?_
      refine lv_goto (tgt := 889) hx hb dL_law_885 (by decide) ?_
      refine lv_icmp_ne (tgt := 908) hx hb dL_law_889 (by decide) (fun c => absurd c (fun q => q (by rw [zb_n0.mp c881]; rfl))) (fun c889 => ?_)
      refine lv_aload_n hx hb dL_law_892 rfl (lv_at hl 1 rfl) ?_
      refine lv_iload_n hx hb dL_law_893 rfl (lv_at hl 3 rfl) ?_
      refine lv_iload hx hb dL_law_894 (lv_at hl 7 rfl) ?_
      refine va_calli (vx_runSW (As := [.ref o, .int (nI nc), .int (nI (ztr fr n))]) (rest := [.int 1]) ⟨hx, hb, hml, hown, hts⟩ (w_changes_bad l dC dI H1.size cI cC o a0 a1 a2 tc (nc + 1) ad h0 h1 h2 n (ztr fr n) fr (zpl fr n) nc (ztr fr n) hfl (by omega) (by omega) had (Nat.le_refl _) (by omega)) (vx_cwSW 3 hts gL_law_L_changes rfl rfl rfl (by decide +kernel) ⟨Nat.le_of_ble_eq_true rfl, Nat.le_of_ble_eq_true rfl⟩) ⟨zfbX, zpreX (hP.sub (ws' := [(o, .inr (6, [.ref a0, .int tc, .ref a1, .int (nI (nc + 1)), .null, .int 40, .int 48, .int 0, .ref a2])), (a1, .inl (cC, 4, .inr (.inr (.inr (.inr ad))))), (h0, .inr (0, [.ref h1, .int (nI (ztr fr n)), .ref h2])), (h1, .inl (cI, n, .inl fr)), (h2, .inl (cI, 256, .inl (zpl fr n)))]) [0, 2, 4, 5, 6] rfl) (hK.sub (tys' := [(cI, .int), (cC, (.object RX0))]) [0, 1] rfl) hE hS hA⟩ rfl rfl hl.1 rfl (lv_room (Nat.le_of_ble_eq_true rfl)) dL_law_896 ⟨(show cn + 1 ≤ 679936 by omega), (show sn + 6 ≤ 7061659 by omega)⟩) hS (fun q h1 h2 => absurd h2 (Nat.not_le.mpr h1)) (fun q h => hA q (Nat.le_trans hS.1 h)) (fun r9 u9 t9 H1 locs ht hvm hw hB hz1 hk1 hS => ?_)
      have hw : r9 = (-900002) := hw
      subst hw
      have hP := zr_keep hP hk1
      clear hk1 hz1 hB ht hvm hw
      refine lv_ldc hx hb hown (hts (.constant RL 20 (-900002)) (List.mem_of_getElem? (i := 5) rfl)) dL_law_899 ?_
      refine lv_icmp_ne (tgt := 908) hx hb dL_law_901 (by decide) (fun c => absurd c (fun q => q rfl)) (fun c901 => ?_)
      refine lv_iconst (v := 1) hx hb dL_law_904 (by decide) ?_
      refine lv_goto (tgt := 909) hx hb dL_law_905 (by decide) ?_
      refine lv_iand hx hb dL_law_909 ?_
      refine zt_top (y := 1) (z11) ?_
      refine lv_istore_n (lv' := [(2, .int 1), (0, .ref b), (1, .ref o), (3, .int (nI nc)), (4, .int (nI i)), (6, .ref a3), (7, .int (nI n)), (9, .int (nI (ztr fr n))), (10, .int (nI (zlo fr n (ztr fr n)))), (11, .int (nI (zhi fr n (ztr fr n)))), (12, .int (zb (zon fr n (ztr fr n))))]) hx hb dL_law_910 rfl hl (by decide) rfl (fun ls hl => ?_)
      exact kk _ _ _ _ (by omega) (by omega) hP hS ls (lv_sub hl [1, 2, 0, 3, 4, 5, 6] rfl)


set_option maxHeartbeats 4000000 in
set_option maxRecDepth 100000 in
/-- the place of each word -/
theorem v_5 (hL : zL p l s m c b L xs) {dC : Nat → ClassId} {dI : Nat → Nat → Nat} {cI cC : ClassId} (hK : va_K (dC, dI) vwCl [(cI, .int), (cC, .object RX0)] s) {X : va_W} {o a0 a1 a2 a3 h0 h1 h2 : Nat} {tc : Int32} {nc n : Nat} {ad : Nat → Option Nat} {ft fr : Nat → Int32} {v : Nat → Nat} {i : Nat} (hnc : nc < 4) (hn4 : 4 ≤ n) (hn : n ≤ 32) (had : ad nc = some h0) (hv : ∀ k, k < n → fr k = nI (v k) ∧ v k < 256) (hrg : zrg fr n = true) (cn sn : Nat) (hcn : cn + 400 ≤ 679936) (hsn : sn + 4000 ≤ 7061659) (H : Heap) (locs : List Loc) (hP : va_P (dC, dI) vwCl ([(o, .inr (6, [.ref a0, .int tc, .ref a1, .int (nI (nc + 1)), .null, .int 40, .int 48, .int 0, .ref a2])), (a0, .inl (cI, 64, .inl ft)), (a1, .inl (cC, 4, .inr (.inr (.inr (.inr ad))))), (a3, .inl (cI, 64, .inl fr)), (h0, .inr (0, [.ref h1, .int (nI (ztr fr n)), .ref h2])), (h1, .inl (cI, n, .inl fr)), (h2, .inl (cI, 256, .inl (zpl fr n)))] ++ X) H) (hS : va_S (zq s.heap.size) s.heap H locs) (ls : Array Slot) (hl : lv_has ls 19 [(0, .ref b), (1, .ref o), (2, .int 1), (3, .int (nI nc)), (4, .int (nI i)), (6, .ref a3), (7, .int (nI n))]) (kk : ∀ (H : Heap) (locs : List Loc) (cn2 sn2 : Nat), cn2 ≤ cn + 256 → sn2 ≤ sn + 1536 → va_P (dC, dI) vwCl ([(o, .inr (6, [.ref a0, .int tc, .ref a1, .int (nI (nc + 1)), .null, .int 40, .int 48, .int 0, .ref a2])), (a0, .inl (cI, 64, .inl ft)), (a1, .inl (cC, 4, .inr (.inr (.inr (.inr ad))))), (a3, .inl (cI, 64, .inl fr)), (h0, .inr (0, [.ref h1, .int (nI (ztr fr n)), .ref h2])), (h1, .inl (cI, n, .inl fr)), (h2, .inl (cI, 256, .inl (zpl fr n)))] ++ X) H → va_S (zq s.heap.size) s.heap H locs → ∀ ls : Array Slot, lv_has ls 19 [(0, .ref b), (1, .ref o), (2, .int 1), (3, .int (nI nc)), (4, .int (nI i)), (6, .ref a3), (7, .int (nI n))] → W p l e room_1 s m #[Value.ref b] below meth c H locs cn2 sn2 Q (F0 m 987 ls [])) : W p l e room_1 s m #[Value.ref b] below meth c H locs cn sn Q (F0 m 911 ls []) := by
  obtain ⟨hx, hb, hml, hown, hts, hX, hbl, hfl, hE, hL260⟩ := hL
  have hA : ∀ q : Nat, s.heap.size ≤ q → zq s.heap.size q := fun q h => h
  have hbA : ¬ zq s.heap.size b := Nat.not_le.mpr hbl
  refine lv_iconst (v := 0) hx hb dL_law_911 (by decide) ?_
  refine lv_istore (lv' := [(13, .int 0), (0, .ref b), (1, .ref o), (2, .int 1), (3, .int (nI nc)), (4, .int (nI i)), (6, .ref a3), (7, .int (nI n))]) hx hb dL_law_912 hl (by decide) rfl (fun ls hl => ?_)
  have loop : ∀ (d : Nat) (w : Nat), 257 ≤ w + d → w ≤ 256 → ∀ (H : Heap) (locs : List Loc), va_P (dC, dI) vwCl ([(o, .inr (6, [.ref a0, .int tc, .ref a1, .int (nI (nc + 1)), .null, .int 40, .int 48, .int 0, .ref a2])), (a0, .inl (cI, 64, .inl ft)), (a1, .inl (cC, 4, .inr (.inr (.inr (.inr ad))))), (a3, .inl (cI, 64, .inl fr)), (h0, .inr (0, [.ref h1, .int (nI (ztr fr n)), .ref h2])), (h1, .inl (cI, n, .inl fr)), (h2, .inl (cI, 256, .inl (zpl fr n)))] ++ X) H → va_S (zq s.heap.size) s.heap H locs → ∀ ls : Array Slot, lv_has ls 19 [(0, .ref b), (1, .ref o), (2, .int 1), (3, .int (nI nc)), (4, .int (nI i)), (6, .ref a3), (7, .int (nI n)), (13, .int (nI w))] → W p l e room_1 s m #[Value.ref b] below meth c H locs (cn + w) (sn + 6 * w) Q (F0 m 914 ls []) := by
    intro d
    induction d with
    | zero => intro w hd hw; exact absurd hd (by omega)
    | succ d ih =>
      intro w hd hw H locs hP hS ls hl
      refine lv_iload hx hb dL_law_914 (lv_at hl 7 rfl) ?_
      refine lv_sipush (v := 256) hx hb dL_law_916 (by decide) ?_
      refine zt_top (y := nI 256) (rfl) ?_
      refine lv_icmp_ge (tgt := 987) hx hb dL_law_919 (by decide) (fun c919 => ?_) (fun c919 => ?_)
      · skip
        have hww : w = 256 := Nat.le_antisymm hw ((nI_leI (by decide) (by omega)).mp c919)
        exact kk _ _ _ _ (by omega) (by omega) hP hS ls (lv_sub hl [0, 1, 2, 3, 4, 5, 6] rfl)
      · skip
        have hw256 : w < 256 := Nat.lt_of_not_le (fun q => c919 ((nI_leI (by decide) (by omega)).mpr q))
        refine lv_ldc hx hb hown (hts (.constant RL 47 (-900003)) (List.mem_of_getElem? (i := 6) rfl)) dL_law_922 ?_
        refine lv_istore (lv' := [(14, .int (-900003)), (0, .ref b), (1, .ref o), (2, .int 1), (3, .int (nI nc)), (4, .int (nI i)), (6, .ref a3), (7, .int (nI n)), (13, .int (nI w))]) hx hb dL_law_924 hl (by decide) rfl (fun ls hl => ?_)
        refine lv_iconst (v := 0) hx hb dL_law_926 (by decide) ?_
        refine lv_istore (lv' := [(15, .int 0), (14, .int (-900003)), (0, .ref b), (1, .ref o), (2, .int 1), (3, .int (nI nc)), (4, .int (nI i)), (6, .ref a3), (7, .int (nI n)), (13, .int (nI w))]) hx hb dL_law_927 hl (by decide) rfl (fun ls hl => ?_)
        have loopk : ∀ (d2 : Nat) (k : Nat), n + 1 ≤ k + d2 → k ≤ n → ∀ (H : Heap) (locs : List Loc), va_P (dC, dI) vwCl ([(o, .inr (6, [.ref a0, .int tc, .ref a1, .int (nI (nc + 1)), .null, .int 40, .int 48, .int 0, .ref a2])), (a0, .inl (cI, 64, .inl ft)), (a1, .inl (cC, 4, .inr (.inr (.inr (.inr ad))))), (a3, .inl (cI, 64, .inl fr)), (h0, .inr (0, [.ref h1, .int (nI (ztr fr n)), .ref h2])), (h1, .inl (cI, n, .inl fr)), (h2, .inl (cI, 256, .inl (zpl fr n)))] ++ X) H → va_S (zq s.heap.size) s.heap H locs → ∀ ls : Array Slot, lv_has ls 19 [(0, .ref b), (1, .ref o), (2, .int 1), (3, .int (nI nc)), (4, .int (nI i)), (6, .ref a3), (7, .int (nI n)), (13, .int (nI w)), (14, .int (zat fr w k)), (15, .int (nI k))] → W p l e room_1 s m #[Value.ref b] below meth c H locs (cn + w) (sn + 6 * w) Q (F0 m 929 ls []) := by
          intro d2
          induction d2 with
          | zero => intro k hd2 hk; exact absurd hd2 (by omega)
          | succ d2 ihe =>
            intro k hd2 hk H locs hP hS ls hl
            refine lv_iload hx hb dL_law_929 (lv_at hl 9 rfl) ?_
            refine lv_iload hx hb dL_law_931 (lv_at hl 6 rfl) ?_
            refine lv_icmp_ge (tgt := 961) hx hb dL_law_933 (by decide) (fun c933 => ?_) (fun c933 => ?_)
            · skip
              have hkn : k = n := Nat.le_antisymm hk ((nI_leI (by omega) (by omega)).mp c933)
              rw [hkn] at hl
              have hl : lv_has ls 19 [(0, .ref b), (1, .ref o), (2, .int 1), (3, .int (nI nc)), (4, .int (nI i)), (6, .ref a3), (7, .int (nI n)), (13, .int (nI w)), (14, .int (zat fr w n))] := lv_sub hl [0, 1, 2, 3, 4, 5, 6, 7, 8] rfl
              rcases zpl_at hw256 (n := n) (by omega) hv with ⟨hz1v, hz2v⟩ | ⟨j, hj, hz1v, hz2v⟩
              · skip
                refine lv_iload_n hx hb dL_law_961 rfl (lv_at hl 2 rfl) ?_
                refine lv_aload_n hx hb dL_law_962 rfl (lv_at hl 1 rfl) ?_
                refine lv_iload_n hx hb dL_law_963 rfl (lv_at hl 3 rfl) ?_
                refine lv_iload hx hb dL_law_964 (lv_at hl 7 rfl) ?_
                refine va_calli (vx_runSW (As := [.ref o, .int (nI nc), .int (nI w)]) (rest := [.int 1]) ⟨hx, hb, hml, hown, hts⟩ (w_place_none l dC dI H.size cI cC o a0 a1 a2 tc (nc + 1) ad h0 h1 h2 n (ztr fr n) fr (zpl fr n) nc w hfl (by omega) (by omega) had hw256 hz1v) (vx_cwSW 3 hts gL_law_L_place rfl rfl rfl (by decide +kernel) ⟨Nat.le_of_ble_eq_true rfl, Nat.le_of_ble_eq_true rfl⟩) ⟨zfbX, zpreX (hP.sub (ws' := [(o, .inr (6, [.ref a0, .int tc, .ref a1, .int (nI (nc + 1)), .null, .int 40, .int 48, .int 0, .ref a2])), (a1, .inl (cC, 4, .inr (.inr (.inr (.inr ad))))), (h0, .inr (0, [.ref h1, .int (nI (ztr fr n)), .ref h2])), (h1, .inl (cI, n, .inl fr)), (h2, .inl (cI, 256, .inl (zpl fr n)))]) [0, 2, 4, 5, 6] rfl) (hK.sub (tys' := [(cI, .int), (cC, (.object RX0))]) [0, 1] rfl) hE hS hA⟩ rfl rfl hl.1 rfl (lv_room (Nat.le_of_ble_eq_true rfl)) dL_law_966 ⟨(show (cn + w) + 1 ≤ 679936 by omega), (show (sn + 6 * w) + 6 ≤ 7061659 by omega)⟩) hS (fun q h1 h2 => absurd h2 (Nat.not_le.mpr h1)) (fun q h => hA q (Nat.le_trans hS.1 h)) (fun r9 u9 t9 H1 locs ht hvm hw hB hz1 hk1 hS => ?_)
                have hw : r9 = (-900003) := hw
                subst hw
                have hP := zr_keep hP hk1
                clear hk1 hz1 hB ht hvm hw
                refine lv_iload hx hb dL_law_969 (lv_at hl 8 rfl) ?_
                refine lv_icmp_ne (tgt := 978) hx hb dL_law_971 (by decide) (fun c => absurd c (fun q => q (by rw [hz2v]))) (fun c971 => ?_)
                refine lv_iconst (v := 1) hx hb dL_law_974 (by decide) ?_
                refine lv_goto (tgt := 979) hx hb dL_law_975 (by decide) ?_
                refine lv_iand hx hb dL_law_979 ?_
                refine zt_top (y := 1) (z11) ?_
                refine lv_istore_n (lv' := [(2, .int 1), (0, .ref b), (1, .ref o), (3, .int (nI nc)), (4, .int (nI i)), (6, .ref a3), (7, .int (nI n)), (13, .int (nI w)), (14, .int (zat fr w n))]) hx hb dL_law_980 rfl hl (by decide) rfl (fun ls hl => ?_)
                refine lv_iinc (v := nI (w + 1)) (lv' := [(13, .int (nI (w + 1))), (2, .int 1), (0, .ref b), (1, .ref o), (3, .int (nI nc)), (4, .int (nI i)), (6, .ref a3), (7, .int (nI n)), (14, .int (zat fr w n))]) hx hb dL_law_981 hl (k := 7) rfl (nI_1 w) (by decide) rfl (fun ls hl => ?_)
                refine lv_goto (tgt := 914) hx hb dL_law_984 (by decide) ?_
                refine W.widen (k := cn + (w + 1)) (n := sn + 6 * (w + 1)) (by omega) (by omega) ?_
                exact ih (w + 1) (by omega) (by omega) _ _ hP hS ls (lv_sub hl [2, 3, 1, 4, 5, 6, 7, 0] rfl)
              · skip
                refine lv_iload_n hx hb dL_law_961 rfl (lv_at hl 2 rfl) ?_
                refine lv_aload_n hx hb dL_law_962 rfl (lv_at hl 1 rfl) ?_
                refine lv_iload_n hx hb dL_law_963 rfl (lv_at hl 3 rfl) ?_
                refine lv_iload hx hb dL_law_964 (lv_at hl 7 rfl) ?_
                refine va_calli (vx_runSW (As := [.ref o, .int (nI nc), .int (nI w)]) (rest := [.int 1]) ⟨hx, hb, hml, hown, hts⟩ (w_place l dC dI H.size cI cC o a0 a1 a2 tc (nc + 1) ad h0 h1 h2 n (ztr fr n) fr (zpl fr n) nc w (by omega) (by omega) had hw256 (by rw [hz1v]; exact znI_n1 (by omega))) (vx_cwSW 3 hts gL_law_L_place rfl rfl rfl (by decide +kernel) ⟨Nat.le_of_ble_eq_true rfl, Nat.le_of_ble_eq_true rfl⟩) ⟨zfb, zpre (hP.sub (ws' := [(o, .inr (6, [.ref a0, .int tc, .ref a1, .int (nI (nc + 1)), .null, .int 40, .int 48, .int 0, .ref a2])), (a1, .inl (cC, 4, .inr (.inr (.inr (.inr ad))))), (h0, .inr (0, [.ref h1, .int (nI (ztr fr n)), .ref h2])), (h1, .inl (cI, n, .inl fr)), (h2, .inl (cI, 256, .inl (zpl fr n)))]) [0, 2, 4, 5, 6] rfl) (hK.sub (tys' := [(cI, .int), (cC, (.object RX0))]) [0, 1] rfl)⟩ rfl rfl hl.1 rfl (lv_room (Nat.le_of_ble_eq_true rfl)) dL_law_966 ⟨(show (cn + w) + 0 ≤ 679936 by omega), (show (sn + 6 * w) + 0 ≤ 7061659 by omega)⟩) hS (fun q h1 h2 => absurd h2 (Nat.not_le.mpr h1)) (fun q h => hA q (Nat.le_trans hS.1 h)) (fun r9 u9 t9 H1 locs ht hvm hw hB hz1 hk1 hS => ?_)
                have hw : r9 = (zpl fr n) w := hw
                subst hw
                have hP := zr_keep hP hk1
                clear hk1 hz1 hB ht hvm hw
                refine lv_iload hx hb dL_law_969 (lv_at hl 8 rfl) ?_
                refine lv_icmp_ne (tgt := 978) hx hb dL_law_971 (by decide) (fun c => absurd c (fun q => q (by rw [hz1v, hz2v]))) (fun c971 => ?_)
                refine lv_iconst (v := 1) hx hb dL_law_974 (by decide) ?_
                refine lv_goto (tgt := 979) hx hb dL_law_975 (by decide) ?_
                refine lv_iand hx hb dL_law_979 ?_
                refine zt_top (y := 1) (z11) ?_
                refine lv_istore_n (lv' := [(2, .int 1), (0, .ref b), (1, .ref o), (3, .int (nI nc)), (4, .int (nI i)), (6, .ref a3), (7, .int (nI n)), (13, .int (nI w)), (14, .int (zat fr w n))]) hx hb dL_law_980 rfl hl (by decide) rfl (fun ls hl => ?_)
                refine lv_iinc (v := nI (w + 1)) (lv' := [(13, .int (nI (w + 1))), (2, .int 1), (0, .ref b), (1, .ref o), (3, .int (nI nc)), (4, .int (nI i)), (6, .ref a3), (7, .int (nI n)), (14, .int (zat fr w n))]) hx hb dL_law_981 hl (k := 7) rfl (nI_1 w) (by decide) rfl (fun ls hl => ?_)
                refine lv_goto (tgt := 914) hx hb dL_law_984 (by decide) ?_
                refine W.widen (k := cn + (w + 1)) (n := sn + 6 * (w + 1)) (by omega) (by omega) ?_
                exact ih (w + 1) (by omega) (by omega) _ _ hP hS ls (lv_sub hl [2, 3, 1, 4, 5, 6, 7, 0] rfl)
            · skip
              have hkn : k < n := Nat.lt_of_not_le (fun q => c933 ((nI_leI (by omega) (by omega)).mpr q))
              refine lv_aload hx hb dL_law_936 (lv_at hl 5 rfl) ?_
              refine lv_iload hx hb dL_law_938 (lv_at hl 9 rfl) ?_
              refine va_iald hx hb hK hP 3 0 rfl rfl (vp_in_nI (by omega) (by decide)) dL_law_940 ?_
              refine zt_top (y := fr k) (by rw [nI_clamp (by omega)]) ?_
              refine lv_iload hx hb dL_law_941 (lv_at hl 7 rfl) ?_
              refine lv_icmp_ne (tgt := 951) hx hb dL_law_943 (by decide) (fun c943 => ?_) (fun c943 => ?_)
              · skip
                have ec : zat fr w (k + 1) = zat fr w k := if_neg c943
                refine lv_iload hx hb dL_law_951 (lv_at hl 8 rfl) ?_
                refine zt_top (y := zat fr w (k + 1)) (ec.symm) ?_
                refine lv_istore (lv' := [(14, .int (zat fr w (k + 1))), (0, .ref b), (1, .ref o), (2, .int 1), (3, .int (nI nc)), (4, .int (nI i)), (6, .ref a3), (7, .int (nI n)), (13, .int (nI w)), (15, .int (nI k))]) hx hb dL_law_953 hl (by decide) rfl (fun ls hl => ?_)
                refine lv_iinc (v := nI (k + 1)) (lv' := [(15, .int (nI (k + 1))), (14, .int (zat fr w (k + 1))), (0, .ref b), (1, .ref o), (2, .int 1), (3, .int (nI nc)), (4, .int (nI i)), (6, .ref a3), (7, .int (nI n)), (13, .int (nI w))]) hx hb dL_law_955 hl (k := 9) rfl (nI_1 k) (by decide) rfl (fun ls hl => ?_)
                refine lv_goto (tgt := 929) hx hb dL_law_958 (by decide) ?_
                exact ihe (k + 1) (by omega) (by omega) _ _ hP hS ls (lv_sub hl [2, 3, 4, 5, 6, 7, 8, 9, 1, 0] rfl)
              · skip
                have ec : zat fr w (k + 1) = nI k := if_pos c943
                refine lv_iload hx hb dL_law_946 (lv_at hl 9 rfl) ?_
                refine zt_top (y := zat fr w (k + 1)) (ec.symm) ?_
                refine lv_goto (tgt := 953) hx hb dL_law_948 (by decide) ?_
                refine lv_istore (lv' := [(14, .int (zat fr w (k + 1))), (0, .ref b), (1, .ref o), (2, .int 1), (3, .int (nI nc)), (4, .int (nI i)), (6, .ref a3), (7, .int (nI n)), (13, .int (nI w)), (15, .int (nI k))]) hx hb dL_law_953 hl (by decide) rfl (fun ls hl => ?_)
                refine lv_iinc (v := nI (k + 1)) (lv' := [(15, .int (nI (k + 1))), (14, .int (zat fr w (k + 1))), (0, .ref b), (1, .ref o), (2, .int 1), (3, .int (nI nc)), (4, .int (nI i)), (6, .ref a3), (7, .int (nI n)), (13, .int (nI w))]) hx hb dL_law_955 hl (k := 9) rfl (nI_1 k) (by decide) rfl (fun ls hl => ?_)
                refine lv_goto (tgt := 929) hx hb dL_law_958 (by decide) ?_
                exact ihe (k + 1) (by omega) (by omega) _ _ hP hS ls (lv_sub hl [2, 3, 4, 5, 6, 7, 8, 9, 1, 0] rfl)
        exact loopk (n + 1) 0 (by omega) (Nat.zero_le _) _ _ hP hS ls (lv_sub hl [2, 3, 4, 5, 6, 7, 8, 9, 1, 0] rfl)
  exact loop 257 0 (by omega) (Nat.zero_le _) _ _ hP hS ls (lv_sub hl [1, 2, 3, 4, 5, 6, 7, 0] rfl)


set_option maxHeartbeats 4000000 in
set_option maxRecDepth 100000 in
/-- each word -/
theorem v_6 (hL : zL p l s m c b L xs) {dC : Nat → ClassId} {dI : Nat → Nat → Nat} {cI cC : ClassId} (hK : va_K (dC, dI) vwCl [(cI, .int), (cC, .object RX0)] s) {X : va_W} {o a0 a1 a2 a3 h0 h1 h2 : Nat} {tc : Int32} {nc n : Nat} {ad : Nat → Option Nat} {ft fr : Nat → Int32} {v : Nat → Nat} {i : Nat} (hnc : nc < 4) (hn4 : 4 ≤ n) (hn : n ≤ 32) (had : ad nc = some h0) (hv : ∀ k, k < n → fr k = nI (v k) ∧ v k < 256) (hrg : zrg fr n = true) (cn sn : Nat) (hcn : cn + 400 ≤ 679936) (hsn : sn + 4000 ≤ 7061659) (H : Heap) (locs : List Loc) (hP : va_P (dC, dI) vwCl ([(o, .inr (6, [.ref a0, .int tc, .ref a1, .int (nI (nc + 1)), .null, .int 40, .int 48, .int 0, .ref a2])), (a0, .inl (cI, 64, .inl ft)), (a1, .inl (cC, 4, .inr (.inr (.inr (.inr ad))))), (a3, .inl (cI, 64, .inl fr)), (h0, .inr (0, [.ref h1, .int (nI (ztr fr n)), .ref h2])), (h1, .inl (cI, n, .inl fr)), (h2, .inl (cI, 256, .inl (zpl fr n)))] ++ X) H) (hS : va_S (zq s.heap.size) s.heap H locs) (ls : Array Slot) (hl : lv_has ls 19 [(0, .ref b), (1, .ref o), (2, .int 1), (3, .int (nI nc)), (4, .int (nI i)), (6, .ref a3), (7, .int (nI n))]) (kk : ∀ (H : Heap) (locs : List Loc) (cn2 sn2 : Nat), cn2 ≤ cn + 0 → sn2 ≤ sn + 0 → va_P (dC, dI) vwCl ([(o, .inr (6, [.ref a0, .int tc, .ref a1, .int (nI (nc + 1)), .null, .int 40, .int 48, .int 0, .ref a2])), (a0, .inl (cI, 64, .inl ft)), (a1, .inl (cC, 4, .inr (.inr (.inr (.inr ad))))), (a3, .inl (cI, 64, .inl fr)), (h0, .inr (0, [.ref h1, .int (nI (ztr fr n)), .ref h2])), (h1, .inl (cI, n, .inl fr)), (h2, .inl (cI, 256, .inl (zpl fr n)))] ++ X) H → va_S (zq s.heap.size) s.heap H locs → ∀ ls : Array Slot, lv_has ls 19 [(0, .ref b), (1, .ref o), (2, .int 1), (3, .int (nI nc)), (4, .int (nI i)), (6, .ref a3), (7, .int (nI n))] → W p l e room_1 s m #[Value.ref b] below meth c H locs cn2 sn2 Q (F0 m 1026 ls [])) : W p l e room_1 s m #[Value.ref b] below meth c H locs cn sn Q (F0 m 987 ls []) := by
  obtain ⟨hx, hb, hml, hown, hts, hX, hbl, hfl, hE, hL260⟩ := hL
  have hA : ∀ q : Nat, s.heap.size ≤ q → zq s.heap.size q := fun q h => h
  have hbA : ¬ zq s.heap.size b := Nat.not_le.mpr hbl
  refine lv_iconst (v := 0) hx hb dL_law_987 (by decide) ?_
  refine lv_istore (lv' := [(13, .int 0), (0, .ref b), (1, .ref o), (2, .int 1), (3, .int (nI nc)), (4, .int (nI i)), (6, .ref a3), (7, .int (nI n))]) hx hb dL_law_988 hl (by decide) rfl (fun ls hl => ?_)
  have loop : ∀ (d : Nat) (k : Nat), n + 1 ≤ k + d → k ≤ n → ∀ (H : Heap) (locs : List Loc), va_P (dC, dI) vwCl ([(o, .inr (6, [.ref a0, .int tc, .ref a1, .int (nI (nc + 1)), .null, .int 40, .int 48, .int 0, .ref a2])), (a0, .inl (cI, 64, .inl ft)), (a1, .inl (cC, 4, .inr (.inr (.inr (.inr ad))))), (a3, .inl (cI, 64, .inl fr)), (h0, .inr (0, [.ref h1, .int (nI (ztr fr n)), .ref h2])), (h1, .inl (cI, n, .inl fr)), (h2, .inl (cI, 256, .inl (zpl fr n)))] ++ X) H → va_S (zq s.heap.size) s.heap H locs → ∀ ls : Array Slot, lv_has ls 19 [(0, .ref b), (1, .ref o), (2, .int 1), (3, .int (nI nc)), (4, .int (nI i)), (6, .ref a3), (7, .int (nI n)), (13, .int (nI k))] → W p l e room_1 s m #[Value.ref b] below meth c H locs cn sn Q (F0 m 990 ls []) := by
    intro d
    induction d with
    | zero => intro k hd hk; exact absurd hd (by omega)
    | succ d ih =>
      intro k hd hk H locs hP hS ls hl
      refine lv_iload hx hb dL_law_990 (lv_at hl 7 rfl) ?_
      refine lv_iload hx hb dL_law_992 (lv_at hl 6 rfl) ?_
      refine lv_icmp_ge (tgt := 1026) hx hb dL_law_994 (by decide) (fun c994 => ?_) (fun c994 => ?_)
      · skip
        have hkn : k = n := Nat.le_antisymm hk ((nI_leI (by omega) (by omega)).mp c994)
        exact kk _ _ _ _ (by omega) (by omega) hP hS ls (lv_sub hl [0, 1, 2, 3, 4, 5, 6] rfl)
      · skip
        have hkn : k < n := Nat.lt_of_not_le (fun q => c994 ((nI_leI (by omega) (by omega)).mpr q))
        refine lv_iload_n hx hb dL_law_997 rfl (lv_at hl 2 rfl) ?_
        refine lv_aload_n hx hb dL_law_998 rfl (lv_at hl 1 rfl) ?_
        refine lv_iload_n hx hb dL_law_999 rfl (lv_at hl 3 rfl) ?_
        refine lv_iload hx hb dL_law_1000 (lv_at hl 7 rfl) ?_
        refine va_calli (vx_runSW (As := [.ref o, .int (nI nc), .int (nI k)]) (rest := [.int 1]) ⟨hx, hb, hml, hown, hts⟩ (w_word l dC dI H.size cI cC o a0 a1 a2 tc (nc + 1) ad h0 h1 h2 n (ztr fr n) fr (zpl fr n) nc k (by omega) (by omega) had hkn (by omega)) (vx_cwSW 3 hts gL_law_L_word rfl rfl rfl (by decide +kernel) ⟨Nat.le_of_ble_eq_true rfl, Nat.le_of_ble_eq_true rfl⟩) ⟨zfb, zpre (hP.sub (ws' := [(o, .inr (6, [.ref a0, .int tc, .ref a1, .int (nI (nc + 1)), .null, .int 40, .int 48, .int 0, .ref a2])), (a1, .inl (cC, 4, .inr (.inr (.inr (.inr ad))))), (h0, .inr (0, [.ref h1, .int (nI (ztr fr n)), .ref h2])), (h1, .inl (cI, n, .inl fr)), (h2, .inl (cI, 256, .inl (zpl fr n)))]) [0, 2, 4, 5, 6] rfl) (hK.sub (tys' := [(cI, .int), (cC, (.object RX0))]) [0, 1] rfl)⟩ rfl rfl hl.1 rfl (lv_room (Nat.le_of_ble_eq_true rfl)) dL_law_1002 ⟨(show cn + 0 ≤ 679936 by omega), (show sn + 0 ≤ 7061659 by omega)⟩) hS (fun q h1 h2 => absurd h2 (Nat.not_le.mpr h1)) (fun q h => hA q (Nat.le_trans hS.1 h)) (fun r9 u9 t9 H1 locs ht hvm hw hB hz1 hk1 hS => ?_)
        have hw : r9 = fr k := hw
        subst hw
        have hP := zr_keep hP hk1
        clear hk1 hz1 hB ht hvm hw
        refine lv_aload hx hb dL_law_1005 (lv_at hl 5 rfl) ?_
        refine lv_iload hx hb dL_law_1007 (lv_at hl 7 rfl) ?_
        refine va_iald hx hb hK hP 3 0 rfl rfl (vp_in_nI (by omega) (by decide)) dL_law_1009 ?_
        refine zt_top (y := fr k) (by rw [nI_clamp (by omega)]) ?_
        refine lv_icmp_ne (tgt := 1017) hx hb dL_law_1010 (by decide) (fun c => absurd c (fun q => q rfl)) (fun c1010 => ?_)
        refine lv_iconst (v := 1) hx hb dL_law_1013 (by decide) ?_
        refine lv_goto (tgt := 1018) hx hb dL_law_1014 (by decide) ?_
        refine lv_iand hx hb dL_law_1018 ?_
        refine zt_top (y := 1) (z11) ?_
        refine lv_istore_n (lv' := [(2, .int 1), (0, .ref b), (1, .ref o), (3, .int (nI nc)), (4, .int (nI i)), (6, .ref a3), (7, .int (nI n)), (13, .int (nI k))]) hx hb dL_law_1019 rfl hl (by decide) rfl (fun ls hl => ?_)
        refine lv_iinc (v := nI (k + 1)) (lv' := [(13, .int (nI (k + 1))), (2, .int 1), (0, .ref b), (1, .ref o), (3, .int (nI nc)), (4, .int (nI i)), (6, .ref a3), (7, .int (nI n))]) hx hb dL_law_1020 hl (k := 7) rfl (nI_1 k) (by decide) rfl (fun ls hl => ?_)
        refine lv_goto (tgt := 990) hx hb dL_law_1023 (by decide) ?_
        exact ih (k + 1) (by omega) (by omega) _ _ hP hS ls (lv_sub hl [2, 3, 1, 4, 5, 6, 7, 0] rfl)
  exact loop (n + 1) 0 (by omega) (Nat.zero_le _) _ _ hP hS ls (lv_sub hl [1, 2, 3, 4, 5, 6, 7, 0] rfl)


set_option maxHeartbeats 4000000 in
set_option maxRecDepth 100000 in
/-- no word behind the last -/
theorem v_7 (hL : zL p l s m c b L xs) {dC : Nat → ClassId} {dI : Nat → Nat → Nat} {cI cC : ClassId} (hK : va_K (dC, dI) vwCl [(cI, .int), (cC, .object RX0)] s) {X : va_W} {o a0 a1 a2 a3 h0 h1 h2 : Nat} {tc : Int32} {nc n : Nat} {ad : Nat → Option Nat} {ft fr : Nat → Int32} {v : Nat → Nat} {i : Nat} (hnc : nc < 4) (hn4 : 4 ≤ n) (hn : n ≤ 32) (had : ad nc = some h0) (hv : ∀ k, k < n → fr k = nI (v k) ∧ v k < 256) (hrg : zrg fr n = true) (cn sn : Nat) (hcn : cn + 400 ≤ 679936) (hsn : sn + 4000 ≤ 7061659) (H : Heap) (locs : List Loc) (hP : va_P (dC, dI) vwCl ([(o, .inr (6, [.ref a0, .int tc, .ref a1, .int (nI (nc + 1)), .null, .int 40, .int 48, .int 0, .ref a2])), (a0, .inl (cI, 64, .inl ft)), (a1, .inl (cC, 4, .inr (.inr (.inr (.inr ad))))), (a3, .inl (cI, 64, .inl fr)), (h0, .inr (0, [.ref h1, .int (nI (ztr fr n)), .ref h2])), (h1, .inl (cI, n, .inl fr)), (h2, .inl (cI, 256, .inl (zpl fr n)))] ++ X) H) (hS : va_S (zq s.heap.size) s.heap H locs) (ls : Array Slot) (hl : lv_has ls 19 [(0, .ref b), (1, .ref o), (2, .int 1), (3, .int (nI nc)), (4, .int (nI i)), (6, .ref a3), (7, .int (nI n))]) (kk : ∀ (H : Heap) (locs : List Loc) (cn2 sn2 : Nat), cn2 ≤ cn + 1 → sn2 ≤ sn + 6 → va_P (dC, dI) vwCl ([(o, .inr (6, [.ref a0, .int tc, .ref a1, .int (nI (nc + 1)), .null, .int 40, .int 48, .int 0, .ref a2])), (a0, .inl (cI, 64, .inl ft)), (a1, .inl (cC, 4, .inr (.inr (.inr (.inr ad))))), (a3, .inl (cI, 64, .inl fr)), (h0, .inr (0, [.ref h1, .int (nI (ztr fr n)), .ref h2])), (h1, .inl (cI, n, .inl fr)), (h2, .inl (cI, 256, .inl (zpl fr n)))] ++ X) H → va_S (zq s.heap.size) s.heap H locs → ∀ ls : Array Slot, lv_has ls 19 [(0, .ref b), (1, .ref o), (2, .int 1), (3, .int (nI (nc + 1))), (4, .int (nI i))] → W p l e room_1 s m #[Value.ref b] below meth c H locs cn2 sn2 Q (F0 m 1049 ls [])) : W p l e room_1 s m #[Value.ref b] below meth c H locs cn sn Q (F0 m 1026 ls []) := by
  obtain ⟨hx, hb, hml, hown, hts, hX, hbl, hfl, hE, hL260⟩ := hL
  have hA : ∀ q : Nat, s.heap.size ≤ q → zq s.heap.size q := fun q h => h
  have hbA : ¬ zq s.heap.size b := Nat.not_le.mpr hbl
  refine lv_iload_n hx hb dL_law_1026 rfl (lv_at hl 2 rfl) ?_
  refine lv_aload_n hx hb dL_law_1027 rfl (lv_at hl 1 rfl) ?_
  refine lv_iload_n hx hb dL_law_1028 rfl (lv_at hl 3 rfl) ?_
  refine lv_iload hx hb dL_law_1029 (lv_at hl 6 rfl) ?_
  refine va_calli (vx_runSW (As := [.ref o, .int (nI nc), .int (nI n)]) (rest := [.int 1]) ⟨hx, hb, hml, hown, hts⟩ (w_word_bad l dC dI H.size cI cC o a0 a1 a2 tc (nc + 1) ad h0 h1 h2 n (ztr fr n) fr (zpl fr n) nc n hfl (by omega) (by omega) had (Nat.le_refl _) (by omega)) (vx_cwSW 3 hts gL_law_L_word rfl rfl rfl (by decide +kernel) ⟨Nat.le_of_ble_eq_true rfl, Nat.le_of_ble_eq_true rfl⟩) ⟨zfbX, zpreX (hP.sub (ws' := [(o, .inr (6, [.ref a0, .int tc, .ref a1, .int (nI (nc + 1)), .null, .int 40, .int 48, .int 0, .ref a2])), (a1, .inl (cC, 4, .inr (.inr (.inr (.inr ad))))), (h0, .inr (0, [.ref h1, .int (nI (ztr fr n)), .ref h2])), (h1, .inl (cI, n, .inl fr)), (h2, .inl (cI, 256, .inl (zpl fr n)))]) [0, 2, 4, 5, 6] rfl) (hK.sub (tys' := [(cI, .int), (cC, (.object RX0))]) [0, 1] rfl) hE hS hA⟩ rfl rfl hl.1 rfl (lv_room (Nat.le_of_ble_eq_true rfl)) dL_law_1031 ⟨(show cn + 1 ≤ 679936 by omega), (show sn + 6 ≤ 7061659 by omega)⟩) hS (fun q h1 h2 => absurd h2 (Nat.not_le.mpr h1)) (fun q h => hA q (Nat.le_trans hS.1 h)) (fun r9 u9 t9 H1 locs ht hvm hw hB hz1 hk1 hS => ?_)
  have hw : r9 = (-900002) := hw
  subst hw
  have hP := zr_keep hP hk1
  clear hk1 hz1 hB ht hvm hw
  refine lv_ldc hx hb hown (hts (.constant RL 20 (-900002)) (List.mem_of_getElem? (i := 5) rfl)) dL_law_1034 ?_
  refine lv_icmp_ne (tgt := 1043) hx hb dL_law_1036 (by decide) (fun c => absurd c (fun q => q rfl)) (fun c1036 => ?_)
  refine lv_iconst (v := 1) hx hb dL_law_1039 (by decide) ?_
  refine lv_goto (tgt := 1044) hx hb dL_law_1040 (by decide) ?_
  refine lv_iand hx hb dL_law_1044 ?_
  refine zt_top (y := 1) (z11) ?_
  refine lv_istore_n (lv' := [(2, .int 1), (0, .ref b), (1, .ref o), (3, .int (nI nc)), (4, .int (nI i)), (6, .ref a3), (7, .int (nI n))]) hx hb dL_law_1045 rfl hl (by decide) rfl (fun ls hl => ?_)
  refine lv_iinc (v := nI (nc + 1)) (lv' := [(3, .int (nI (nc + 1))), (2, .int 1), (0, .ref b), (1, .ref o), (4, .int (nI i)), (6, .ref a3), (7, .int (nI n))]) hx hb dL_law_1046 hl (k := 3) rfl (nI_1 nc) (by decide) rfl (fun ls hl => ?_)
  exact kk _ _ _ _ (by omega) (by omega) hP hS ls (lv_sub hl [2, 3, 1, 0, 4] rfl)


set_option maxHeartbeats 4000000 in
set_option maxRecDepth 100000 in
/-- a code that was made is told as its row -/
theorem v_all (hL : zL p l s m c b L xs) {dC : Nat → ClassId} {dI : Nat → Nat → Nat} {cI cC : ClassId} (hK : va_K (dC, dI) vwCl [(cI, .int), (cC, .object RX0)] s) {X : va_W} {o a0 a1 a2 a3 h0 h1 h2 : Nat} {tc : Int32} {nc n : Nat} {ad : Nat → Option Nat} {ft fr : Nat → Int32} {v : Nat → Nat} {i : Nat} (hnc : nc < 4) (hn4 : 4 ≤ n) (hn : n ≤ 32) (had : ad nc = some h0) (hv : ∀ k, k < n → fr k = nI (v k) ∧ v k < 256) (hrg : zrg fr n = true) (cn sn : Nat) (hcn : cn + 800 ≤ 679936) (hsn : sn + 8000 ≤ 7061659) (H : Heap) (locs : List Loc) (hP : va_P (dC, dI) vwCl ([(o, .inr (6, [.ref a0, .int tc, .ref a1, .int (nI (nc + 1)), .null, .int 40, .int 48, .int 0, .ref a2])), (a0, .inl (cI, 64, .inl ft)), (a1, .inl (cC, 4, .inr (.inr (.inr (.inr ad))))), (a3, .inl (cI, 64, .inl fr)), (h0, .inr (0, [.ref h1, .int (nI (ztr fr n)), .ref h2])), (h1, .inl (cI, n, .inl fr)), (h2, .inl (cI, 256, .inl (zpl fr n)))] ++ X) H) (hS : va_S (zq s.heap.size) s.heap H locs) (ls : Array Slot) (hl : lv_has ls 19 [(0, .ref b), (1, .ref o), (2, .int 1), (3, .int (nI nc)), (4, .int (nI i)), (6, .ref a3), (7, .int (nI n))]) (kk : ∀ (H : Heap) (locs : List Loc) (cn2 sn2 : Nat), cn2 ≤ cn + 260 → sn2 ≤ sn + 1600 → va_P (dC, dI) vwCl ([(o, .inr (6, [.ref a0, .int tc, .ref a1, .int (nI (nc + 1)), .null, .int 40, .int 48, .int 0, .ref a2])), (a0, .inl (cI, 64, .inl ft)), (a1, .inl (cC, 4, .inr (.inr (.inr (.inr ad))))), (a3, .inl (cI, 64, .inl fr)), (h0, .inr (0, [.ref h1, .int (nI (ztr fr n)), .ref h2])), (h1, .inl (cI, n, .inl fr)), (h2, .inl (cI, 256, .inl (zpl fr n)))] ++ X) H → va_S (zq s.heap.size) s.heap H locs → ∀ ls : Array Slot, lv_has ls 19 [(0, .ref b), (1, .ref o), (2, .int 1), (3, .int (nI (nc + 1))), (4, .int (nI i))] → W p l e room_1 s m #[Value.ref b] below meth c H locs cn2 sn2 Q (F0 m 1049 ls [])) : W p l e room_1 s m #[Value.ref b] below meth c H locs cn sn Q (F0 m 549 ls []) := by
  have hL0 := hL
  obtain ⟨hx, hb, hml, hown, hts, hX, hbl, hfl, hE, hL260⟩ := hL
  refine v_1 hL0 hK hnc hn4 hn had hv hrg _ _ (by omega) (by omega) H locs hP hS ls hl (fun H locs cn1 sn1 hc1 hs1 hP hS ls hl => ?_)
  refine v_2 hL0 hK hnc hn4 hn had hv hrg _ _ (by omega) (by omega) H locs hP hS ls hl (fun H locs cn2 sn2 hc2 hs2 hP hS ls hl => ?_)
  refine v_3 hL0 hK hnc hn4 hn had hv hrg _ _ (by omega) (by omega) H locs hP hS ls hl (fun H locs cn3 sn3 hc3 hs3 hP hS ls hl => ?_)
  refine v_4 hL0 hK hnc hn4 hn had hv hrg _ _ (by omega) (by omega) H locs hP hS ls hl (fun H locs cn4 sn4 hc4 hs4 hP hS ls hl => ?_)
  refine v_5 hL0 hK hnc hn4 hn had hv hrg _ _ (by omega) (by omega) H locs hP hS ls hl (fun H locs cn5 sn5 hc5 hs5 hP hS ls hl => ?_)
  refine v_6 hL0 hK hnc hn4 hn had hv hrg _ _ (by omega) (by omega) H locs hP hS ls hl (fun H locs cn6 sn6 hc6 hs6 hP hS ls hl => ?_)
  exact v_7 hL0 hK hnc hn4 hn had hv hrg _ _ (by omega) (by omega) H locs hP hS ls hl (fun H locs cn7 sn7 hc7 hs7 hP hS ls hl => kk H locs cn7 sn7 (by omega) (by omega) hP hS ls hl)


end ZV2

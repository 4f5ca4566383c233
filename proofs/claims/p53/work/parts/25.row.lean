section ZR
variable {p : Program} {l : Launch} {e : Env} {s : State} {m : MethodId} {below : List Frame} {meth : Method} {c : Code} {b L : Nat} {xs : Nat → Int32} {Q : State → Prop}

set_option maxHeartbeats 4000000 in
set_option maxRecDepth 100000 in
/-- an iteration that makes a reflected code -/
theorem it_refl (hL : zL p l s m c b L xs) {dC : Nat → ClassId} {dI : Nat → Nat → Nat} {cI cC : ClassId} (hK : va_K (dC, dI) vwCl [(cI, .int), (cC, .object RX0)] s) {X : va_W} {o a0 a1 a2 a3 : Nat} {w nc : Nat} {ad : Nat → Option Nat} {ft : Nat → Int32} {i kd : Nat} (hnc : nc < 4) (hwm : w ≤ 64) (hM : zM cI nc ad X) (hi6 : i < 6) (cn sn : Nat) (hcn : cn + 1000 ≤ 679936) (hsn : sn + 10000 ≤ 7061659) (H : Heap) (locs : List Loc) (hP : va_P (dC, dI) vwCl ([(o, .inr (6, [.ref a0, .int (nI w), .ref a1, .int (nI nc), .null, .int 40, .int 48, .int 0, .ref a2])), (a0, .inl (cI, 64, .inl ft)), (a1, .inl (cC, 4, .inr (.inr (.inr (.inr ad))))), (a3, .inl (cI, 64, .inl (fun _ => 0)))] ++ X) H) (hD : va_D (zq s.heap.size) ([(o, .inr (6, [.ref a0, .int (nI w), .ref a1, .int (nI nc), .null, .int 40, .int 48, .int 0, .ref a2])), (a0, .inl (cI, 64, .inl ft)), (a1, .inl (cC, 4, .inr (.inr (.inr (.inr ad))))), (a3, .inl (cI, 64, .inl (fun _ => 0)))] ++ X)) (hS : va_S (zq s.heap.size) s.heap H locs) (ls : Array Slot) (hl : lv_has ls 19 [(0, .ref b), (1, .ref o), (2, .int 1), (3, .int (nI nc)), (4, .int (nI i)), (5, .int (nI kd)), (6, .ref a3), (7, .int 0)]) (kk : ∀ (nc2 : Nat) (ad2 : Nat → Option Nat) (X2 : va_W) (w2 : Nat) (ft2 : Nat → Int32) (H : Heap) (locs : List Loc) (cn2 sn2 : Nat), nc2 ≤ 4 → w2 ≤ 64 → zM cI nc2 ad2 X2 → cn2 ≤ cn + 300 → sn2 ≤ sn + 3000 → va_P (dC, dI) vwCl ([(o, .inr (6, [.ref a0, .int (nI w2), .ref a1, .int (nI nc2), .null, .int 40, .int 48, .int 0, .ref a2])), (a0, .inl (cI, 64, .inl ft2)), (a1, .inl (cC, 4, .inr (.inr (.inr (.inr ad2)))))] ++ X2) H → va_D (zq s.heap.size) ([(o, .inr (6, [.ref a0, .int (nI w2), .ref a1, .int (nI nc2), .null, .int 40, .int 48, .int 0, .ref a2])), (a0, .inl (cI, 64, .inl ft2)), (a1, .inl (cC, 4, .inr (.inr (.inr (.inr ad2)))))] ++ X2) → va_S (zq s.heap.size) s.heap H locs → ∀ ls : Array Slot, lv_has ls 19 [(0, .ref b), (1, .ref o), (2, .int 1), (3, .int (nI nc2)), (4, .int (nI i))] → W p l e room_1 s m #[Value.ref b] below meth c H locs cn2 sn2 Q (F0 m 1049 ls [])) : W p l e room_1 s m #[Value.ref b] below meth c H locs cn sn Q (F0 m 125 ls []) := by
  have hL0 := hL
  obtain ⟨hx, hb, hml, hown, hts, hX, hbl, hfl, hE, hL260⟩ := hL
  have hA : ∀ q : Nat, s.heap.size ≤ q → zq s.heap.size q := fun q h => h
  have hbA : ¬ zq s.heap.size b := Nat.not_le.mpr hbl
  refine lv_iconst (v := 2) hx hb dL_law_125 (by decide) ?_
  refine lv_aload_n hx hb dL_law_126 rfl (lv_at hl 0 rfl) ?_
  refine lv_bipush (v := 10) hx hb dL_law_127 (by decide) ?_
  refine lv_iload hx hb dL_law_129 (lv_at hl 4 rfl) ?_
  refine lv_iadd hx hb dL_law_131 ?_
  refine zt_top (y := nI (10 + i)) (nI_add 10 i) ?_
  refine lv_iconst (v := 4) hx hb dL_law_132 (by decide) ?_
  refine zt_top (y := nI 4) (rfl) ?_
  refine va_calli (va_runS (As := [.ref b, .int (nI (10 + i)), .int (nI 4)]) (rest := [.int 2]) ⟨hx, hb, hml, hown, hts⟩ (k_in l H.size b L xs (10 + i) 4 hL260 (by omega) (by omega) (by omega)) (va_cwS 3 hts gL_law_L_in rfl rfl rfl (by decide +kernel) ⟨Nat.le_of_ble_eq_true rfl, Nat.le_of_ble_eq_true rfl⟩) ⟨zfbS, zpreS hX hbl hS⟩ rfl rfl hl.1 rfl (lv_room (Nat.le_of_ble_eq_true rfl)) dL_law_133 ⟨(show cn + 0 ≤ 679936 by omega), (show sn + 0 ≤ 7061659 by omega)⟩) hS (fun q h1 h2 => absurd h2 (Nat.not_le.mpr h1)) (fun q h => hA q (Nat.le_trans hS.1 h)) (fun r9 u9 t9 H1 locs ht hvm hw hB hz1 hk1 hS => ?_)
  have hw2 := hw
  obtain ⟨hj1, hr9⟩ := hw2
  have hr9 : r9 = nI u9 := hr9
  subst hr9
  obtain ⟨j1, ej1⟩ : ∃ z : Nat, z = u9 := ⟨_, rfl⟩
  subst ej1
  obtain ⟨n, hnb⟩ : ∃ n : Nat, n = 2 ^ (2 + j1) := ⟨_, rfl⟩
  have hjj : j1 = 0 ∨ j1 = 1 ∨ j1 = 2 ∨ j1 = 3 := by omega
  have hn4 : 4 ≤ n := by rw [hnb]; rcases hjj with rfl | rfl | rfl | rfl <;> decide
  have hn32 : n ≤ 32 := by rw [hnb]; rcases hjj with rfl | rfl | rfl | rfl <;> decide
  have hP := zr_keep hP hk1
  clear hk1 hz1 hB ht hvm hw
  refine lv_iadd hx hb dL_law_136 ?_
  refine zt_top (y := nI (2 + j1)) (nI_add 2 j1) ?_
  refine lv_istore (lv' := [(8, .int (nI (2 + j1))), (0, .ref b), (1, .ref o), (2, .int 1), (3, .int (nI nc)), (4, .int (nI i)), (5, .int (nI kd)), (6, .ref a3), (7, .int 0)]) hx hb dL_law_137 hl (by decide) rfl (fun ls hl => ?_)
  refine lv_iconst (v := 1) hx hb dL_law_139 (by decide) ?_
  refine lv_iload hx hb dL_law_140 (lv_at hl 0 rfl) ?_
  refine lv_ishl hx hb dL_law_142 ?_
  refine zt_top (y := nI n) (by rw [hnb]; exact zshl1 _ (by omega)) ?_
  refine lv_istore (lv' := [(7, .int (nI n)), (8, .int (nI (2 + j1))), (0, .ref b), (1, .ref o), (2, .int 1), (3, .int (nI nc)), (4, .int (nI i)), (5, .int (nI kd)), (6, .ref a3)]) hx hb dL_law_143 hl (by decide) rfl (fun ls hl => ?_)
  refine lv_iconst (v := 0) hx hb dL_law_145 (by decide) ?_
  refine lv_istore (lv' := [(9, .int 0), (7, .int (nI n)), (8, .int (nI (2 + j1))), (0, .ref b), (1, .ref o), (2, .int 1), (3, .int (nI nc)), (4, .int (nI i)), (5, .int (nI kd)), (6, .ref a3)]) hx hb dL_law_146 hl (by decide) rfl (fun ls hl => ?_)
  rw [← zrw_0] at hP hD
  have hP : va_P (dC, dI) vwCl ([(o, .inr (6, [.ref a0, .int (nI w), .ref a1, .int (nI nc), .null, .int 40, .int 48, .int 0, .ref a2])), (a0, .inl (cI, 64, .inl ft)), (a1, .inl (cC, 4, .inr (.inr (.inr (.inr ad))))), (a3, .inl (cI, 64, .inl (zrw 0)))] ++ X) H1 := hP
  have hD : va_D (zq s.heap.size) ([(o, .inr (6, [.ref a0, .int (nI w), .ref a1, .int (nI nc), .null, .int 40, .int 48, .int 0, .ref a2])), (a0, .inl (cI, 64, .inl ft)), (a1, .inl (cC, 4, .inr (.inr (.inr (.inr ad))))), (a3, .inl (cI, 64, .inl (zrw 0)))] ++ X) := hD
  have loop : ∀ (d : Nat) (k : Nat), n + 1 ≤ k + d → k ≤ n → ∀ (H : Heap) (locs : List Loc), va_P (dC, dI) vwCl ([(o, .inr (6, [.ref a0, .int (nI w), .ref a1, .int (nI nc), .null, .int 40, .int 48, .int 0, .ref a2])), (a0, .inl (cI, 64, .inl ft)), (a1, .inl (cC, 4, .inr (.inr (.inr (.inr ad))))), (a3, .inl (cI, 64, .inl (zrw k)))] ++ X) H → va_D (zq s.heap.size) ([(o, .inr (6, [.ref a0, .int (nI w), .ref a1, .int (nI nc), .null, .int 40, .int 48, .int 0, .ref a2])), (a0, .inl (cI, 64, .inl ft)), (a1, .inl (cC, 4, .inr (.inr (.inr (.inr ad))))), (a3, .inl (cI, 64, .inl (zrw k)))] ++ X) → va_S (zq s.heap.size) s.heap H locs → ∀ ls : Array Slot, lv_has ls 19 [(0, .ref b), (1, .ref o), (2, .int 1), (3, .int (nI nc)), (4, .int (nI i)), (6, .ref a3), (7, .int (nI n)), (8, .int (nI (2 + j1))), (9, .int (nI k))] → W p l e room_1 s m #[Value.ref b] below meth c H locs cn sn Q (F0 m 148 ls []) := by
    intro d
    induction d with
    | zero => intro k hd hk; exact absurd hd (by omega)
    | succ d ih =>
      intro k hd hk H locs hP hD hS ls hl
      refine lv_iload hx hb dL_law_148 (lv_at hl 8 rfl) ?_
      refine lv_iload hx hb dL_law_150 (lv_at hl 6 rfl) ?_
      refine lv_icmp_ge (tgt := 173) hx hb dL_law_152 (by decide) (fun c152 => ?_) (fun c152 => ?_)
      · skip
        have hkn : k = n := Nat.le_antisymm hk ((nI_leI (by omega) (by omega)).mp c152)
        rw [hkn] at hP hD
        have hP : va_P (dC, dI) vwCl ([(o, .inr (6, [.ref a0, .int (nI w), .ref a1, .int (nI nc), .null, .int 40, .int 48, .int 0, .ref a2])), (a0, .inl (cI, 64, .inl ft)), (a1, .inl (cC, 4, .inr (.inr (.inr (.inr ad))))), (a3, .inl (cI, 64, .inl (zrw n)))] ++ X) H := hP
        have hD : va_D (zq s.heap.size) ([(o, .inr (6, [.ref a0, .int (nI w), .ref a1, .int (nI nc), .null, .int 40, .int 48, .int 0, .ref a2])), (a0, .inl (cI, 64, .inl ft)), (a1, .inl (cC, 4, .inr (.inr (.inr (.inr ad))))), (a3, .inl (cI, 64, .inl (zrw n)))] ++ X) := hD
        refine lv_iload_n hx hb dL_law_173 rfl (lv_at hl 2 rfl) ?_
        refine lv_aload_n hx hb dL_law_174 rfl (lv_at hl 1 rfl) ?_
        refine lv_iload hx hb dL_law_175 (lv_at hl 7 rfl) ?_
        have hPc := hP.sub (ws' := [(o, .inr (6, [.ref a0, .int (nI w), .ref a1, .int (nI nc), .null, .int 40, .int 48, .int 0, .ref a2])), (a1, .inl (cC, 4, .inr (.inr (.inr (.inr ad)))))]) [0, 2] rfl
        have hDc := hD.sub (ws' := [(o, .inr (6, [.ref a0, .int (nI w), .ref a1, .int (nI nc), .null, .int 40, .int 48, .int 0, .ref a2])), (a1, .inl (cC, 4, .inr (.inr (.inr (.inr ad)))))]) [0, 2] (by decide) rfl
        have hKc := hK.sub (tys' := [(cI, .int), (cC, (.object RX0))]) [0, 1] rfl
        have hFc := va_free (wc := [(o, .inr (6, [.ref a0, .int (nI w), .ref a1, .int (nI nc), .null, .int 40, .int 48, .int 0, .ref a2])), (a1, .inl (cC, 4, .inr (.inr (.inr (.inr ad)))))]) hD hS hA [0, 2] rfl
        refine va_calli (vx_runSW (As := [.ref o, .int (nI (2 + j1))]) (rest := [.int 1]) ⟨hx, hb, hml, hown, hts⟩ (w_reflected l dC dI H.size cI cC o a0 a1 a2 (nI w) nc ad (2 + j1) n (by omega) (by omega) hnb hnc) (vx_cwSW 2 hts gL_law_L_reflected rfl rfl rfl (by decide +kernel) ⟨Nat.le_of_ble_eq_true rfl, Nat.le_of_ble_eq_true rfl⟩) ⟨zfbD, zpreD hPc hKc hDc⟩ rfl rfl hl.1 rfl (lv_room (Nat.le_of_ble_eq_true rfl)) dL_law_177 ⟨(show cn + 3 ≤ 679936 by omega), (show sn + 291 ≤ 7061659 by omega)⟩) hS (fun q _ h => hFc q h) hFc (fun r9 u9 t9 H1 locs ht hvm hw hB hz1 hk1 hS => ?_)
        try dsimp only at hw
        obtain ⟨h1, h0, h2⟩ := u9
        have hw : r9 = nI nc := hw
        subst hw
        obtain ⟨hP1, hD1⟩ := hB
        rw [ht] at hP1
        obtain ⟨hP, hD⟩ := va_joinQ (wr := [(a0, .inl (cI, 64, .inl ft)), (a3, .inl (cI, 64, .inl (zrw n)))]) (w1 := [(o, .inr (6, [.ref a0, .int (nI w), .ref a1, .int (nI (nc + 1)), .null, .int 40, .int 48, .int 0, .ref a2])), (a1, .inl (cC, 4, .inr (.inr (.inr (.inr (va_up ad nc (some h0))))))), (h1, .inl (cI, n, .inl zrf)), (h0, .inr (0, [.ref h1, .int (nI (ztr zrf n)), .ref h2])), (h2, .inl (cI, 256, .inl (zpl zrf n)))]) (pl := X) hP hD [0, 2] [1, 3] rfl rfl (by decide) (by decide) hk1 hFc hP1 hD1
        clear hPc hDc hFc hP1 hD1 hk1 hz1 ht hvm
        have hP : va_P (dC, dI) vwCl ([(a0, .inl (cI, 64, .inl ft)), (a3, .inl (cI, 64, .inl (zrw n))), (o, .inr (6, [.ref a0, .int (nI w), .ref a1, .int (nI (nc + 1)), .null, .int 40, .int 48, .int 0, .ref a2])), (a1, .inl (cC, 4, .inr (.inr (.inr (.inr (va_up ad nc (some h0))))))), (h1, .inl (cI, n, .inl zrf)), (h0, .inr (0, [.ref h1, .int (nI (ztr zrf n)), .ref h2])), (h2, .inl (cI, 256, .inl (zpl zrf n)))] ++ X) H1 := hP
        have hD : va_D (zq s.heap.size) ([(a0, .inl (cI, 64, .inl ft)), (a3, .inl (cI, 64, .inl (zrw n))), (o, .inr (6, [.ref a0, .int (nI w), .ref a1, .int (nI (nc + 1)), .null, .int 40, .int 48, .int 0, .ref a2])), (a1, .inl (cC, 4, .inr (.inr (.inr (.inr (va_up ad nc (some h0))))))), (h1, .inl (cI, n, .inl zrf)), (h0, .inr (0, [.ref h1, .int (nI (ztr zrf n)), .ref h2])), (h2, .inl (cI, 256, .inl (zpl zrf n)))] ++ X) := hD
        have hP := hP.part (cx := [(o, .inr (6, [.ref a0, .int (nI w), .ref a1, .int (nI (nc + 1)), .null, .int 40, .int 48, .int 0, .ref a2])), (a0, .inl (cI, 64, .inl ft)), (a1, .inl (cC, 4, .inr (.inr (.inr (.inr (va_up ad nc (some h0))))))), (a3, .inl (cI, 64, .inl (zrw n))), (h0, .inr (0, [.ref h1, .int (nI (ztr zrf n)), .ref h2])), (h1, .inl (cI, n, .inl zrf)), (h2, .inl (cI, 256, .inl (zpl zrf n)))]) [2, 0, 3, 1, 5, 4, 6] rfl
        have hD := hD.part (cx := [(o, .inr (6, [.ref a0, .int (nI w), .ref a1, .int (nI (nc + 1)), .null, .int 40, .int 48, .int 0, .ref a2])), (a0, .inl (cI, 64, .inl ft)), (a1, .inl (cC, 4, .inr (.inr (.inr (.inr (va_up ad nc (some h0))))))), (a3, .inl (cI, 64, .inl (zrw n))), (h0, .inr (0, [.ref h1, .int (nI (ztr zrf n)), .ref h2])), (h1, .inl (cI, n, .inl zrf)), (h2, .inl (cI, 256, .inl (zpl zrf n)))]) [2, 0, 3, 1, 5, 4, 6] (by decide) rfl
        have hP : va_P (dC, dI) vwCl ([(o, .inr (6, [.ref a0, .int (nI w), .ref a1, .int (nI (nc + 1)), .null, .int 40, .int 48, .int 0, .ref a2])), (a0, .inl (cI, 64, .inl ft)), (a1, .inl (cC, 4, .inr (.inr (.inr (.inr (va_up ad nc (some h0))))))), (a3, .inl (cI, 64, .inl (zrw n))), (h0, .inr (0, [.ref h1, .int (nI (ztr zrf n)), .ref h2])), (h1, .inl (cI, n, .inl zrf)), (h2, .inl (cI, 256, .inl (zpl zrf n)))] ++ X) H1 := hP
        have hD : va_D (zq s.heap.size) ([(o, .inr (6, [.ref a0, .int (nI w), .ref a1, .int (nI (nc + 1)), .null, .int 40, .int 48, .int 0, .ref a2])), (a0, .inl (cI, 64, .inl ft)), (a1, .inl (cC, 4, .inr (.inr (.inr (.inr (va_up ad nc (some h0))))))), (a3, .inl (cI, 64, .inl (zrw n))), (h0, .inr (0, [.ref h1, .int (nI (ztr zrf n)), .ref h2])), (h1, .inl (cI, n, .inl zrf)), (h2, .inl (cI, 256, .inl (zpl zrf n)))] ++ X) := hD
        have hzz : ∀ j, j < n → zrf j = zrw n j := fun j hj => (zrw_in hj).symm
        rw [ztr_congr hzz, zpl_congr hzz] at hP hD
        obtain ⟨hP, hD⟩ := z_fn (g := zrw n) hP hD 5 rfl hzz
        have hP : va_P (dC, dI) vwCl ([(o, .inr (6, [.ref a0, .int (nI w), .ref a1, .int (nI (nc + 1)), .null, .int 40, .int 48, .int 0, .ref a2])), (a0, .inl (cI, 64, .inl ft)), (a1, .inl (cC, 4, .inr (.inr (.inr (.inr (va_up ad nc (some h0))))))), (a3, .inl (cI, 64, .inl (zrw n))), (h0, .inr (0, [.ref h1, .int (nI (ztr (zrw n) n)), .ref h2])), (h1, .inl (cI, n, .inl (zrw n))), (h2, .inl (cI, 256, .inl (zpl (zrw n) n)))] ++ X) H1 := hP
        have hD : va_D (zq s.heap.size) ([(o, .inr (6, [.ref a0, .int (nI w), .ref a1, .int (nI (nc + 1)), .null, .int 40, .int 48, .int 0, .ref a2])), (a0, .inl (cI, 64, .inl ft)), (a1, .inl (cC, 4, .inr (.inr (.inr (.inr (va_up ad nc (some h0))))))), (a3, .inl (cI, 64, .inl (zrw n))), (h0, .inr (0, [.ref h1, .int (nI (ztr (zrw n) n)), .ref h2])), (h1, .inl (cI, n, .inl (zrw n))), (h2, .inl (cI, 256, .inl (zpl (zrw n) n)))] ++ X) := hD
        refine lv_iload_n hx hb dL_law_180 rfl (lv_at hl 3 rfl) ?_
        refine lv_icmp_ne (tgt := 188) hx hb dL_law_181 (by decide) (fun c => absurd c (fun q => q rfl)) (fun c181 => ?_)
        refine lv_iconst (v := 1) hx hb dL_law_184 (by decide) ?_
        refine lv_goto (tgt := 189) hx hb dL_law_185 (by decide) ?_
        refine lv_iand hx hb dL_law_189 ?_
        refine zt_top (y := 1) (z11) ?_
        refine lv_istore_n (lv' := [(2, .int 1), (0, .ref b), (1, .ref o), (3, .int (nI nc)), (4, .int (nI i)), (6, .ref a3), (7, .int (nI n)), (8, .int (nI (2 + j1))), (9, .int (nI k))]) hx hb dL_law_190 rfl hl (by decide) rfl (fun ls hl => ?_)
        refine lv_goto (tgt := 549) hx hb dL_law_191 (by decide) ?_
        have hrg0 : zrg zrf n = true := by rw [hnb]; rcases hjj with rfl | rfl | rfl | rfl; exact zrg_4; exact zrg_8; exact zrg_16; exact zrg_32
        have hrg : zrg (zrw n) n = true := by rw [← zrg_congr hzz]; exact hrg0
        refine v_all hL0 hK (ad := va_up ad nc (some h0)) (fr := zrw n) (v := fun k => k ^^^ k / 2) hnc hn4 hn32 (if_pos rfl) (fun k hk => ⟨by rw [zrw_in hk]; exact zrf_w k, zrf_lt (by omega)⟩) hrg _ _ (by omega) (by omega) _ _ hP hS ls (lv_sub hl [1, 2, 0, 3, 4, 5, 6] rfl) (fun H locs cn2 sn2 hc2 hs2 hP hS ls hl => ?_)
        exact kk (nc + 1) (va_up ad nc (some h0)) ([(a3, .inl (cI, 64, .inl (zrw n))), (h0, .inr (0, [.ref h1, .int (nI (ztr (zrw n) n)), .ref h2])), (h1, .inl (cI, n, .inl (zrw n))), (h2, .inl (cI, 256, .inl (zpl (zrw n) n)))] ++ X) w ft H locs cn2 sn2 (by omega) hwm (zM_add hM (by omega) hrg) (by omega) (by omega) hP hD hS ls hl
      · skip
        have hkn : k < n := Nat.lt_of_not_le (fun q => c152 ((nI_leI (by omega) (by omega)).mpr q))
        refine lv_aload hx hb dL_law_155 (lv_at hl 5 rfl) ?_
        refine lv_iload hx hb dL_law_157 (lv_at hl 8 rfl) ?_
        refine lv_iload hx hb dL_law_159 (lv_at hl 8 rfl) ?_
        refine lv_iload hx hb dL_law_161 (lv_at hl 8 rfl) ?_
        refine lv_iconst (v := 1) hx hb dL_law_163 (by decide) ?_
        refine lv_ishr hx hb dL_law_164 ?_
        refine zt_top (y := nI (k / 2)) (zshr1 (by omega)) ?_
        refine lv_ixor hx hb dL_law_165 ?_
        refine zt_top (y := zrf k) (rfl) ?_
        refine va_iast hx hb hK hP hD hS 3 0 rfl rfl (vp_in_nI (by omega) (by decide)) dL_law_166 (fun H locs hP hD hS => ?_)
        have hP : va_P (dC, dI) vwCl ([(o, .inr (6, [.ref a0, .int (nI w), .ref a1, .int (nI nc), .null, .int 40, .int 48, .int 0, .ref a2])), (a0, .inl (cI, 64, .inl ft)), (a1, .inl (cC, 4, .inr (.inr (.inr (.inr ad))))), (a3, .inl (cI, 64, .inl (upd (zrw k) (nI k).toNatClampNeg (zrf k))))] ++ X) H := hP
        have hD : va_D (zq s.heap.size) ([(o, .inr (6, [.ref a0, .int (nI w), .ref a1, .int (nI nc), .null, .int 40, .int 48, .int 0, .ref a2])), (a0, .inl (cI, 64, .inl ft)), (a1, .inl (cC, 4, .inr (.inr (.inr (.inr ad))))), (a3, .inl (cI, 64, .inl (upd (zrw k) (nI k).toNatClampNeg (zrf k))))] ++ X) := hD
        rw [nI_clamp (by omega), zrw_s] at hP hD
        have hP : va_P (dC, dI) vwCl ([(o, .inr (6, [.ref a0, .int (nI w), .ref a1, .int (nI nc), .null, .int 40, .int 48, .int 0, .ref a2])), (a0, .inl (cI, 64, .inl ft)), (a1, .inl (cC, 4, .inr (.inr (.inr (.inr ad))))), (a3, .inl (cI, 64, .inl (zrw (k + 1))))] ++ X) H := hP
        have hD : va_D (zq s.heap.size) ([(o, .inr (6, [.ref a0, .int (nI w), .ref a1, .int (nI nc), .null, .int 40, .int 48, .int 0, .ref a2])), (a0, .inl (cI, 64, .inl ft)), (a1, .inl (cC, 4, .inr (.inr (.inr (.inr ad))))), (a3, .inl (cI, 64, .inl (zrw (k + 1))))] ++ X) := hD
        refine lv_iinc (v := nI (k + 1)) (lv' := [(9, .int (nI (k + 1))), (0, .ref b), (1, .ref o), (2, .int 1), (3, .int (nI nc)), (4, .int (nI i)), (6, .ref a3), (7, .int (nI n)), (8, .int (nI (2 + j1)))]) hx hb dL_law_167 hl (k := 8) rfl (nI_1 k) (by decide) rfl (fun ls hl => ?_)
        refine lv_goto (tgt := 148) hx hb dL_law_170 (by decide) ?_
        exact ih (k + 1) (by omega) (by omega) _ _ hP hD hS ls (lv_sub hl [1, 2, 3, 4, 5, 6, 7, 8, 0] rfl)
  exact loop (n + 1) 0 (by omega) (Nat.zero_le _) _ _ hP hD hS ls (lv_sub hl [3, 4, 5, 6, 7, 9, 1, 2, 0] rfl)


theorem zrw8_s {fr : Nat → Int32} {k x : Nat} (h : zrw8 fr k) (hx : x < 256) : zrw8 (upd fr k (nI x)) (k + 1) := fun j hj => by
  by_cases e : j = k
  · exact ⟨x, hx, by rw [e]; exact pk_us⟩
  · obtain ⟨v, hv, ev⟩ := h j (by omega)
    exact ⟨v, hv, by rw [pk_un e]; exact ev⟩
theorem zrw8_u {fr : Nat → Int32} {n p x : Nat} (h : zrw8 fr n) (hx : x < 256) : zrw8 (upd fr p (nI x)) n := fun j hj => by
  by_cases e : j = p
  · exact ⟨x, hx, by rw [e]; exact pk_us⟩
  · obtain ⟨v, hv, ev⟩ := h j hj
    exact ⟨v, hv, by rw [pk_un e]; exact ev⟩

set_option maxHeartbeats 4000000 in
set_option maxRecDepth 100000 in
/-- the row of a typed ring -/
theorem it_row (hL : zL p l s m c b L xs) {dC : Nat → ClassId} {dI : Nat → Nat → Nat} {cI cC : ClassId} (hK : va_K (dC, dI) vwCl [(cI, .int), (cC, .object RX0)] s) {X : va_W} {o a0 a1 a2 a3 : Nat} {w nc : Nat} {ad : Nat → Option Nat} {ft : Nat → Int32} {i kd : Nat} (hnc : nc < 4) (hwm : w ≤ 64) (hM : zM cI nc ad X) (hi6 : i < 6) (cn sn : Nat) (hcn : cn + 1000 ≤ 679936) (hsn : sn + 10000 ≤ 7061659) (H : Heap) (locs : List Loc) (hP : va_P (dC, dI) vwCl ([(o, .inr (6, [.ref a0, .int (nI w), .ref a1, .int (nI nc), .null, .int 40, .int 48, .int 0, .ref a2])), (a0, .inl (cI, 64, .inl ft)), (a1, .inl (cC, 4, .inr (.inr (.inr (.inr ad))))), (a3, .inl (cI, 64, .inl (fun _ => 0)))] ++ X) H) (hD : va_D (zq s.heap.size) ([(o, .inr (6, [.ref a0, .int (nI w), .ref a1, .int (nI nc), .null, .int 40, .int 48, .int 0, .ref a2])), (a0, .inl (cI, 64, .inl ft)), (a1, .inl (cC, 4, .inr (.inr (.inr (.inr ad))))), (a3, .inl (cI, 64, .inl (fun _ => 0)))] ++ X)) (hS : va_S (zq s.heap.size) s.heap H locs) (ls : Array Slot) (hl : lv_has ls 19 [(0, .ref b), (1, .ref o), (2, .int 1), (3, .int (nI nc)), (4, .int (nI i)), (5, .int (nI kd)), (6, .ref a3), (7, .int 0)]) (kk : ∀ (n : Nat) (fr2 : Nat → Int32) (H : Heap) (locs : List Loc), 4 ≤ n → n ≤ 16 → zrw8 fr2 n → va_P (dC, dI) vwCl ([(o, .inr (6, [.ref a0, .int (nI w), .ref a1, .int (nI nc), .null, .int 40, .int 48, .int 0, .ref a2])), (a0, .inl (cI, 64, .inl ft)), (a1, .inl (cC, 4, .inr (.inr (.inr (.inr ad))))), (a3, .inl (cI, 64, .inl fr2))] ++ X) H → va_D (zq s.heap.size) ([(o, .inr (6, [.ref a0, .int (nI w), .ref a1, .int (nI nc), .null, .int 40, .int 48, .int 0, .ref a2])), (a0, .inl (cI, 64, .inl ft)), (a1, .inl (cC, 4, .inr (.inr (.inr (.inr ad))))), (a3, .inl (cI, 64, .inl fr2))] ++ X) → va_S (zq s.heap.size) s.heap H locs → ∀ ls : Array Slot, lv_has ls 19 [(0, .ref b), (1, .ref o), (2, .int 1), (3, .int (nI nc)), (4, .int (nI i)), (6, .ref a3), (7, .int (nI n))] → W p l e room_1 s m #[Value.ref b] below meth c H locs cn sn Q (F0 m 360 ls [])) : W p l e room_1 s m #[Value.ref b] below meth c H locs cn sn Q (F0 m 199 ls []) := by
  have hL0 := hL
  obtain ⟨hx, hb, hml, hown, hts, hX, hbl, hfl, hE, hL260⟩ := hL
  have hA : ∀ q : Nat, s.heap.size ≤ q → zq s.heap.size q := fun q h => h
  have hbA : ¬ zq s.heap.size b := Nat.not_le.mpr hbl
  refine lv_iconst (v := 2) hx hb dL_law_199 (by decide) ?_
  refine lv_aload_n hx hb dL_law_200 rfl (lv_at hl 0 rfl) ?_
  refine lv_bipush (v := 20) hx hb dL_law_201 (by decide) ?_
  refine lv_iload hx hb dL_law_203 (lv_at hl 4 rfl) ?_
  refine lv_iadd hx hb dL_law_205 ?_
  refine zt_top (y := nI (20 + i)) (nI_add 20 i) ?_
  refine lv_iconst (v := 3) hx hb dL_law_206 (by decide) ?_
  refine zt_top (y := nI 3) (rfl) ?_
  refine va_calli (va_runS (As := [.ref b, .int (nI (20 + i)), .int (nI 3)]) (rest := [.int 2]) ⟨hx, hb, hml, hown, hts⟩ (k_in l H.size b L xs (20 + i) 3 hL260 (by omega) (by omega) (by omega)) (va_cwS 3 hts gL_law_L_in rfl rfl rfl (by decide +kernel) ⟨Nat.le_of_ble_eq_true rfl, Nat.le_of_ble_eq_true rfl⟩) ⟨zfbS, zpreS hX hbl hS⟩ rfl rfl hl.1 rfl (lv_room (Nat.le_of_ble_eq_true rfl)) dL_law_207 ⟨(show cn + 0 ≤ 679936 by omega), (show sn + 0 ≤ 7061659 by omega)⟩) hS (fun q h1 h2 => absurd h2 (Nat.not_le.mpr h1)) (fun q h => hA q (Nat.le_trans hS.1 h)) (fun r9 u9 t9 H1 locs ht hvm hw hB hz1 hk1 hS => ?_)
  have hw2 := hw
  obtain ⟨hj1, hr9⟩ := hw2
  have hr9 : r9 = nI u9 := hr9
  subst hr9
  obtain ⟨j1, ej1⟩ : ∃ z : Nat, z = u9 := ⟨_, rfl⟩
  subst ej1
  obtain ⟨al, hal⟩ : ∃ n : Nat, n = 2 ^ (2 + j1) := ⟨_, rfl⟩
  have hjj : j1 = 0 ∨ j1 = 1 ∨ j1 = 2 := by omega
  have hal4 : al = 4 ∨ al = 8 ∨ al = 16 := by rw [hal]; rcases hjj with rfl | rfl | rfl <;> decide
  have hP := zr_keep hP hk1
  clear hk1 hz1 hB ht hvm hw
  refine lv_iadd hx hb dL_law_210 ?_
  refine zt_top (y := nI (2 + j1)) (nI_add 2 j1) ?_
  refine lv_istore (lv' := [(8, .int (nI (2 + j1))), (0, .ref b), (1, .ref o), (2, .int 1), (3, .int (nI nc)), (4, .int (nI i)), (5, .int (nI kd)), (6, .ref a3), (7, .int 0)]) hx hb dL_law_211 hl (by decide) rfl (fun ls hl => ?_)
  refine lv_iconst (v := 1) hx hb dL_law_213 (by decide) ?_
  refine lv_iload hx hb dL_law_214 (lv_at hl 0 rfl) ?_
  refine lv_ishl hx hb dL_law_216 ?_
  refine zt_top (y := nI al) (by rw [hal]; exact zshl1 _ (by omega)) ?_
  refine lv_istore (lv' := [(9, .int (nI al)), (8, .int (nI (2 + j1))), (0, .ref b), (1, .ref o), (2, .int 1), (3, .int (nI nc)), (4, .int (nI i)), (5, .int (nI kd)), (6, .ref a3), (7, .int 0)]) hx hb dL_law_217 hl (by decide) rfl (fun ls hl => ?_)
  refine lv_iload hx hb dL_law_219 (lv_at hl 7 rfl) ?_
  refine lv_iconst (v := 1) hx hb dL_law_221 (by decide) ?_
  refine lv_icmp_ne (tgt := 229) hx hb dL_law_222 (by decide) (fun c222 => ?_) (fun c222 => ?_)
  · skip
    refine lv_iconst (v := 2) hx hb dL_law_229 (by decide) ?_
    refine lv_aload_n hx hb dL_law_230 rfl (lv_at hl 2 rfl) ?_
    refine lv_bipush (v := 30) hx hb dL_law_231 (by decide) ?_
    refine lv_iload hx hb dL_law_233 (lv_at hl 6 rfl) ?_
    refine lv_iadd hx hb dL_law_235 ?_
    refine zt_top (y := nI (30 + i)) (nI_add 30 i) ?_
    refine lv_iload hx hb dL_law_236 (lv_at hl 0 rfl) ?_
    refine lv_iconst (v := 2) hx hb dL_law_238 (by decide) ?_
    refine lv_idiv hx hb dL_law_239 (by decide) ?_
    refine zt_top (y := nI (al / 2)) (pk_div (d := 2) (by omega) (by decide) (by decide)) ?_
    refine lv_iconst (v := 1) hx hb dL_law_240 (by decide) ?_
    refine lv_isub hx hb dL_law_241 ?_
    refine zt_top (y := nI (al / 2 - 1)) (pk_sub (b := 1) (by omega)) ?_
    refine va_calli (va_runS (As := [.ref b, .int (nI (30 + i)), .int (nI (al / 2 - 1))]) (rest := [.int 2]) ⟨hx, hb, hml, hown, hts⟩ (k_in l H1.size b L xs (30 + i) (al / 2 - 1) hL260 (by omega) (by omega) (by omega)) (va_cwS 3 hts gL_law_L_in rfl rfl rfl (by decide +kernel) ⟨Nat.le_of_ble_eq_true rfl, Nat.le_of_ble_eq_true rfl⟩) ⟨zfbS, zpreS hX hbl hS⟩ rfl rfl hl.1 rfl (lv_room (Nat.le_of_ble_eq_true rfl)) dL_law_242 ⟨(show cn + 0 ≤ 679936 by omega), (show sn + 0 ≤ 7061659 by omega)⟩) hS (fun q h1 h2 => absurd h2 (Nat.not_le.mpr h1)) (fun q h => hA q (Nat.le_trans hS.1 h)) (fun r9 u9 t9 H1 locs ht hvm hw hB hz1 hk1 hS => ?_)
    have hw2 := hw
    obtain ⟨hj2, hr9⟩ := hw2
    have hr9 : r9 = nI u9 := hr9
    subst hr9
    obtain ⟨j2, ej2⟩ : ∃ z : Nat, z = u9 := ⟨_, rfl⟩
    subst ej2
    have hP := zr_keep hP hk1
    clear hk1 hz1 hB ht hvm hw
    refine lv_imul hx hb dL_law_245 ?_
    refine zt_top (y := nI (2 * j2)) (pk_mul 2 j2) ?_
    obtain ⟨ct, hct0⟩ : ∃ z : Nat, z = 2 * j2 := ⟨_, rfl⟩
    have hct : ct + 4 ≤ al := by omega
    refine zt_top (y := nI ct) (by rw [hct0]) ?_
    refine lv_istore (lv' := [(10, .int (nI ct)), (9, .int (nI al)), (8, .int (nI (2 + j1))), (0, .ref b), (1, .ref o), (2, .int 1), (3, .int (nI nc)), (4, .int (nI i)), (5, .int (nI kd)), (6, .ref a3), (7, .int 0)]) hx hb dL_law_246 hl (by decide) rfl (fun ls hl => ?_)
    refine lv_iload hx hb dL_law_248 (lv_at hl 1 rfl) ?_
    refine lv_iload hx hb dL_law_250 (lv_at hl 0 rfl) ?_
    refine lv_isub hx hb dL_law_252 ?_
    refine zt_top (y := nI (al - ct)) (pk_sub (by omega)) ?_
    obtain ⟨n, hnn⟩ : ∃ z : Nat, z = al - ct := ⟨_, rfl⟩
    refine zt_top (y := nI n) (by rw [hnn]) ?_
    have hn4 : 4 ≤ n := by omega
    have hn16 : n ≤ 16 := by omega
    refine lv_istore (lv' := [(7, .int (nI n)), (10, .int (nI ct)), (9, .int (nI al)), (8, .int (nI (2 + j1))), (0, .ref b), (1, .ref o), (2, .int 1), (3, .int (nI nc)), (4, .int (nI i)), (5, .int (nI kd)), (6, .ref a3)]) hx hb dL_law_253 hl (by decide) rfl (fun ls hl => ?_)
    refine lv_aload_n hx hb dL_law_255 rfl (lv_at hl 4 rfl) ?_
    refine lv_bipush (v := 40) hx hb dL_law_256 (by decide) ?_
    refine lv_iload hx hb dL_law_258 (lv_at hl 8 rfl) ?_
    refine lv_iadd hx hb dL_law_260 ?_
    refine zt_top (y := nI (40 + i)) (nI_add 40 i) ?_
    refine lv_sipush (v := 256) hx hb dL_law_261 (by decide) ?_
    refine zt_top (y := nI 256) (rfl) ?_
    refine va_calli (va_runS (As := [.ref b, .int (nI (40 + i)), .int (nI 256)]) (rest := []) ⟨hx, hb, hml, hown, hts⟩ (k_in l H1.size b L xs (40 + i) 256 hL260 (by omega) (by omega) (by omega)) (va_cwS 3 hts gL_law_L_in rfl rfl rfl (by decide +kernel) ⟨Nat.le_of_ble_eq_true rfl, Nat.le_of_ble_eq_true rfl⟩) ⟨zfbS, zpreS hX hbl hS⟩ rfl rfl hl.1 rfl (lv_room (Nat.le_of_ble_eq_true rfl)) dL_law_264 ⟨(show cn + 0 ≤ 679936 by omega), (show sn + 0 ≤ 7061659 by omega)⟩) hS (fun q h1 h2 => absurd h2 (Nat.not_le.mpr h1)) (fun q h => hA q (Nat.le_trans hS.1 h)) (fun r9 u9 t9 H1 locs ht hvm hw hB hz1 hk1 hS => ?_)
    have hw2 := hw
    obtain ⟨hmk, hr9⟩ := hw2
    have hr9 : r9 = nI u9 := hr9
    subst hr9
    obtain ⟨mk, emk⟩ : ∃ z : Nat, z = u9 := ⟨_, rfl⟩
    subst emk
    have hP := zr_keep hP hk1
    clear hk1 hz1 hB ht hvm hw
    refine lv_istore (lv' := [(11, .int (nI mk)), (7, .int (nI n)), (10, .int (nI ct)), (9, .int (nI al)), (8, .int (nI (2 + j1))), (0, .ref b), (1, .ref o), (2, .int 1), (3, .int (nI nc)), (4, .int (nI i)), (5, .int (nI kd)), (6, .ref a3)]) hx hb dL_law_267 hl (by decide) rfl (fun ls hl => ?_)
    refine lv_iconst (v := 0) hx hb dL_law_269 (by decide) ?_
    refine lv_istore (lv' := [(12, .int 0), (11, .int (nI mk)), (7, .int (nI n)), (10, .int (nI ct)), (9, .int (nI al)), (8, .int (nI (2 + j1))), (0, .ref b), (1, .ref o), (2, .int 1), (3, .int (nI nc)), (4, .int (nI i)), (5, .int (nI kd)), (6, .ref a3)]) hx hb dL_law_270 hl (by decide) rfl (fun ls hl => ?_)
    have loop : ∀ (d : Nat) (k : Nat) (fr : Nat → Int32), n + 1 ≤ k + d → k ≤ n → zrw8 fr k → ∀ (H : Heap) (locs : List Loc), va_P (dC, dI) vwCl ([(o, .inr (6, [.ref a0, .int (nI w), .ref a1, .int (nI nc), .null, .int 40, .int 48, .int 0, .ref a2])), (a0, .inl (cI, 64, .inl ft)), (a1, .inl (cC, 4, .inr (.inr (.inr (.inr ad))))), (a3, .inl (cI, 64, .inl fr))] ++ X) H → va_D (zq s.heap.size) ([(o, .inr (6, [.ref a0, .int (nI w), .ref a1, .int (nI nc), .null, .int 40, .int 48, .int 0, .ref a2])), (a0, .inl (cI, 64, .inl ft)), (a1, .inl (cC, 4, .inr (.inr (.inr (.inr ad))))), (a3, .inl (cI, 64, .inl fr))] ++ X) → va_S (zq s.heap.size) s.heap H locs → ∀ ls : Array Slot, lv_has ls 19 [(0, .ref b), (1, .ref o), (2, .int 1), (3, .int (nI nc)), (4, .int (nI i)), (5, .int (nI kd)), (6, .ref a3), (7, .int (nI n)), (9, .int (nI al)), (11, .int (nI mk)), (12, .int (nI k))] → W p l e room_1 s m #[Value.ref b] below meth c H locs cn sn Q (F0 m 272 ls []) := by
      intro d
      induction d with
      | zero => intro k fr hd hk h8; exact absurd hd (by omega)
      | succ d ih =>
        intro k fr hd hk h8 H locs hP hD hS ls hl
        refine lv_iload hx hb dL_law_272 (lv_at hl 10 rfl) ?_
        refine lv_iload hx hb dL_law_274 (lv_at hl 7 rfl) ?_
        refine lv_icmp_ge (tgt := 324) hx hb dL_law_276 (by decide) (fun c276 => ?_) (fun c276 => ?_)
        · skip
          have hkn : k = n := Nat.le_antisymm hk ((nI_leI (by omega) (by omega)).mp c276)
          rw [hkn] at h8
          refine lv_iload hx hb dL_law_324 (lv_at hl 5 rfl) ?_
          refine lv_iconst (v := 3) hx hb dL_law_326 (by decide) ?_
          refine lv_icmp_ne (tgt := 360) hx hb dL_law_327 (by decide) (fun c327 => ?_) (fun c327 => ?_)
          · skip
            exact kk n _ _ _ hn4 hn16 h8 hP hD hS ls (lv_sub hl [0, 1, 2, 3, 4, 6, 7] rfl)
          · skip
            refine lv_aload hx hb dL_law_330 (lv_at hl 6 rfl) ?_
            refine lv_aload_n hx hb dL_law_332 rfl (lv_at hl 0 rfl) ?_
            refine lv_bipush (v := 50) hx hb dL_law_333 (by decide) ?_
            refine lv_iload hx hb dL_law_335 (lv_at hl 4 rfl) ?_
            refine lv_iadd hx hb dL_law_337 ?_
            refine zt_top (y := nI (50 + i)) (nI_add 50 i) ?_
            refine lv_iload hx hb dL_law_338 (lv_at hl 7 rfl) ?_
            refine va_calli (va_runS (As := [.ref b, .int (nI (50 + i)), .int (nI n)]) (rest := [.ref a3]) ⟨hx, hb, hml, hown, hts⟩ (k_in l H.size b L xs (50 + i) n hL260 (by omega) (by omega) (by omega)) (va_cwS 3 hts gL_law_L_in rfl rfl rfl (by decide +kernel) ⟨Nat.le_of_ble_eq_true rfl, Nat.le_of_ble_eq_true rfl⟩) ⟨zfbS, zpreS hX hbl hS⟩ rfl rfl hl.1 rfl (lv_room (Nat.le_of_ble_eq_true rfl)) dL_law_340 ⟨(show cn + 0 ≤ 679936 by omega), (show sn + 0 ≤ 7061659 by omega)⟩) hS (fun q h1 h2 => absurd h2 (Nat.not_le.mpr h1)) (fun q h => hA q (Nat.le_trans hS.1 h)) (fun r9 u9 t9 H1 locs ht hvm hw hB hz1 hk1 hS => ?_)
            have hw2 := hw
            obtain ⟨hj5, hr9⟩ := hw2
            have hr9 : r9 = nI u9 := hr9
            subst hr9
            obtain ⟨j5, ej5⟩ : ∃ z : Nat, z = u9 := ⟨_, rfl⟩
            subst ej5
            have hP := zr_keep hP hk1
            clear hk1 hz1 hB ht hvm hw
            refine lv_dup2_11 hx hb dL_law_343 rfl rfl ?_
            refine va_iald hx hb hK hP 3 0 rfl rfl (vp_in_nI (by omega) (by decide)) dL_law_344 ?_
            refine zt_top (y := fr j5) (by rw [nI_clamp (by omega)]) ?_
            refine lv_iconst (v := 1) hx hb dL_law_345 (by decide) ?_
            refine lv_aload_n hx hb dL_law_346 rfl (lv_at hl 0 rfl) ?_
            refine lv_bipush (v := 60) hx hb dL_law_347 (by decide) ?_
            refine lv_iload hx hb dL_law_349 (lv_at hl 4 rfl) ?_
            refine lv_iadd hx hb dL_law_351 ?_
            refine zt_top (y := nI (60 + i)) (nI_add 60 i) ?_
            refine lv_bipush (v := 8) hx hb dL_law_352 (by decide) ?_
            refine zt_top (y := nI 8) (rfl) ?_
            refine va_calli (va_runS (As := [.ref b, .int (nI (60 + i)), .int (nI 8)]) (rest := [.int 1, .int (fr j5), .int (nI j5), .ref a3]) ⟨hx, hb, hml, hown, hts⟩ (k_in l H1.size b L xs (60 + i) 8 hL260 (by omega) (by omega) (by omega)) (va_cwS 3 hts gL_law_L_in rfl rfl rfl (by decide +kernel) ⟨Nat.le_of_ble_eq_true rfl, Nat.le_of_ble_eq_true rfl⟩) ⟨zfbS, zpreS hX hbl hS⟩ rfl rfl hl.1 rfl (lv_room (Nat.le_of_ble_eq_true rfl)) dL_law_354 ⟨(show cn + 0 ≤ 679936 by omega), (show sn + 0 ≤ 7061659 by omega)⟩) hS (fun q h1 h2 => absurd h2 (Nat.not_le.mpr h1)) (fun q h => hA q (Nat.le_trans hS.1 h)) (fun r9 u9 t9 H1 locs ht hvm hw hB hz1 hk1 hS => ?_)
            have hw2 := hw
            obtain ⟨hj6, hr9⟩ := hw2
            have hr9 : r9 = nI u9 := hr9
            subst hr9
            obtain ⟨j6, ej6⟩ : ∃ z : Nat, z = u9 := ⟨_, rfl⟩
            subst ej6
            obtain ⟨v5, hv5, ev5⟩ := h8 j5 hj5
            have hP := zr_keep hP hk1
            clear hk1 hz1 hB ht hvm hw
            refine lv_ishl hx hb dL_law_357 ?_
            refine zt_top (y := nI (2 ^ j6)) (zbit8 _ hj6) ?_
            refine lv_ixor hx hb dL_law_358 ?_
            refine zt_top (y := nI (v5 ^^^ 2 ^ j6)) (by rw [ev5]; exact nx_xor _ _) ?_
            refine va_iast hx hb hK hP hD hS 3 0 rfl rfl (vp_in_nI (by omega) (by decide)) dL_law_359 (fun H locs hP hD hS => ?_)
            have hP : va_P (dC, dI) vwCl ([(o, .inr (6, [.ref a0, .int (nI w), .ref a1, .int (nI nc), .null, .int 40, .int 48, .int 0, .ref a2])), (a0, .inl (cI, 64, .inl ft)), (a1, .inl (cC, 4, .inr (.inr (.inr (.inr ad))))), (a3, .inl (cI, 64, .inl (upd fr (nI j5).toNatClampNeg (nI (v5 ^^^ 2 ^ j6)))))] ++ X) H := hP
            have hD : va_D (zq s.heap.size) ([(o, .inr (6, [.ref a0, .int (nI w), .ref a1, .int (nI nc), .null, .int 40, .int 48, .int 0, .ref a2])), (a0, .inl (cI, 64, .inl ft)), (a1, .inl (cC, 4, .inr (.inr (.inr (.inr ad))))), (a3, .inl (cI, 64, .inl (upd fr (nI j5).toNatClampNeg (nI (v5 ^^^ 2 ^ j6)))))] ++ X) := hD
            rw [nI_clamp (by omega)] at hP hD
            have hP : va_P (dC, dI) vwCl ([(o, .inr (6, [.ref a0, .int (nI w), .ref a1, .int (nI nc), .null, .int 40, .int 48, .int 0, .ref a2])), (a0, .inl (cI, 64, .inl ft)), (a1, .inl (cC, 4, .inr (.inr (.inr (.inr ad))))), (a3, .inl (cI, 64, .inl (upd fr j5 (nI (v5 ^^^ 2 ^ j6)))))] ++ X) H := hP
            have hD : va_D (zq s.heap.size) ([(o, .inr (6, [.ref a0, .int (nI w), .ref a1, .int (nI nc), .null, .int 40, .int 48, .int 0, .ref a2])), (a0, .inl (cI, 64, .inl ft)), (a1, .inl (cC, 4, .inr (.inr (.inr (.inr ad))))), (a3, .inl (cI, 64, .inl (upd fr j5 (nI (v5 ^^^ 2 ^ j6)))))] ++ X) := hD
            have h8 := zrw8_u (p := j5) h8 (zxor8 hv5 (zbit8_lt _ hj6))
            exact kk n _ _ _ hn4 hn16 h8 hP hD hS ls (lv_sub hl [0, 1, 2, 3, 4, 6, 7] rfl)
        · skip
          have hkn : k < n := Nat.lt_of_not_le (fun q => c276 ((nI_leI (by omega) (by omega)).mpr q))
          refine lv_iload hx hb dL_law_279 (lv_at hl 10 rfl) ?_
          refine lv_iload hx hb dL_law_281 (lv_at hl 7 rfl) ?_
          refine lv_iconst (v := 2) hx hb dL_law_283 (by decide) ?_
          refine lv_idiv hx hb dL_law_284 (by decide) ?_
          refine zt_top (y := nI (n / 2)) (pk_div (d := 2) (by omega) (by decide) (by decide)) ?_
          refine lv_icmp_ge (tgt := 293) hx hb dL_law_285 (by decide) (fun c285 => ?_) (fun c285 => ?_)
          · skip
            refine lv_iload hx hb dL_law_293 (lv_at hl 8 rfl) ?_
            refine lv_iload hx hb dL_law_295 (lv_at hl 7 rfl) ?_
            refine lv_isub hx hb dL_law_297 ?_
            refine zt_top (y := nI (al - n)) (pk_sub (by omega)) ?_
            refine lv_iload hx hb dL_law_298 (lv_at hl 10 rfl) ?_
            refine lv_iadd hx hb dL_law_300 ?_
            refine zt_top (y := nI (al - n + k)) (nI_add _ _) ?_
            obtain ⟨pt, hpt0⟩ : ∃ z : Nat, z = al - n + k := ⟨_, rfl⟩
            refine zt_top (y := nI pt) (by rw [hpt0]) ?_
            have hpt : pt < 16 := by omega
            refine lv_istore (lv' := [(13, .int (nI pt)), (0, .ref b), (1, .ref o), (2, .int 1), (3, .int (nI nc)), (4, .int (nI i)), (5, .int (nI kd)), (6, .ref a3), (7, .int (nI n)), (9, .int (nI al)), (11, .int (nI mk)), (12, .int (nI k))]) hx hb dL_law_301 hl (by decide) rfl (fun ls hl => ?_)
            refine lv_aload hx hb dL_law_303 (lv_at hl 7 rfl) ?_
            refine lv_iload hx hb dL_law_305 (lv_at hl 11 rfl) ?_
            refine lv_iload hx hb dL_law_307 (lv_at hl 0 rfl) ?_
            refine lv_iload hx hb dL_law_309 (lv_at hl 0 rfl) ?_
            refine lv_iconst (v := 1) hx hb dL_law_311 (by decide) ?_
            refine lv_ishr hx hb dL_law_312 ?_
            refine zt_top (y := nI (pt / 2)) (zshr1 (by omega)) ?_
            refine lv_ixor hx hb dL_law_313 ?_
            refine zt_top (y := nI (pt ^^^ pt / 2)) (nx_xor _ _) ?_
            refine lv_iload hx hb dL_law_314 (lv_at hl 10 rfl) ?_
            refine lv_ixor hx hb dL_law_316 ?_
            refine zt_top (y := nI (pt ^^^ pt / 2 ^^^ mk)) (nx_xor _ _) ?_
            refine va_iast hx hb hK hP hD hS 3 0 rfl rfl (vp_in_nI (by omega) (by decide)) dL_law_317 (fun H locs hP hD hS => ?_)
            have hP : va_P (dC, dI) vwCl ([(o, .inr (6, [.ref a0, .int (nI w), .ref a1, .int (nI nc), .null, .int 40, .int 48, .int 0, .ref a2])), (a0, .inl (cI, 64, .inl ft)), (a1, .inl (cC, 4, .inr (.inr (.inr (.inr ad))))), (a3, .inl (cI, 64, .inl (upd fr (nI k).toNatClampNeg (nI (pt ^^^ pt / 2 ^^^ mk)))))] ++ X) H := hP
            have hD : va_D (zq s.heap.size) ([(o, .inr (6, [.ref a0, .int (nI w), .ref a1, .int (nI nc), .null, .int 40, .int 48, .int 0, .ref a2])), (a0, .inl (cI, 64, .inl ft)), (a1, .inl (cC, 4, .inr (.inr (.inr (.inr ad))))), (a3, .inl (cI, 64, .inl (upd fr (nI k).toNatClampNeg (nI (pt ^^^ pt / 2 ^^^ mk)))))] ++ X) := hD
            rw [nI_clamp (by omega)] at hP hD
            have hP : va_P (dC, dI) vwCl ([(o, .inr (6, [.ref a0, .int (nI w), .ref a1, .int (nI nc), .null, .int 40, .int 48, .int 0, .ref a2])), (a0, .inl (cI, 64, .inl ft)), (a1, .inl (cC, 4, .inr (.inr (.inr (.inr ad))))), (a3, .inl (cI, 64, .inl (upd fr k (nI (pt ^^^ pt / 2 ^^^ mk)))))] ++ X) H := hP
            have hD : va_D (zq s.heap.size) ([(o, .inr (6, [.ref a0, .int (nI w), .ref a1, .int (nI nc), .null, .int 40, .int 48, .int 0, .ref a2])), (a0, .inl (cI, 64, .inl ft)), (a1, .inl (cC, 4, .inr (.inr (.inr (.inr ad))))), (a3, .inl (cI, 64, .inl (upd fr k (nI (pt ^^^ pt / 2 ^^^ mk)))))] ++ X) := hD
            have h82 : zrw8 (upd fr k (nI (pt ^^^ pt / 2 ^^^ mk))) (k + 1) := zrw8_s h8 (zxor8 (zxor8 (by omega) (by omega)) (by omega))
            refine lv_iinc (v := nI (k + 1)) (lv' := [(12, .int (nI (k + 1))), (13, .int (nI pt)), (0, .ref b), (1, .ref o), (2, .int 1), (3, .int (nI nc)), (4, .int (nI i)), (5, .int (nI kd)), (6, .ref a3), (7, .int (nI n)), (9, .int (nI al)), (11, .int (nI mk))]) hx hb dL_law_318 hl (k := 11) rfl (nI_1 k) (by decide) rfl (fun ls hl => ?_)
            refine lv_goto (tgt := 272) hx hb dL_law_321 (by decide) ?_
            exact ih (k + 1) _ (by omega) (by omega) h82 _ _ hP hD hS ls (lv_sub hl [2, 3, 4, 5, 6, 7, 8, 9, 10, 11, 0] rfl)
          · skip
            refine lv_iload hx hb dL_law_288 (lv_at hl 10 rfl) ?_
            obtain ⟨pt, hpt0⟩ : ∃ z : Nat, z = k := ⟨_, rfl⟩
            refine zt_top (y := nI pt) (by rw [hpt0]) ?_
            have hpt : pt < 16 := by omega
            refine lv_goto (tgt := 301) hx hb dL_law_290 (by decide) ?_
            refine lv_istore (lv' := [(13, .int (nI pt)), (0, .ref b), (1, .ref o), (2, .int 1), (3, .int (nI nc)), (4, .int (nI i)), (5, .int (nI kd)), (6, .ref a3), (7, .int (nI n)), (9, .int (nI al)), (11, .int (nI mk)), (12, .int (nI k))]) hx hb dL_law_301 hl (by decide) rfl (fun ls hl => ?_)
            refine lv_aload hx hb dL_law_303 (lv_at hl 7 rfl) ?_
            refine lv_iload hx hb dL_law_305 (lv_at hl 11 rfl) ?_
            refine lv_iload hx hb dL_law_307 (lv_at hl 0 rfl) ?_
            refine lv_iload hx hb dL_law_309 (lv_at hl 0 rfl) ?_
            refine lv_iconst (v := 1) hx hb dL_law_311 (by decide) ?_
            refine lv_ishr hx hb dL_law_312 ?_
            refine zt_top (y := nI (pt / 2)) (zshr1 (by omega)) ?_
            refine lv_ixor hx hb dL_law_313 ?_
            refine zt_top (y := nI (pt ^^^ pt / 2)) (nx_xor _ _) ?_
            refine lv_iload hx hb dL_law_314 (lv_at hl 10 rfl) ?_
            refine lv_ixor hx hb dL_law_316 ?_
            refine zt_top (y := nI (pt ^^^ pt / 2 ^^^ mk)) (nx_xor _ _) ?_
            refine va_iast hx hb hK hP hD hS 3 0 rfl rfl (vp_in_nI (by omega) (by decide)) dL_law_317 (fun H locs hP hD hS => ?_)
            have hP : va_P (dC, dI) vwCl ([(o, .inr (6, [.ref a0, .int (nI w), .ref a1, .int (nI nc), .null, .int 40, .int 48, .int 0, .ref a2])), (a0, .inl (cI, 64, .inl ft)), (a1, .inl (cC, 4, .inr (.inr (.inr (.inr ad))))), (a3, .inl (cI, 64, .inl (upd fr (nI k).toNatClampNeg (nI (pt ^^^ pt / 2 ^^^ mk)))))] ++ X) H := hP
            have hD : va_D (zq s.heap.size) ([(o, .inr (6, [.ref a0, .int (nI w), .ref a1, .int (nI nc), .null, .int 40, .int 48, .int 0, .ref a2])), (a0, .inl (cI, 64, .inl ft)), (a1, .inl (cC, 4, .inr (.inr (.inr (.inr ad))))), (a3, .inl (cI, 64, .inl (upd fr (nI k).toNatClampNeg (nI (pt ^^^ pt / 2 ^^^ mk)))))] ++ X) := hD
            rw [nI_clamp (by omega)] at hP hD
            have hP : va_P (dC, dI) vwCl ([(o, .inr (6, [.ref a0, .int (nI w), .ref a1, .int (nI nc), .null, .int 40, .int 48, .int 0, .ref a2])), (a0, .inl (cI, 64, .inl ft)), (a1, .inl (cC, 4, .inr (.inr (.inr (.inr ad))))), (a3, .inl (cI, 64, .inl (upd fr k (nI (pt ^^^ pt / 2 ^^^ mk)))))] ++ X) H := hP
            have hD : va_D (zq s.heap.size) ([(o, .inr (6, [.ref a0, .int (nI w), .ref a1, .int (nI nc), .null, .int 40, .int 48, .int 0, .ref a2])), (a0, .inl (cI, 64, .inl ft)), (a1, .inl (cC, 4, .inr (.inr (.inr (.inr ad))))), (a3, .inl (cI, 64, .inl (upd fr k (nI (pt ^^^ pt / 2 ^^^ mk)))))] ++ X) := hD
            have h82 : zrw8 (upd fr k (nI (pt ^^^ pt / 2 ^^^ mk))) (k + 1) := zrw8_s h8 (zxor8 (zxor8 (by omega) (by omega)) (by omega))
            refine lv_iinc (v := nI (k + 1)) (lv' := [(12, .int (nI (k + 1))), (13, .int (nI pt)), (0, .ref b), (1, .ref o), (2, .int 1), (3, .int (nI nc)), (4, .int (nI i)), (5, .int (nI kd)), (6, .ref a3), (7, .int (nI n)), (9, .int (nI al)), (11, .int (nI mk))]) hx hb dL_law_318 hl (k := 11) rfl (nI_1 k) (by decide) rfl (fun ls hl => ?_)
            refine lv_goto (tgt := 272) hx hb dL_law_321 (by decide) ?_
            exact ih (k + 1) _ (by omega) (by omega) h82 _ _ hP hD hS ls (lv_sub hl [2, 3, 4, 5, 6, 7, 8, 9, 10, 11, 0] rfl)
    exact loop (n + 1) 0 _ (by omega) (Nat.zero_le _) (fun k hk => absurd hk (Nat.not_lt_zero k)) _ _ hP hD hS ls (lv_sub hl [6, 7, 8, 9, 10, 11, 12, 2, 4, 1, 0] rfl)
  · skip
    refine lv_iconst (v := 0) hx hb dL_law_225 (by decide) ?_
    refine zt_top (y := nI 0) (nI_0.symm) ?_
    refine lv_goto (tgt := 246) hx hb dL_law_226 (by decide) ?_
    obtain ⟨ct, hct0⟩ : ∃ z : Nat, z = 0 := ⟨_, rfl⟩
    have hct : ct + 4 ≤ al := by omega
    refine zt_top (y := nI ct) (by rw [hct0]) ?_
    refine lv_istore (lv' := [(10, .int (nI ct)), (9, .int (nI al)), (8, .int (nI (2 + j1))), (0, .ref b), (1, .ref o), (2, .int 1), (3, .int (nI nc)), (4, .int (nI i)), (5, .int (nI kd)), (6, .ref a3), (7, .int 0)]) hx hb dL_law_246 hl (by decide) rfl (fun ls hl => ?_)
    refine lv_iload hx hb dL_law_248 (lv_at hl 1 rfl) ?_
    refine lv_iload hx hb dL_law_250 (lv_at hl 0 rfl) ?_
    refine lv_isub hx hb dL_law_252 ?_
    refine zt_top (y := nI (al - ct)) (pk_sub (by omega)) ?_
    obtain ⟨n, hnn⟩ : ∃ z : Nat, z = al - ct := ⟨_, rfl⟩
    refine zt_top (y := nI n) (by rw [hnn]) ?_
    have hn4 : 4 ≤ n := by omega
    have hn16 : n ≤ 16 := by omega
    refine lv_istore (lv' := [(7, .int (nI n)), (10, .int (nI ct)), (9, .int (nI al)), (8, .int (nI (2 + j1))), (0, .ref b), (1, .ref o), (2, .int 1), (3, .int (nI nc)), (4, .int (nI i)), (5, .int (nI kd)), (6, .ref a3)]) hx hb dL_law_253 hl (by decide) rfl (fun ls hl => ?_)
    refine lv_aload_n hx hb dL_law_255 rfl (lv_at hl 4 rfl) ?_
    refine lv_bipush (v := 40) hx hb dL_law_256 (by decide) ?_
    refine lv_iload hx hb dL_law_258 (lv_at hl 8 rfl) ?_
    refine lv_iadd hx hb dL_law_260 ?_
    refine zt_top (y := nI (40 + i)) (nI_add 40 i) ?_
    refine lv_sipush (v := 256) hx hb dL_law_261 (by decide) ?_
    refine zt_top (y := nI 256) (rfl) ?_
    refine va_calli (va_runS (As := [.ref b, .int (nI (40 + i)), .int (nI 256)]) (rest := []) ⟨hx, hb, hml, hown, hts⟩ (k_in l H1.size b L xs (40 + i) 256 hL260 (by omega) (by omega) (by omega)) (va_cwS 3 hts gL_law_L_in rfl rfl rfl (by decide +kernel) ⟨Nat.le_of_ble_eq_true rfl, Nat.le_of_ble_eq_true rfl⟩) ⟨zfbS, zpreS hX hbl hS⟩ rfl rfl hl.1 rfl (lv_room (Nat.le_of_ble_eq_true rfl)) dL_law_264 ⟨(show cn + 0 ≤ 679936 by omega), (show sn + 0 ≤ 7061659 by omega)⟩) hS (fun q h1 h2 => absurd h2 (Nat.not_le.mpr h1)) (fun q h => hA q (Nat.le_trans hS.1 h)) (fun r9 u9 t9 H1 locs ht hvm hw hB hz1 hk1 hS => ?_)
    have hw2 := hw
    obtain ⟨hmk, hr9⟩ := hw2
    have hr9 : r9 = nI u9 := hr9
    subst hr9
    obtain ⟨mk, emk⟩ : ∃ z : Nat, z = u9 := ⟨_, rfl⟩
    subst emk
    have hP := zr_keep hP hk1
    clear hk1 hz1 hB ht hvm hw
    refine lv_istore (lv' := [(11, .int (nI mk)), (7, .int (nI n)), (10, .int (nI ct)), (9, .int (nI al)), (8, .int (nI (2 + j1))), (0, .ref b), (1, .ref o), (2, .int 1), (3, .int (nI nc)), (4, .int (nI i)), (5, .int (nI kd)), (6, .ref a3)]) hx hb dL_law_267 hl (by decide) rfl (fun ls hl => ?_)
    refine lv_iconst (v := 0) hx hb dL_law_269 (by decide) ?_
    refine lv_istore (lv' := [(12, .int 0), (11, .int (nI mk)), (7, .int (nI n)), (10, .int (nI ct)), (9, .int (nI al)), (8, .int (nI (2 + j1))), (0, .ref b), (1, .ref o), (2, .int 1), (3, .int (nI nc)), (4, .int (nI i)), (5, .int (nI kd)), (6, .ref a3)]) hx hb dL_law_270 hl (by decide) rfl (fun ls hl => ?_)
    have loop : ∀ (d : Nat) (k : Nat) (fr : Nat → Int32), n + 1 ≤ k + d → k ≤ n → zrw8 fr k → ∀ (H : Heap) (locs : List Loc), va_P (dC, dI) vwCl ([(o, .inr (6, [.ref a0, .int (nI w), .ref a1, .int (nI nc), .null, .int 40, .int 48, .int 0, .ref a2])), (a0, .inl (cI, 64, .inl ft)), (a1, .inl (cC, 4, .inr (.inr (.inr (.inr ad))))), (a3, .inl (cI, 64, .inl fr))] ++ X) H → va_D (zq s.heap.size) ([(o, .inr (6, [.ref a0, .int (nI w), .ref a1, .int (nI nc), .null, .int 40, .int 48, .int 0, .ref a2])), (a0, .inl (cI, 64, .inl ft)), (a1, .inl (cC, 4, .inr (.inr (.inr (.inr ad))))), (a3, .inl (cI, 64, .inl fr))] ++ X) → va_S (zq s.heap.size) s.heap H locs → ∀ ls : Array Slot, lv_has ls 19 [(0, .ref b), (1, .ref o), (2, .int 1), (3, .int (nI nc)), (4, .int (nI i)), (5, .int (nI kd)), (6, .ref a3), (7, .int (nI n)), (9, .int (nI al)), (11, .int (nI mk)), (12, .int (nI k))] → W p l e room_1 s m #[Value.ref b] below meth c H locs cn sn Q (F0 m 272 ls []) := by
      intro d
      induction d with
      | zero => intro k fr hd hk h8; exact absurd hd (by omega)
      | succ d ih =>
        intro k fr hd hk h8 H locs hP hD hS ls hl
        refine lv_iload hx hb dL_law_272 (lv_at hl 10 rfl) ?_
        refine lv_iload hx hb dL_law_274 (lv_at hl 7 rfl) ?_
        refine lv_icmp_ge (tgt := 324) hx hb dL_law_276 (by decide) (fun c276 => ?_) (fun c276 => ?_)
        · skip
          have hkn : k = n := Nat.le_antisymm hk ((nI_leI (by omega) (by omega)).mp c276)
          rw [hkn] at h8
          refine lv_iload hx hb dL_law_324 (lv_at hl 5 rfl) ?_
          refine lv_iconst (v := 3) hx hb dL_law_326 (by decide) ?_
          refine lv_icmp_ne (tgt := 360) hx hb dL_law_327 (by decide) (fun c327 => ?_) (fun c327 => ?_)
          · skip
            exact kk n _ _ _ hn4 hn16 h8 hP hD hS ls (lv_sub hl [0, 1, 2, 3, 4, 6, 7] rfl)
          · skip
            refine lv_aload hx hb dL_law_330 (lv_at hl 6 rfl) ?_
            refine lv_aload_n hx hb dL_law_332 rfl (lv_at hl 0 rfl) ?_
            refine lv_bipush (v := 50) hx hb dL_law_333 (by decide) ?_
            refine lv_iload hx hb dL_law_335 (lv_at hl 4 rfl) ?_
            refine lv_iadd hx hb dL_law_337 ?_
            refine zt_top (y := nI (50 + i)) (nI_add 50 i) ?_
            refine lv_iload hx hb dL_law_338 (lv_at hl 7 rfl) ?_
            refine va_calli (va_runS (As := [.ref b, .int (nI (50 + i)), .int (nI n)]) (rest := [.ref a3]) ⟨hx, hb, hml, hown, hts⟩ (k_in l H.size b L xs (50 + i) n hL260 (by omega) (by omega) (by omega)) (va_cwS 3 hts gL_law_L_in rfl rfl rfl (by decide +kernel) ⟨Nat.le_of_ble_eq_true rfl, Nat.le_of_ble_eq_true rfl⟩) ⟨zfbS, zpreS hX hbl hS⟩ rfl rfl hl.1 rfl (lv_room (Nat.le_of_ble_eq_true rfl)) dL_law_340 ⟨(show cn + 0 ≤ 679936 by omega), (show sn + 0 ≤ 7061659 by omega)⟩) hS (fun q h1 h2 => absurd h2 (Nat.not_le.mpr h1)) (fun q h => hA q (Nat.le_trans hS.1 h)) (fun r9 u9 t9 H1 locs ht hvm hw hB hz1 hk1 hS => ?_)
            have hw2 := hw
            obtain ⟨hj5, hr9⟩ := hw2
            have hr9 : r9 = nI u9 := hr9
            subst hr9
            obtain ⟨j5, ej5⟩ : ∃ z : Nat, z = u9 := ⟨_, rfl⟩
            subst ej5
            have hP := zr_keep hP hk1
            clear hk1 hz1 hB ht hvm hw
            refine lv_dup2_11 hx hb dL_law_343 rfl rfl ?_
            refine va_iald hx hb hK hP 3 0 rfl rfl (vp_in_nI (by omega) (by decide)) dL_law_344 ?_
            refine zt_top (y := fr j5) (by rw [nI_clamp (by omega)]) ?_
            refine lv_iconst (v := 1) hx hb dL_law_345 (by decide) ?_
            refine lv_aload_n hx hb dL_law_346 rfl (lv_at hl 0 rfl) ?_
            refine lv_bipush (v := 60) hx hb dL_law_347 (by decide) ?_
            refine lv_iload hx hb dL_law_349 (lv_at hl 4 rfl) ?_
            refine lv_iadd hx hb dL_law_351 ?_
            refine zt_top (y := nI (60 + i)) (nI_add 60 i) ?_
            refine lv_bipush (v := 8) hx hb dL_law_352 (by decide) ?_
            refine zt_top (y := nI 8) (rfl) ?_
            refine va_calli (va_runS (As := [.ref b, .int (nI (60 + i)), .int (nI 8)]) (rest := [.int 1, .int (fr j5), .int (nI j5), .ref a3]) ⟨hx, hb, hml, hown, hts⟩ (k_in l H1.size b L xs (60 + i) 8 hL260 (by omega) (by omega) (by omega)) (va_cwS 3 hts gL_law_L_in rfl rfl rfl (by decide +kernel) ⟨Nat.le_of_ble_eq_true rfl, Nat.le_of_ble_eq_true rfl⟩) ⟨zfbS, zpreS hX hbl hS⟩ rfl rfl hl.1 rfl (lv_room (Nat.le_of_ble_eq_true rfl)) dL_law_354 ⟨(show cn + 0 ≤ 679936 by omega), (show sn + 0 ≤ 7061659 by omega)⟩) hS (fun q h1 h2 => absurd h2 (Nat.not_le.mpr h1)) (fun q h => hA q (Nat.le_trans hS.1 h)) (fun r9 u9 t9 H1 locs ht hvm hw hB hz1 hk1 hS => ?_)
            have hw2 := hw
            obtain ⟨hj6, hr9⟩ := hw2
            have hr9 : r9 = nI u9 := hr9
            subst hr9
            obtain ⟨j6, ej6⟩ : ∃ z : Nat, z = u9 := ⟨_, rfl⟩
            subst ej6
            obtain ⟨v5, hv5, ev5⟩ := h8 j5 hj5
            have hP := zr_keep hP hk1
            clear hk1 hz1 hB ht hvm hw
            refine lv_ishl hx hb dL_law_357 ?_
            refine zt_top (y := nI (2 ^ j6)) (zbit8 _ hj6) ?_
            refine lv_ixor hx hb dL_law_358 ?_
            refine zt_top (y := nI (v5 ^^^ 2 ^ j6)) (by rw [ev5]; exact nx_xor _ _) ?_
            refine va_iast hx hb hK hP hD hS 3 0 rfl rfl (vp_in_nI (by omega) (by decide)) dL_law_359 (fun H locs hP hD hS => ?_)
            have hP : va_P (dC, dI) vwCl ([(o, .inr (6, [.ref a0, .int (nI w), .ref a1, .int (nI nc), .null, .int 40, .int 48, .int 0, .ref a2])), (a0, .inl (cI, 64, .inl ft)), (a1, .inl (cC, 4, .inr (.inr (.inr (.inr ad))))), (a3, .inl (cI, 64, .inl (upd fr (nI j5).toNatClampNeg (nI (v5 ^^^ 2 ^ j6)))))] ++ X) H := hP
            have hD : va_D (zq s.heap.size) ([(o, .inr (6, [.ref a0, .int (nI w), .ref a1, .int (nI nc), .null, .int 40, .int 48, .int 0, .ref a2])), (a0, .inl (cI, 64, .inl ft)), (a1, .inl (cC, 4, .inr (.inr (.inr (.inr ad))))), (a3, .inl (cI, 64, .inl (upd fr (nI j5).toNatClampNeg (nI (v5 ^^^ 2 ^ j6)))))] ++ X) := hD
            rw [nI_clamp (by omega)] at hP hD
            have hP : va_P (dC, dI) vwCl ([(o, .inr (6, [.ref a0, .int (nI w), .ref a1, .int (nI nc), .null, .int 40, .int 48, .int 0, .ref a2])), (a0, .inl (cI, 64, .inl ft)), (a1, .inl (cC, 4, .inr (.inr (.inr (.inr ad))))), (a3, .inl (cI, 64, .inl (upd fr j5 (nI (v5 ^^^ 2 ^ j6)))))] ++ X) H := hP
            have hD : va_D (zq s.heap.size) ([(o, .inr (6, [.ref a0, .int (nI w), .ref a1, .int (nI nc), .null, .int 40, .int 48, .int 0, .ref a2])), (a0, .inl (cI, 64, .inl ft)), (a1, .inl (cC, 4, .inr (.inr (.inr (.inr ad))))), (a3, .inl (cI, 64, .inl (upd fr j5 (nI (v5 ^^^ 2 ^ j6)))))] ++ X) := hD
            have h8 := zrw8_u (p := j5) h8 (zxor8 hv5 (zbit8_lt _ hj6))
            exact kk n _ _ _ hn4 hn16 h8 hP hD hS ls (lv_sub hl [0, 1, 2, 3, 4, 6, 7] rfl)
        · skip
          have hkn : k < n := Nat.lt_of_not_le (fun q => c276 ((nI_leI (by omega) (by omega)).mpr q))
          refine lv_iload hx hb dL_law_279 (lv_at hl 10 rfl) ?_
          refine lv_iload hx hb dL_law_281 (lv_at hl 7 rfl) ?_
          refine lv_iconst (v := 2) hx hb dL_law_283 (by decide) ?_
          refine lv_idiv hx hb dL_law_284 (by decide) ?_
          refine zt_top (y := nI (n / 2)) (pk_div (d := 2) (by omega) (by decide) (by decide)) ?_
          refine lv_icmp_ge (tgt := 293) hx hb dL_law_285 (by decide) (fun c285 => ?_) (fun c285 => ?_)
          · skip
            refine lv_iload hx hb dL_law_293 (lv_at hl 8 rfl) ?_
            refine lv_iload hx hb dL_law_295 (lv_at hl 7 rfl) ?_
            refine lv_isub hx hb dL_law_297 ?_
            refine zt_top (y := nI (al - n)) (pk_sub (by omega)) ?_
            refine lv_iload hx hb dL_law_298 (lv_at hl 10 rfl) ?_
            refine lv_iadd hx hb dL_law_300 ?_
            refine zt_top (y := nI (al - n + k)) (nI_add _ _) ?_
            obtain ⟨pt, hpt0⟩ : ∃ z : Nat, z = al - n + k := ⟨_, rfl⟩
            refine zt_top (y := nI pt) (by rw [hpt0]) ?_
            have hpt : pt < 16 := by omega
            refine lv_istore (lv' := [(13, .int (nI pt)), (0, .ref b), (1, .ref o), (2, .int 1), (3, .int (nI nc)), (4, .int (nI i)), (5, .int (nI kd)), (6, .ref a3), (7, .int (nI n)), (9, .int (nI al)), (11, .int (nI mk)), (12, .int (nI k))]) hx hb dL_law_301 hl (by decide) rfl (fun ls hl => ?_)
            refine lv_aload hx hb dL_law_303 (lv_at hl 7 rfl) ?_
            refine lv_iload hx hb dL_law_305 (lv_at hl 11 rfl) ?_
            refine lv_iload hx hb dL_law_307 (lv_at hl 0 rfl) ?_
            refine lv_iload hx hb dL_law_309 (lv_at hl 0 rfl) ?_
            refine lv_iconst (v := 1) hx hb dL_law_311 (by decide) ?_
            refine lv_ishr hx hb dL_law_312 ?_
            refine zt_top (y := nI (pt / 2)) (zshr1 (by omega)) ?_
            refine lv_ixor hx hb dL_law_313 ?_
            refine zt_top (y := nI (pt ^^^ pt / 2)) (nx_xor _ _) ?_
            refine lv_iload hx hb dL_law_314 (lv_at hl 10 rfl) ?_
            refine lv_ixor hx hb dL_law_316 ?_
            refine zt_top (y := nI (pt ^^^ pt / 2 ^^^ mk)) (nx_xor _ _) ?_
            refine va_iast hx hb hK hP hD hS 3 0 rfl rfl (vp_in_nI (by omega) (by decide)) dL_law_317 (fun H locs hP hD hS => ?_)
            have hP : va_P (dC, dI) vwCl ([(o, .inr (6, [.ref a0, .int (nI w), .ref a1, .int (nI nc), .null, .int 40, .int 48, .int 0, .ref a2])), (a0, .inl (cI, 64, .inl ft)), (a1, .inl (cC, 4, .inr (.inr (.inr (.inr ad))))), (a3, .inl (cI, 64, .inl (upd fr (nI k).toNatClampNeg (nI (pt ^^^ pt / 2 ^^^ mk)))))] ++ X) H := hP
            have hD : va_D (zq s.heap.size) ([(o, .inr (6, [.ref a0, .int (nI w), .ref a1, .int (nI nc), .null, .int 40, .int 48, .int 0, .ref a2])), (a0, .inl (cI, 64, .inl ft)), (a1, .inl (cC, 4, .inr (.inr (.inr (.inr ad))))), (a3, .inl (cI, 64, .inl (upd fr (nI k).toNatClampNeg (nI (pt ^^^ pt / 2 ^^^ mk)))))] ++ X) := hD
            rw [nI_clamp (by omega)] at hP hD
            have hP : va_P (dC, dI) vwCl ([(o, .inr (6, [.ref a0, .int (nI w), .ref a1, .int (nI nc), .null, .int 40, .int 48, .int 0, .ref a2])), (a0, .inl (cI, 64, .inl ft)), (a1, .inl (cC, 4, .inr (.inr (.inr (.inr ad))))), (a3, .inl (cI, 64, .inl (upd fr k (nI (pt ^^^ pt / 2 ^^^ mk)))))] ++ X) H := hP
            have hD : va_D (zq s.heap.size) ([(o, .inr (6, [.ref a0, .int (nI w), .ref a1, .int (nI nc), .null, .int 40, .int 48, .int 0, .ref a2])), (a0, .inl (cI, 64, .inl ft)), (a1, .inl (cC, 4, .inr (.inr (.inr (.inr ad))))), (a3, .inl (cI, 64, .inl (upd fr k (nI (pt ^^^ pt / 2 ^^^ mk)))))] ++ X) := hD
            have h82 : zrw8 (upd fr k (nI (pt ^^^ pt / 2 ^^^ mk))) (k + 1) := zrw8_s h8 (zxor8 (zxor8 (by omega) (by omega)) (by omega))
            refine lv_iinc (v := nI (k + 1)) (lv' := [(12, .int (nI (k + 1))), (13, .int (nI pt)), (0, .ref b), (1, .ref o), (2, .int 1), (3, .int (nI nc)), (4, .int (nI i)), (5, .int (nI kd)), (6, .ref a3), (7, .int (nI n)), (9, .int (nI al)), (11, .int (nI mk))]) hx hb dL_law_318 hl (k := 11) rfl (nI_1 k) (by decide) rfl (fun ls hl => ?_)
            refine lv_goto (tgt := 272) hx hb dL_law_321 (by decide) ?_
            exact ih (k + 1) _ (by omega) (by omega) h82 _ _ hP hD hS ls (lv_sub hl [2, 3, 4, 5, 6, 7, 8, 9, 10, 11, 0] rfl)
          · skip
            refine lv_iload hx hb dL_law_288 (lv_at hl 10 rfl) ?_
            obtain ⟨pt, hpt0⟩ : ∃ z : Nat, z = k := ⟨_, rfl⟩
            refine zt_top (y := nI pt) (by rw [hpt0]) ?_
            have hpt : pt < 16 := by omega
            refine lv_goto (tgt := 301) hx hb dL_law_290 (by decide) ?_
            refine lv_istore (lv' := [(13, .int (nI pt)), (0, .ref b), (1, .ref o), (2, .int 1), (3, .int (nI nc)), (4, .int (nI i)), (5, .int (nI kd)), (6, .ref a3), (7, .int (nI n)), (9, .int (nI al)), (11, .int (nI mk)), (12, .int (nI k))]) hx hb dL_law_301 hl (by decide) rfl (fun ls hl => ?_)
            refine lv_aload hx hb dL_law_303 (lv_at hl 7 rfl) ?_
            refine lv_iload hx hb dL_law_305 (lv_at hl 11 rfl) ?_
            refine lv_iload hx hb dL_law_307 (lv_at hl 0 rfl) ?_
            refine lv_iload hx hb dL_law_309 (lv_at hl 0 rfl) ?_
            refine lv_iconst (v := 1) hx hb dL_law_311 (by decide) ?_
            refine lv_ishr hx hb dL_law_312 ?_
            refine zt_top (y := nI (pt / 2)) (zshr1 (by omega)) ?_
            refine lv_ixor hx hb dL_law_313 ?_
            refine zt_top (y := nI (pt ^^^ pt / 2)) (nx_xor _ _) ?_
            refine lv_iload hx hb dL_law_314 (lv_at hl 10 rfl) ?_
            refine lv_ixor hx hb dL_law_316 ?_
            refine zt_top (y := nI (pt ^^^ pt / 2 ^^^ mk)) (nx_xor _ _) ?_
            refine va_iast hx hb hK hP hD hS 3 0 rfl rfl (vp_in_nI (by omega) (by decide)) dL_law_317 (fun H locs hP hD hS => ?_)
            have hP : va_P (dC, dI) vwCl ([(o, .inr (6, [.ref a0, .int (nI w), .ref a1, .int (nI nc), .null, .int 40, .int 48, .int 0, .ref a2])), (a0, .inl (cI, 64, .inl ft)), (a1, .inl (cC, 4, .inr (.inr (.inr (.inr ad))))), (a3, .inl (cI, 64, .inl (upd fr (nI k).toNatClampNeg (nI (pt ^^^ pt / 2 ^^^ mk)))))] ++ X) H := hP
            have hD : va_D (zq s.heap.size) ([(o, .inr (6, [.ref a0, .int (nI w), .ref a1, .int (nI nc), .null, .int 40, .int 48, .int 0, .ref a2])), (a0, .inl (cI, 64, .inl ft)), (a1, .inl (cC, 4, .inr (.inr (.inr (.inr ad))))), (a3, .inl (cI, 64, .inl (upd fr (nI k).toNatClampNeg (nI (pt ^^^ pt / 2 ^^^ mk)))))] ++ X) := hD
            rw [nI_clamp (by omega)] at hP hD
            have hP : va_P (dC, dI) vwCl ([(o, .inr (6, [.ref a0, .int (nI w), .ref a1, .int (nI nc), .null, .int 40, .int 48, .int 0, .ref a2])), (a0, .inl (cI, 64, .inl ft)), (a1, .inl (cC, 4, .inr (.inr (.inr (.inr ad))))), (a3, .inl (cI, 64, .inl (upd fr k (nI (pt ^^^ pt / 2 ^^^ mk)))))] ++ X) H := hP
            have hD : va_D (zq s.heap.size) ([(o, .inr (6, [.ref a0, .int (nI w), .ref a1, .int (nI nc), .null, .int 40, .int 48, .int 0, .ref a2])), (a0, .inl (cI, 64, .inl ft)), (a1, .inl (cC, 4, .inr (.inr (.inr (.inr ad))))), (a3, .inl (cI, 64, .inl (upd fr k (nI (pt ^^^ pt / 2 ^^^ mk)))))] ++ X) := hD
            have h82 : zrw8 (upd fr k (nI (pt ^^^ pt / 2 ^^^ mk))) (k + 1) := zrw8_s h8 (zxor8 (zxor8 (by omega) (by omega)) (by omega))
            refine lv_iinc (v := nI (k + 1)) (lv' := [(12, .int (nI (k + 1))), (13, .int (nI pt)), (0, .ref b), (1, .ref o), (2, .int 1), (3, .int (nI nc)), (4, .int (nI i)), (5, .int (nI kd)), (6, .ref a3), (7, .int (nI n)), (9, .int (nI al)), (11, .int (nI mk))]) hx hb dL_law_318 hl (k := 11) rfl (nI_1 k) (by decide) rfl (fun ls hl => ?_)
            refine lv_goto (tgt := 272) hx hb dL_law_321 (by decide) ?_
            exact ih (k + 1) _ (by omega) (by omega) h82 _ _ hP hD hS ls (lv_sub hl [2, 3, 4, 5, 6, 7, 8, 9, 10, 11, 0] rfl)
    exact loop (n + 1) 0 _ (by omega) (Nat.zero_le _) (fun k hk => absurd hk (Nat.not_lt_zero k)) _ _ hP hD hS ls (lv_sub hl [6, 7, 8, 9, 10, 11, 12, 2, 4, 1, 0] rfl)


end ZR

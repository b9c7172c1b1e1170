def f_law_D (xs : Nat → Int32) (N : Nat) (V : Mem) (x4 w : Int32) : Option Mem :=
  if w = 0 then f_law_C0 xs N V x4 else
  if w = 1 then f_law_C1 xs N V x4 else
  if w = 2 then f_law_C2 xs N V x4 else
  if w = 3 then f_law_C3 xs N V x4 else
  if w = 4 then f_law_C4 xs N V x4 else
  if w = 5 then f_law_C5 xs N V x4 else
  if w = 6 then f_law_C6 xs N V x4 else
  if w = 7 then f_law_C7 xs N V x4 else
  if w = 8 then f_law_C8 xs N V x4 else
  if w = 9 then f_law_C9 xs N V x4 else
  if w = 10 then f_law_C10 xs N V x4 else
  if w = 11 then f_law_C11 xs N V x4 else
  if w = 12 then f_law_C12 xs N V x4 else
  if w = 13 then f_law_C13 xs N V x4 else
  if w = 14 then f_law_C14 xs N V x4 else
  if w = 15 then f_law_C15 xs N V x4 else
  if w = 16 then f_law_C16 xs N V x4 else
  if w = 17 then f_law_C17 xs N V x4 else
  if w = 18 then f_law_C18 xs N V x4 else
  if w = 19 then f_law_C19 xs N V x4 else
  if w = 20 then f_law_C20 xs N V x4 else
  if w = 21 then f_law_C21 xs N V x4 else
  if w = 22 then f_law_C22 xs N V x4 else
  if w = 23 then f_law_C23 xs N V x4 else
  if w = 24 then f_law_C24 xs N V x4 else
  if w = 25 then f_law_C25 xs N V x4 else
  if w = 26 then f_law_C26 xs N V x4 else
  if w = 27 then f_law_C27 xs N V x4 else
  if w = 28 then f_law_C28 xs N V x4 else
  if w = 29 then f_law_C29 xs N V x4 else
  if w = 30 then f_law_C30 xs N V x4 else
  if w = 31 then f_law_C31 xs N V x4 else
  if w = 32 then f_law_C32 xs N V x4 else
  if w = 33 then f_law_C33 xs N V x4 else
  if w = 34 then f_law_C34 xs N V x4 else
  if w = 35 then f_law_C35 xs N V x4 else
  if w = 36 then f_law_C36 xs N V x4 else
  if w = 37 then f_law_C37 xs N V x4 else
  if w = 38 then f_law_C38 xs N V x4 else
  if w = 39 then f_law_C39 xs N V x4 else
  if w = 40 then f_law_C40 xs N V x4 else
  if w = 41 then f_law_C41 xs N V x4 else
  if w = 42 then f_law_C42 xs N V x4 else
  if w = 43 then f_law_C43 xs N V x4 else
  if w = 44 then f_law_C44 xs N V x4 else
  if w = 45 then f_law_C45 xs N V x4 else
  if w = 46 then f_law_C46 xs N V x4 else
  if w = 47 then f_law_C47 xs N V x4 else
  if w = 48 then f_law_C48 xs N V x4 else
  if w = 49 then f_law_C49 xs N V x4 else
  if w = 50 then f_law_C50 xs N V x4 else
  if w = 51 then f_law_C51 xs N V x4 else
  if w = 52 then f_law_C52 xs N V x4 else
  if w = 53 then f_law_C53 xs N V x4 else
  if w = 54 then f_law_C54 xs N V x4 else
  if w = 55 then f_law_C55 xs N V x4 else
  if w = 56 then f_law_C56 xs N V x4 else
  if w = 57 then f_law_C57 xs N V x4 else
  if w = 58 then f_law_C58 xs N V x4 else
  if w = 59 then f_law_C59 xs N V x4 else
  some V
def f_law_L (xs : Nat → Int32) (N : Nat) : Nat → Mem → Int32 → Option Unit
  | 0, _, _ => none
  | n + 1, V, x4 => if nI N - 4 < x4 then some () else if ib x4 N = true then bv (f_law_D xs N V x4 (xs x4.toNatClampNeg &&& 63)) fun V1 => f_law_L xs N n V1 (x4 + 4) else none
set_option maxRecDepth 100000 in
set_option maxHeartbeats 4000000 in
theorem lw_disp {p : Program} {l : Launch} {e : Env} {s : State} {m : MethodId} {below : List Frame} {meth : Method} {c : Code} {H : Heap} {locs : List Loc} {cells slots : Nat} {Q : State → Prop} {E : En} {ad : Nat → Nat} {V Vz : Mem} {ls : Array Slot} {xs : Nat → Int32} {N b0 : Nat} {x4 w : Int32} (hT : l.stackTraces = false) (hS : SF E) (hFr : Fr E) (hX : Sc E s b0 N xs) (hC : Cx p s m #[Value.ref b0] c meth E "LetterRepositoryLaw" cL_law 9 (some .boolean)) (hf : f_law_D xs N V x4 w = some Vz) (hI : In E ad V s H locs) (hl : lv_has ls 9 [(0, .ref b0), (1, .ref (ad 248)), (2, .ref (ad 253)), (3, .ref (ad 265)), (4, .int x4)]) (h1 : cells + 20 ≤ 601024) (h2 : slots + 1374 ≤ 7293034) (kk : ∀ (H : Heap) (locs : List Loc) (ls : Array Slot), In E ad Vz s H locs → lv_has ls 9 [(0, .ref b0), (1, .ref (ad 248)), (2, .ref (ad 253)), (3, .ref (ad 265)), (4, .int x4)] → W p l e room_1 s m #[Value.ref b0] below meth c H locs (cells + 20) (slots + 1374) Q (F0 m 3519 ls [])) : W p l e room_1 s m #[Value.ref b0] below meth c H locs cells slots Q (F0 m 39 ls [.int w]) := by
  have hx := hC.1
  have hb := hC.2.1
  unfold f_law_D at hf
  rcases Decidable.em (w = 0) with c0 | c0
  · have hf := gt hf c0
    refine lv_tableIn (off := 253) (tgt := 292) hx hb dL_law_39 (by rw [c0]; decide) (by rw [c0]; decide) (by rw [c0]; rfl) (by decide) ?_
    exact lc_0 hT hS hFr hX hC hf hI hl h1 h2 kk
  have hf := gf hf c0
  rcases Decidable.em (w = 1) with c1 | c1
  · have hf := gt hf c1
    refine lv_tableIn (off := 335) (tgt := 374) hx hb dL_law_39 (by rw [c1]; decide) (by rw [c1]; decide) (by rw [c1]; rfl) (by decide) ?_
    exact lc_1 hT hS hFr hX hC hf hI hl h1 h2 kk
  have hf := gf hf c1
  rcases Decidable.em (w = 2) with c2 | c2
  · have hf := gt hf c2
    refine lv_tableIn (off := 391) (tgt := 430) hx hb dL_law_39 (by rw [c2]; decide) (by rw [c2]; decide) (by rw [c2]; rfl) (by decide) ?_
    exact lc_2 hT hS hFr hX hC hf hI hl h1 h2 kk
  have hf := gf hf c2
  rcases Decidable.em (w = 3) with c3 | c3
  · have hf := gt hf c3
    refine lv_tableIn (off := 459) (tgt := 498) hx hb dL_law_39 (by rw [c3]; decide) (by rw [c3]; decide) (by rw [c3]; rfl) (by decide) ?_
    exact lc_3 hT hS hFr hX hC hf hI hl h1 h2 kk
  have hf := gf hf c3
  rcases Decidable.em (w = 4) with c4 | c4
  · have hf := gt hf c4
    refine lv_tableIn (off := 515) (tgt := 554) hx hb dL_law_39 (by rw [c4]; decide) (by rw [c4]; decide) (by rw [c4]; rfl) (by decide) ?_
    exact lc_4 hT hS hFr hX hC hf hI hl h1 h2 kk
  have hf := gf hf c4
  rcases Decidable.em (w = 5) with c5 | c5
  · have hf := gt hf c5
    refine lv_tableIn (off := 571) (tgt := 610) hx hb dL_law_39 (by rw [c5]; decide) (by rw [c5]; decide) (by rw [c5]; rfl) (by decide) ?_
    exact lc_5 hT hS hFr hX hC hf hI hl h1 h2 kk
  have hf := gf hf c5
  rcases Decidable.em (w = 6) with c6 | c6
  · have hf := gt hf c6
    refine lv_tableIn (off := 639) (tgt := 678) hx hb dL_law_39 (by rw [c6]; decide) (by rw [c6]; decide) (by rw [c6]; rfl) (by decide) ?_
    exact lc_6 hT hS hFr hX hC hf hI hl h1 h2 kk
  have hf := gf hf c6
  rcases Decidable.em (w = 7) with c7 | c7
  · have hf := gt hf c7
    refine lv_tableIn (off := 735) (tgt := 774) hx hb dL_law_39 (by rw [c7]; decide) (by rw [c7]; decide) (by rw [c7]; rfl) (by decide) ?_
    exact lc_7 hT hS hFr hX hC hf hI hl h1 h2 kk
  have hf := gf hf c7
  rcases Decidable.em (w = 8) with c8 | c8
  · have hf := gt hf c8
    refine lv_tableIn (off := 803) (tgt := 842) hx hb dL_law_39 (by rw [c8]; decide) (by rw [c8]; decide) (by rw [c8]; rfl) (by decide) ?_
    exact lc_8 hT hS hFr hX hC hf hI hl h1 h2 kk
  have hf := gf hf c8
  rcases Decidable.em (w = 9) with c9 | c9
  · have hf := gt hf c9
    refine lv_tableIn (off := 871) (tgt := 910) hx hb dL_law_39 (by rw [c9]; decide) (by rw [c9]; decide) (by rw [c9]; rfl) (by decide) ?_
    exact lc_9 hT hS hFr hX hC hf hI hl h1 h2 kk
  have hf := gf hf c9
  rcases Decidable.em (w = 10) with c10 | c10
  · have hf := gt hf c10
    refine lv_tableIn (off := 941) (tgt := 980) hx hb dL_law_39 (by rw [c10]; decide) (by rw [c10]; decide) (by rw [c10]; rfl) (by decide) ?_
    exact lc_10 hT hS hFr hX hC hf hI hl h1 h2 kk
  have hf := gf hf c10
  rcases Decidable.em (w = 11) with c11 | c11
  · have hf := gt hf c11
    refine lv_tableIn (off := 999) (tgt := 1038) hx hb dL_law_39 (by rw [c11]; decide) (by rw [c11]; decide) (by rw [c11]; rfl) (by decide) ?_
    exact lc_11 hT hS hFr hX hC hf hI hl h1 h2 kk
  have hf := gf hf c11
  rcases Decidable.em (w = 12) with c12 | c12
  · have hf := gt hf c12
    refine lv_tableIn (off := 1012) (tgt := 1051) hx hb dL_law_39 (by rw [c12]; decide) (by rw [c12]; decide) (by rw [c12]; rfl) (by decide) ?_
    exact lc_12 hT hS hFr hX hC hf hI hl h1 h2 kk
  have hf := gf hf c12
  rcases Decidable.em (w = 13) with c13 | c13
  · have hf := gt hf c13
    refine lv_tableIn (off := 1025) (tgt := 1064) hx hb dL_law_39 (by rw [c13]; decide) (by rw [c13]; decide) (by rw [c13]; rfl) (by decide) ?_
    exact lc_13 hT hS hFr hX hC hf hI hl h1 h2 kk
  have hf := gf hf c13
  rcases Decidable.em (w = 14) with c14 | c14
  · have hf := gt hf c14
    refine lv_tableIn (off := 1088) (tgt := 1127) hx hb dL_law_39 (by rw [c14]; decide) (by rw [c14]; decide) (by rw [c14]; rfl) (by decide) ?_
    exact lc_14 hT hS hFr hX hC hf hI hl h1 h2 kk
  have hf := gf hf c14
  rcases Decidable.em (w = 15) with c15 | c15
  · have hf := gt hf c15
    refine lv_tableIn (off := 1144) (tgt := 1183) hx hb dL_law_39 (by rw [c15]; decide) (by rw [c15]; decide) (by rw [c15]; rfl) (by decide) ?_
    exact lc_15 hT hS hFr hX hC hf hI hl h1 h2 kk
  have hf := gf hf c15
  rcases Decidable.em (w = 16) with c16 | c16
  · have hf := gt hf c16
    refine lv_tableIn (off := 1200) (tgt := 1239) hx hb dL_law_39 (by rw [c16]; decide) (by rw [c16]; decide) (by rw [c16]; rfl) (by decide) ?_
    exact lc_16 hT hS hFr hX hC hf hI hl h1 h2 kk
  have hf := gf hf c16
  rcases Decidable.em (w = 17) with c17 | c17
  · have hf := gt hf c17
    refine lv_tableIn (off := 1256) (tgt := 1295) hx hb dL_law_39 (by rw [c17]; decide) (by rw [c17]; decide) (by rw [c17]; rfl) (by decide) ?_
    exact lc_17 hT hS hFr hX hC hf hI hl h1 h2 kk
  have hf := gf hf c17
  rcases Decidable.em (w = 18) with c18 | c18
  · have hf := gt hf c18
    refine lv_tableIn (off := 1312) (tgt := 1351) hx hb dL_law_39 (by rw [c18]; decide) (by rw [c18]; decide) (by rw [c18]; rfl) (by decide) ?_
    exact lc_18 hT hS hFr hX hC hf hI hl h1 h2 kk
  have hf := gf hf c18
  rcases Decidable.em (w = 19) with c19 | c19
  · have hf := gt hf c19
    refine lv_tableIn (off := 1380) (tgt := 1419) hx hb dL_law_39 (by rw [c19]; decide) (by rw [c19]; decide) (by rw [c19]; rfl) (by decide) ?_
    exact lc_19 hT hS hFr hX hC hf hI hl h1 h2 kk
  have hf := gf hf c19
  rcases Decidable.em (w = 20) with c20 | c20
  · have hf := gt hf c20
    refine lv_tableIn (off := 1455) (tgt := 1494) hx hb dL_law_39 (by rw [c20]; decide) (by rw [c20]; decide) (by rw [c20]; rfl) (by decide) ?_
    exact lc_20 hT hS hFr hX hC hf hI hl h1 h2 kk
  have hf := gf hf c20
  rcases Decidable.em (w = 21) with c21 | c21
  · have hf := gt hf c21
    refine lv_tableIn (off := 1511) (tgt := 1550) hx hb dL_law_39 (by rw [c21]; decide) (by rw [c21]; decide) (by rw [c21]; rfl) (by decide) ?_
    exact lc_21 hT hS hFr hX hC hf hI hl h1 h2 kk
  have hf := gf hf c21
  rcases Decidable.em (w = 22) with c22 | c22
  · have hf := gt hf c22
    refine lv_tableIn (off := 1579) (tgt := 1618) hx hb dL_law_39 (by rw [c22]; decide) (by rw [c22]; decide) (by rw [c22]; rfl) (by decide) ?_
    exact lc_22 hT hS hFr hX hC hf hI hl h1 h2 kk
  have hf := gf hf c22
  rcases Decidable.em (w = 23) with c23 | c23
  · have hf := gt hf c23
    refine lv_tableIn (off := 1647) (tgt := 1686) hx hb dL_law_39 (by rw [c23]; decide) (by rw [c23]; decide) (by rw [c23]; rfl) (by decide) ?_
    exact lc_23 hT hS hFr hX hC hf hI hl h1 h2 kk
  have hf := gf hf c23
  rcases Decidable.em (w = 24) with c24 | c24
  · have hf := gt hf c24
    refine lv_tableIn (off := 1715) (tgt := 1754) hx hb dL_law_39 (by rw [c24]; decide) (by rw [c24]; decide) (by rw [c24]; rfl) (by decide) ?_
    exact lc_24 hT hS hFr hX hC hf hI hl h1 h2 kk
  have hf := gf hf c24
  rcases Decidable.em (w = 25) with c25 | c25
  · have hf := gt hf c25
    refine lv_tableIn (off := 1783) (tgt := 1822) hx hb dL_law_39 (by rw [c25]; decide) (by rw [c25]; decide) (by rw [c25]; rfl) (by decide) ?_
    exact lc_25 hT hS hFr hX hC hf hI hl h1 h2 kk
  have hf := gf hf c25
  rcases Decidable.em (w = 26) with c26 | c26
  · have hf := gt hf c26
    refine lv_tableIn (off := 1851) (tgt := 1890) hx hb dL_law_39 (by rw [c26]; decide) (by rw [c26]; decide) (by rw [c26]; rfl) (by decide) ?_
    exact lc_26 hT hS hFr hX hC hf hI hl h1 h2 kk
  have hf := gf hf c26
  rcases Decidable.em (w = 27) with c27 | c27
  · have hf := gt hf c27
    refine lv_tableIn (off := 1919) (tgt := 1958) hx hb dL_law_39 (by rw [c27]; decide) (by rw [c27]; decide) (by rw [c27]; rfl) (by decide) ?_
    exact lc_27 hT hS hFr hX hC hf hI hl h1 h2 kk
  have hf := gf hf c27
  rcases Decidable.em (w = 28) with c28 | c28
  · have hf := gt hf c28
    refine lv_tableIn (off := 1975) (tgt := 2014) hx hb dL_law_39 (by rw [c28]; decide) (by rw [c28]; decide) (by rw [c28]; rfl) (by decide) ?_
    exact lc_28 hT hS hFr hX hC hf hI hl h1 h2 kk
  have hf := gf hf c28
  rcases Decidable.em (w = 29) with c29 | c29
  · have hf := gt hf c29
    refine lv_tableIn (off := 1988) (tgt := 2027) hx hb dL_law_39 (by rw [c29]; decide) (by rw [c29]; decide) (by rw [c29]; rfl) (by decide) ?_
    exact lc_29 hT hS hFr hX hC hf hI hl h1 h2 kk
  have hf := gf hf c29
  rcases Decidable.em (w = 30) with c30 | c30
  · have hf := gt hf c30
    refine lv_tableIn (off := 2001) (tgt := 2040) hx hb dL_law_39 (by rw [c30]; decide) (by rw [c30]; decide) (by rw [c30]; rfl) (by decide) ?_
    exact lc_30 hT hS hFr hX hC hf hI hl h1 h2 kk
  have hf := gf hf c30
  rcases Decidable.em (w = 31) with c31 | c31
  · have hf := gt hf c31
    refine lv_tableIn (off := 2057) (tgt := 2096) hx hb dL_law_39 (by rw [c31]; decide) (by rw [c31]; decide) (by rw [c31]; rfl) (by decide) ?_
    exact lc_31 hT hS hFr hX hC hf hI hl h1 h2 kk
  have hf := gf hf c31
  rcases Decidable.em (w = 32) with c32 | c32
  · have hf := gt hf c32
    refine lv_tableIn (off := 2125) (tgt := 2164) hx hb dL_law_39 (by rw [c32]; decide) (by rw [c32]; decide) (by rw [c32]; rfl) (by decide) ?_
    exact lc_32 hT hS hFr hX hC hf hI hl h1 h2 kk
  have hf := gf hf c32
  rcases Decidable.em (w = 33) with c33 | c33
  · have hf := gt hf c33
    refine lv_tableIn (off := 2200) (tgt := 2239) hx hb dL_law_39 (by rw [c33]; decide) (by rw [c33]; decide) (by rw [c33]; rfl) (by decide) ?_
    exact lc_33 hT hS hFr hX hC hf hI hl h1 h2 kk
  have hf := gf hf c33
  rcases Decidable.em (w = 34) with c34 | c34
  · have hf := gt hf c34
    refine lv_tableIn (off := 2256) (tgt := 2295) hx hb dL_law_39 (by rw [c34]; decide) (by rw [c34]; decide) (by rw [c34]; rfl) (by decide) ?_
    exact lc_34 hT hS hFr hX hC hf hI hl h1 h2 kk
  have hf := gf hf c34
  rcases Decidable.em (w = 35) with c35 | c35
  · have hf := gt hf c35
    refine lv_tableIn (off := 2312) (tgt := 2351) hx hb dL_law_39 (by rw [c35]; decide) (by rw [c35]; decide) (by rw [c35]; rfl) (by decide) ?_
    exact lc_35 hT hS hFr hX hC hf hI hl h1 h2 kk
  have hf := gf hf c35
  rcases Decidable.em (w = 36) with c36 | c36
  · have hf := gt hf c36
    refine lv_tableIn (off := 2380) (tgt := 2419) hx hb dL_law_39 (by rw [c36]; decide) (by rw [c36]; decide) (by rw [c36]; rfl) (by decide) ?_
    exact lc_36 hT hS hFr hX hC hf hI hl h1 h2 kk
  have hf := gf hf c36
  rcases Decidable.em (w = 37) with c37 | c37
  · have hf := gt hf c37
    refine lv_tableIn (off := 2460) (tgt := 2499) hx hb dL_law_39 (by rw [c37]; decide) (by rw [c37]; decide) (by rw [c37]; rfl) (by decide) ?_
    exact lc_37 hT hS hFr hX hC hf hI hl h1 h2 kk
  have hf := gf hf c37
  rcases Decidable.em (w = 38) with c38 | c38
  · have hf := gt hf c38
    refine lv_tableIn (off := 2535) (tgt := 2574) hx hb dL_law_39 (by rw [c38]; decide) (by rw [c38]; decide) (by rw [c38]; rfl) (by decide) ?_
    exact lc_38 hT hS hFr hX hC hf hI hl h1 h2 kk
  have hf := gf hf c38
  rcases Decidable.em (w = 39) with c39 | c39
  · have hf := gt hf c39
    refine lv_tableIn (off := 2615) (tgt := 2654) hx hb dL_law_39 (by rw [c39]; decide) (by rw [c39]; decide) (by rw [c39]; rfl) (by decide) ?_
    exact lc_39 hT hS hFr hX hC hf hI hl h1 h2 kk
  have hf := gf hf c39
  rcases Decidable.em (w = 40) with c40 | c40
  · have hf := gt hf c40
    refine lv_tableIn (off := 2690) (tgt := 2729) hx hb dL_law_39 (by rw [c40]; decide) (by rw [c40]; decide) (by rw [c40]; rfl) (by decide) ?_
    exact lc_40 hT hS hFr hX hC hf hI hl h1 h2 kk
  have hf := gf hf c40
  rcases Decidable.em (w = 41) with c41 | c41
  · have hf := gt hf c41
    refine lv_tableIn (off := 2703) (tgt := 2742) hx hb dL_law_39 (by rw [c41]; decide) (by rw [c41]; decide) (by rw [c41]; rfl) (by decide) ?_
    exact lc_41 hT hS hFr hX hC hf hI hl h1 h2 kk
  have hf := gf hf c41
  rcases Decidable.em (w = 42) with c42 | c42
  · have hf := gt hf c42
    refine lv_tableIn (off := 2761) (tgt := 2800) hx hb dL_law_39 (by rw [c42]; decide) (by rw [c42]; decide) (by rw [c42]; rfl) (by decide) ?_
    exact lc_42 hT hS hFr hX hC hf hI hl h1 h2 kk
  have hf := gf hf c42
  rcases Decidable.em (w = 43) with c43 | c43
  · have hf := gt hf c43
    refine lv_tableIn (off := 2817) (tgt := 2856) hx hb dL_law_39 (by rw [c43]; decide) (by rw [c43]; decide) (by rw [c43]; rfl) (by decide) ?_
    exact lc_43 hT hS hFr hX hC hf hI hl h1 h2 kk
  have hf := gf hf c43
  rcases Decidable.em (w = 44) with c44 | c44
  · have hf := gt hf c44
    refine lv_tableIn (off := 2830) (tgt := 2869) hx hb dL_law_39 (by rw [c44]; decide) (by rw [c44]; decide) (by rw [c44]; rfl) (by decide) ?_
    exact lc_44 hT hS hFr hX hC hf hI hl h1 h2 kk
  have hf := gf hf c44
  rcases Decidable.em (w = 45) with c45 | c45
  · have hf := gt hf c45
    refine lv_tableIn (off := 2843) (tgt := 2882) hx hb dL_law_39 (by rw [c45]; decide) (by rw [c45]; decide) (by rw [c45]; rfl) (by decide) ?_
    exact lc_45 hT hS hFr hX hC hf hI hl h1 h2 kk
  have hf := gf hf c45
  rcases Decidable.em (w = 46) with c46 | c46
  · have hf := gt hf c46
    refine lv_tableIn (off := 2884) (tgt := 2923) hx hb dL_law_39 (by rw [c46]; decide) (by rw [c46]; decide) (by rw [c46]; rfl) (by decide) ?_
    exact lc_46 hT hS hFr hX hC hf hI hl h1 h2 kk
  have hf := gf hf c46
  rcases Decidable.em (w = 47) with c47 | c47
  · have hf := gt hf c47
    refine lv_tableIn (off := 2927) (tgt := 2966) hx hb dL_law_39 (by rw [c47]; decide) (by rw [c47]; decide) (by rw [c47]; rfl) (by decide) ?_
    exact lc_47 hT hS hFr hX hC hf hI hl h1 h2 kk
  have hf := gf hf c47
  rcases Decidable.em (w = 48) with c48 | c48
  · have hf := gt hf c48
    refine lv_tableIn (off := 2940) (tgt := 2979) hx hb dL_law_39 (by rw [c48]; decide) (by rw [c48]; decide) (by rw [c48]; rfl) (by decide) ?_
    exact lc_48 hT hS hFr hX hC hf hI hl h1 h2 kk
  have hf := gf hf c48
  rcases Decidable.em (w = 49) with c49 | c49
  · have hf := gt hf c49
    refine lv_tableIn (off := 2996) (tgt := 3035) hx hb dL_law_39 (by rw [c49]; decide) (by rw [c49]; decide) (by rw [c49]; rfl) (by decide) ?_
    exact lc_49 hT hS hFr hX hC hf hI hl h1 h2 kk
  have hf := gf hf c49
  rcases Decidable.em (w = 50) with c50 | c50
  · have hf := gt hf c50
    refine lv_tableIn (off := 3052) (tgt := 3091) hx hb dL_law_39 (by rw [c50]; decide) (by rw [c50]; decide) (by rw [c50]; rfl) (by decide) ?_
    exact lc_50 hT hS hFr hX hC hf hI hl h1 h2 kk
  have hf := gf hf c50
  rcases Decidable.em (w = 51) with c51 | c51
  · have hf := gt hf c51
    refine lv_tableIn (off := 3120) (tgt := 3159) hx hb dL_law_39 (by rw [c51]; decide) (by rw [c51]; decide) (by rw [c51]; rfl) (by decide) ?_
    exact lc_51 hT hS hFr hX hC hf hI hl h1 h2 kk
  have hf := gf hf c51
  rcases Decidable.em (w = 52) with c52 | c52
  · have hf := gt hf c52
    refine lv_tableIn (off := 3176) (tgt := 3215) hx hb dL_law_39 (by rw [c52]; decide) (by rw [c52]; decide) (by rw [c52]; rfl) (by decide) ?_
    exact lc_52 hT hS hFr hX hC hf hI hl h1 h2 kk
  have hf := gf hf c52
  rcases Decidable.em (w = 53) with c53 | c53
  · have hf := gt hf c53
    refine lv_tableIn (off := 3234) (tgt := 3273) hx hb dL_law_39 (by rw [c53]; decide) (by rw [c53]; decide) (by rw [c53]; rfl) (by decide) ?_
    exact lc_53 hT hS hFr hX hC hf hI hl h1 h2 kk
  have hf := gf hf c53
  rcases Decidable.em (w = 54) with c54 | c54
  · have hf := gt hf c54
    refine lv_tableIn (off := 3278) (tgt := 3317) hx hb dL_law_39 (by rw [c54]; decide) (by rw [c54]; decide) (by rw [c54]; rfl) (by decide) ?_
    exact lc_54 hT hS hFr hX hC hf hI hl h1 h2 kk
  have hf := gf hf c54
  rcases Decidable.em (w = 55) with c55 | c55
  · have hf := gt hf c55
    refine lv_tableIn (off := 3322) (tgt := 3361) hx hb dL_law_39 (by rw [c55]; decide) (by rw [c55]; decide) (by rw [c55]; rfl) (by decide) ?_
    exact lc_55 hT hS hFr hX hC hf hI hl h1 h2 kk
  have hf := gf hf c55
  rcases Decidable.em (w = 56) with c56 | c56
  · have hf := gt hf c56
    refine lv_tableIn (off := 3366) (tgt := 3405) hx hb dL_law_39 (by rw [c56]; decide) (by rw [c56]; decide) (by rw [c56]; rfl) (by decide) ?_
    exact lc_56 hT hS hFr hX hC hf hI hl h1 h2 kk
  have hf := gf hf c56
  rcases Decidable.em (w = 57) with c57 | c57
  · have hf := gt hf c57
    refine lv_tableIn (off := 3379) (tgt := 3418) hx hb dL_law_39 (by rw [c57]; decide) (by rw [c57]; decide) (by rw [c57]; rfl) (by decide) ?_
    exact lc_57 hT hS hFr hX hC hf hI hl h1 h2 kk
  have hf := gf hf c57
  rcases Decidable.em (w = 58) with c58 | c58
  · have hf := gt hf c58
    refine lv_tableIn (off := 3423) (tgt := 3462) hx hb dL_law_39 (by rw [c58]; decide) (by rw [c58]; decide) (by rw [c58]; rfl) (by decide) ?_
    exact lc_58 hT hS hFr hX hC hf hI hl h1 h2 kk
  have hf := gf hf c58
  rcases Decidable.em (w = 59) with c59 | c59
  · have hf := gt hf c59
    refine lv_tableIn (off := 3436) (tgt := 3475) hx hb dL_law_39 (by rw [c59]; decide) (by rw [c59]; decide) (by rw [c59]; rfl) (by decide) ?_
    exact lc_59 hT hS hFr hX hC hf hI hl h1 h2 kk
  have hf := gf hf c59
  have z0 := sw_ne 0 c0
  have z1 := sw_ne 1 c1
  have z2 := sw_ne 2 c2
  have z3 := sw_ne 3 c3
  have z4 := sw_ne 4 c4
  have z5 := sw_ne 5 c5
  have z6 := sw_ne 6 c6
  have z7 := sw_ne 7 c7
  have z8 := sw_ne 8 c8
  have z9 := sw_ne 9 c9
  have z10 := sw_ne 10 c10
  have z11 := sw_ne 11 c11
  have z12 := sw_ne 12 c12
  have z13 := sw_ne 13 c13
  have z14 := sw_ne 14 c14
  have z15 := sw_ne 15 c15
  have z16 := sw_ne 16 c16
  have z17 := sw_ne 17 c17
  have z18 := sw_ne 18 c18
  have z19 := sw_ne 19 c19
  have z20 := sw_ne 20 c20
  have z21 := sw_ne 21 c21
  have z22 := sw_ne 22 c22
  have z23 := sw_ne 23 c23
  have z24 := sw_ne 24 c24
  have z25 := sw_ne 25 c25
  have z26 := sw_ne 26 c26
  have z27 := sw_ne 27 c27
  have z28 := sw_ne 28 c28
  have z29 := sw_ne 29 c29
  have z30 := sw_ne 30 c30
  have z31 := sw_ne 31 c31
  have z32 := sw_ne 32 c32
  have z33 := sw_ne 33 c33
  have z34 := sw_ne 34 c34
  have z35 := sw_ne 35 c35
  have z36 := sw_ne 36 c36
  have z37 := sw_ne 37 c37
  have z38 := sw_ne 38 c38
  have z39 := sw_ne 39 c39
  have z40 := sw_ne 40 c40
  have z41 := sw_ne 41 c41
  have z42 := sw_ne 42 c42
  have z43 := sw_ne 43 c43
  have z44 := sw_ne 44 c44
  have z45 := sw_ne 45 c45
  have z46 := sw_ne 46 c46
  have z47 := sw_ne 47 c47
  have z48 := sw_ne 48 c48
  have z49 := sw_ne 49 c49
  have z50 := sw_ne 50 c50
  have z51 := sw_ne 51 c51
  have z52 := sw_ne 52 c52
  have z53 := sw_ne 53 c53
  have z54 := sw_ne 54 c54
  have z55 := sw_ne 55 c55
  have z56 := sw_ne 56 c56
  have z57 := sw_ne 57 c57
  have z58 := sw_ne 58 c58
  have z59 := sw_ne 59 c59
  refine lv_tableOut (tgt := 3519) hx hb dL_law_39 (by omega) (by decide) ?_
  cases hf
  refine x_wid (c2 := cells + 20) (s2 := slots + 1374) (by omega) (by omega) ?_
  exact kk _ _ _ hI hl
set_option maxRecDepth 100000 in
theorem lw_loop {p : Program} {l : Launch} {e : Env} {s : State} {m : MethodId} {below : List Frame} {meth : Method} {c : Code} {Q : State → Prop} {E : En} {ad : Nat → Nat} {xs : Nat → Int32} {N b0 : Nat} (hT : l.stackTraces = false) (hS : SF E) (hFr : Fr E) (hX : Sc E s b0 N xs) (hC : Cx p s m #[Value.ref b0] c meth E "LetterRepositoryLaw" cL_law 9 (some .boolean))
    (kend : ∀ (V : Mem) (H : Heap) (locs : List Loc) (ls : Array Slot), In E ad V s H locs → W p l e room_1 s m #[Value.ref b0] below meth c H locs 601024 7293034 Q (F0 m 3526 ls [.int 1])) :
    ∀ (n : Nat) (V : Mem) (x4 : Int32) (H : Heap) (locs : List Loc) (ls : Array Slot) (cells slots : Nat), f_law_L xs N n V x4 = some () → cells + 20 * n ≤ 601024 → slots + 1374 * n ≤ 7293034 → In E ad V s H locs → lv_has ls 9 [(0, .ref b0), (1, .ref (ad 248)), (2, .ref (ad 253)), (3, .ref (ad 265)), (4, .int x4)] → W p l e room_1 s m #[Value.ref b0] below meth c H locs cells slots Q (F0 m 23 ls []) := by
  have hx := hC.1
  have hb := hC.2.1
  intro n
  induction n with
  | zero => intro V x4 H locs ls cells slots hf; cases hf
  | succ n ih =>
    intro V x4 H locs ls cells slots hf h1 h2 hI hl
    rw [f_law_L] at hf
    refine lv_iload hx hb dL_law_23 (lv_at hl 4 rfl) ?_
    refine lv_aload_n hx hb dL_law_25 rfl (lv_at hl 0 rfl) ?_
    refine r_scl hC hI hX dL_law_26 ?_
    refine lv_iconst (v := 4) hx hb dL_law_27 rfl ?_
    refine lv_isub hx hb dL_law_28 ?_
    refine lv_icmp_gt (tgt := 3525) hx hb dL_law_29 (by decide) (fun c0 => ?_) (fun c0 => ?_)
    · refine lv_iconst (v := 1) hx hb dL_law_3525 rfl ?_
      refine x_wid (c2 := 601024) (s2 := 7293034) (by omega) (by omega) ?_
      exact kend V H locs ls hI
    · have hf := gf hf c0
      obtain ⟨hi, hf⟩ := gi hf
      refine lv_aload_n hx hb dL_law_32 rfl (lv_at hl 0 rfl) ?_
      refine lv_iload hx hb dL_law_33 (lv_at hl 4 rfl) ?_
      refine r_scr hC hI hX (ib_in hi) dL_law_35 ?_
      refine lv_bipush (v := 63) hx hb dL_law_36 rfl ?_
      refine lv_iand hx hb dL_law_38 ?_
      obtain ⟨V1, q1, hf⟩ := gbv hf
      refine lw_disp hT hS hFr hX hC q1 hI hl (by omega) (by omega) (fun H locs ls hI hl => ?_)
      refine lv_iinc (v := (x4 + 4)) (lv' := [(4, .int (x4 + 4)), (0, .ref b0), (1, .ref (ad 248)), (2, .ref (ad 253)), (3, .ref (ad 265))]) hx hb dL_law_3519 hl (k := 4) rfl rfl (Nat.lt_of_lt_of_eq (by decide) rfl) rfl (fun ls hl => ?_)
      refine lv_goto (tgt := 23) hx hb dL_law_3522 (by decide) ?_
      exact ih V1 (x4 + 4) H locs ls _ _ hf (by omega) (by omega) hI (lv_sub hl [1, 2, 3, 4, 0] rfl)

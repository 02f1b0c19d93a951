section
variable {x : gm_Cx} {G : Gm} {b L i B : Nat} {xs : Nat → Int32}
theorem gl_switch (C : gm_X x cL_law 4 RL (some .boolean) 10) (S : gl_S x b L xs) (hi : i + 4 ≤ L) (hB : B + 1000000 < 2147483647) (hW : WI B G) (K : ∀ G2, WI (B + 500000) G2 → gm_V x G2 1155 (gl_lv x b i) []) : gm_V x G 32 (gl_lv x b i) [.int (xs i &&& 63)] := by
  obtain ⟨k, hk, ek⟩ := gl_and (xs i)
  rw [ek]
  by_cases h : k < 33
  · match k, h with
    | 0, _ => exact gv_tableIn C (nI 0) rfl dL_law_32 (by decide +kernel) (by decide +kernel) (o := 148) (by decide +kernel) 180 (by decide) (gl_c0 C S hi hB hW K)
    | 1, _ => exact gv_tableIn C (nI 1) rfl dL_law_32 (by decide +kernel) (by decide +kernel) (o := 181) (by decide +kernel) 213 (by decide) (gl_c1 C S hi hB hW K)
    | 2, _ => exact gv_tableIn C (nI 2) rfl dL_law_32 (by decide +kernel) (by decide +kernel) (o := 214) (by decide +kernel) 246 (by decide) (gl_c2 C S hi hB hW K)
    | 3, _ => exact gv_tableIn C (nI 3) rfl dL_law_32 (by decide +kernel) (by decide +kernel) (o := 257) (by decide +kernel) 289 (by decide) (gl_c3 C S hi hB hW K)
    | 4, _ => exact gv_tableIn C (nI 4) rfl dL_law_32 (by decide +kernel) (by decide +kernel) (o := 290) (by decide +kernel) 322 (by decide) (gl_c4 C S hi hB hW K)
    | 5, _ => exact gv_tableIn C (nI 5) rfl dL_law_32 (by decide +kernel) (by decide +kernel) (o := 323) (by decide +kernel) 355 (by decide) (gl_c5 C S hi hB hW K)
    | 6, _ => exact gv_tableIn C (nI 6) rfl dL_law_32 (by decide +kernel) (by decide +kernel) (o := 366) (by decide +kernel) 398 (by decide) (gl_c6 C S hi hB hW K)
    | 7, _ => exact gv_tableIn C (nI 7) rfl dL_law_32 (by decide +kernel) (by decide +kernel) (o := 399) (by decide +kernel) 431 (by decide) (gl_c7 C S hi hB hW K)
    | 8, _ => exact gv_tableIn C (nI 8) rfl dL_law_32 (by decide +kernel) (by decide +kernel) (o := 432) (by decide +kernel) 464 (by decide) (gl_c8 C S hi hB hW K)
    | 9, _ => exact gv_tableIn C (nI 9) rfl dL_law_32 (by decide +kernel) (by decide +kernel) (o := 455) (by decide +kernel) 487 (by decide) (gl_c9 C S hi hB hW K)
    | 10, _ => exact gv_tableIn C (nI 10) rfl dL_law_32 (by decide +kernel) (by decide +kernel) (o := 478) (by decide +kernel) 510 (by decide) (gl_c10 C S hi hB hW K)
    | 11, _ => exact gv_tableIn C (nI 11) rfl dL_law_32 (by decide +kernel) (by decide +kernel) (o := 501) (by decide +kernel) 533 (by decide) (gl_c11 C S hi hB hW K)
    | 12, _ => exact gv_tableIn C (nI 12) rfl dL_law_32 (by decide +kernel) (by decide +kernel) (o := 524) (by decide +kernel) 556 (by decide) (gl_c12 C S hi hB hW K)
    | 13, _ => exact gv_tableIn C (nI 13) rfl dL_law_32 (by decide +kernel) (by decide +kernel) (o := 583) (by decide +kernel) 615 (by decide) (gl_c13 C S hi hB hW K)
    | 14, _ => exact gv_tableIn C (nI 14) rfl dL_law_32 (by decide +kernel) (by decide +kernel) (o := 616) (by decide +kernel) 648 (by decide) (gl_c14 C S hi hB hW K)
    | 15, _ => exact gv_tableIn C (nI 15) rfl dL_law_32 (by decide +kernel) (by decide +kernel) (o := 639) (by decide +kernel) 671 (by decide) (gl_c15 C S hi hB hW K)
    | 16, _ => exact gv_tableIn C (nI 16) rfl dL_law_32 (by decide +kernel) (by decide +kernel) (o := 672) (by decide +kernel) 704 (by decide) (gl_c16 C S hi hB hW K)
    | 17, _ => exact gv_tableIn C (nI 17) rfl dL_law_32 (by decide +kernel) (by decide +kernel) (o := 705) (by decide +kernel) 737 (by decide) (gl_c17 C S hi hB hW K)
    | 18, _ => exact gv_tableIn C (nI 18) rfl dL_law_32 (by decide +kernel) (by decide +kernel) (o := 738) (by decide +kernel) 770 (by decide) (gl_c18 C S hi hB hW K)
    | 19, _ => exact gv_tableIn C (nI 19) rfl dL_law_32 (by decide +kernel) (by decide +kernel) (o := 771) (by decide +kernel) 803 (by decide) (gl_c19 C S hi hB hW K)
    | 20, _ => exact gv_tableIn C (nI 20) rfl dL_law_32 (by decide +kernel) (by decide +kernel) (o := 804) (by decide +kernel) 836 (by decide) (gl_c20 C S hi hB hW K)
    | 21, _ => exact gv_tableIn C (nI 21) rfl dL_law_32 (by decide +kernel) (by decide +kernel) (o := 827) (by decide +kernel) 859 (by decide) (gl_c21 C S hi hB hW K)
    | 22, _ => exact gv_tableIn C (nI 22) rfl dL_law_32 (by decide +kernel) (by decide +kernel) (o := 860) (by decide +kernel) 892 (by decide) (gl_c22 C S hi hB hW K)
    | 23, _ => exact gv_tableIn C (nI 23) rfl dL_law_32 (by decide +kernel) (by decide +kernel) (o := 893) (by decide +kernel) 925 (by decide) (gl_c23 C S hi hB hW K)
    | 24, _ => exact gv_tableIn C (nI 24) rfl dL_law_32 (by decide +kernel) (by decide +kernel) (o := 916) (by decide +kernel) 948 (by decide) (gl_c24 C S hi hB hW K)
    | 25, _ => exact gv_tableIn C (nI 25) rfl dL_law_32 (by decide +kernel) (by decide +kernel) (o := 949) (by decide +kernel) 981 (by decide) (gl_c25 C S hi hB hW K)
    | 26, _ => exact gv_tableIn C (nI 26) rfl dL_law_32 (by decide +kernel) (by decide +kernel) (o := 992) (by decide +kernel) 1024 (by decide) (gl_c26 C S hi hB hW K)
    | 27, _ => exact gv_tableIn C (nI 27) rfl dL_law_32 (by decide +kernel) (by decide +kernel) (o := 1015) (by decide +kernel) 1047 (by decide) (gl_c27 C S hi hB hW K)
    | 28, _ => exact gv_tableIn C (nI 28) rfl dL_law_32 (by decide +kernel) (by decide +kernel) (o := 1028) (by decide +kernel) 1060 (by decide) (gl_c28 C S hi hB hW K)
    | 29, _ => exact gv_tableIn C (nI 29) rfl dL_law_32 (by decide +kernel) (by decide +kernel) (o := 1041) (by decide +kernel) 1073 (by decide) (gl_c29 C S hi hB hW K)
    | 30, _ => exact gv_tableIn C (nI 30) rfl dL_law_32 (by decide +kernel) (by decide +kernel) (o := 1054) (by decide +kernel) 1086 (by decide) (gl_c30 C S hi hB hW K)
    | 31, _ => exact gv_tableIn C (nI 31) rfl dL_law_32 (by decide +kernel) (by decide +kernel) (o := 1077) (by decide +kernel) 1109 (by decide) (gl_c31 C S hi hB hW K)
    | 32, _ => exact gv_tableIn C (nI 32) rfl dL_law_32 (by decide +kernel) (by decide +kernel) (o := 1100) (by decide +kernel) 1132 (by decide) (gl_c32 C S hi hB hW K)
    | k + 33, h => exact absurd h (by omega)
  · refine gv_tableOut C dL_law_32 (Or.inr ?_) 1155 (by decide) (K G (hW.le (by omega)))
    rw [nI_toInt (by omega)]
    omega
theorem gl_loop (C : gm_X x cL_law 4 RL (some .boolean) 10) (S : gl_S x b L xs) (E : ∀ (G : Gm) (lv : List (Nat × Value)), gm_V x G 1161 lv []) : ∀ (n i B : Nat) (G : Gm), i + 4 * n ≤ 4096 → L ≤ i + 4 * n → B + 500000 * n + 1000000 < 2147483647 → WI B G → gm_V x G 18 (gl_lv x b i) [] := by
  intro n
  induction n with
  | zero =>
    intro i B G h1 h2 hB hW
    have hL := S.2.2.2
    refine gv_iload_n C rfl 0 rfl dL_law_18 19 rfl ?_
    refine gv_aload_n C rfl 3 rfl dL_law_19 20 rfl ?_
    refine gl_len C S dL_law_20 21 rfl ?_
    refine gv_iconst C (nI 4) (by decide +kernel) dL_law_21 22 rfl ?_
    refine gv_isub C dL_law_22 23 rfl ?_
    exact gv_icmp_gt C dL_law_23 1161 (by decide) 26 rfl (fun _ => E _ _) (fun c => absurd ((gl_cmp hL (by omega)).mpr (by omega)) c)
  | succ n ih =>
    intro i B G h1 h2 hB hW
    have hL := S.2.2.2
    refine gv_iload_n C rfl 0 rfl dL_law_18 19 rfl ?_
    refine gv_aload_n C rfl 3 rfl dL_law_19 20 rfl ?_
    refine gl_len C S dL_law_20 21 rfl ?_
    refine gv_iconst C (nI 4) (by decide +kernel) dL_law_21 22 rfl ?_
    refine gv_isub C dL_law_22 23 rfl ?_
    refine gv_icmp_gt C dL_law_23 1161 (by decide) 26 rfl (fun _ => E _ _) (fun c => ?_)
    have hi : i + 4 ≤ L := Nat.le_of_not_lt fun q => c ((gl_cmp hL (by omega)).mpr q)
    refine gv_aload_n C rfl 3 rfl dL_law_26 27 rfl ?_
    refine gv_iload_n C rfl 0 rfl dL_law_27 28 rfl ?_
    refine gl_ld C S (j := i) rfl (by omega) dL_law_28 29 rfl ?_
    refine gv_bipush C 63 (by decide +kernel) dL_law_29 31 rfl ?_
    refine gv_iand C dL_law_31 32 rfl ?_
    refine gl_switch C S hi (by omega) hW fun G2 hW2 => ?_
    refine gv_iinc (z := 4) (u := nI (i + 4)) C 0 rfl (nI_add i 4) (gl_lv x b (i + 4)) (by decide) rfl dL_law_1155 1158 rfl ?_
    refine gv_goto C dL_law_1158 18 (by decide) ?_
    exact ih (i + 4) (B + 500000) G2 (by omega) (by omega) (by omega) hW2
end

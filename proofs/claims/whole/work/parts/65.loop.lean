/-! the law: its loop -/
theorem lt16 {c : Nat} (h : c < 16) : c = 0 ∨ c = 1 ∨ c = 2 ∨ c = 3 ∨ c = 4 ∨ c = 5 ∨ c = 6 ∨ c = 7 ∨ c = 8 ∨ c = 9 ∨ c = 10 ∨ c = 11 ∨ c = 12 ∨ c = 13 ∨ c = 14 ∨ c = 15 := by omega
theorem law_gt {L i : Nat} (hL : L ≤ 240) (hi : i ≤ 1000) : nI L - nI 5 < nI i ↔ L < i + 5 := by
  by_cases c : 5 ≤ L
  · rw [pk_sub c, nI_ltI (by omega) (by omega)]; omega
  · exact ⟨fun _ => by omega, fun _ => Int32.lt_of_lt_of_le (pk_sneg (by decide) (by omega)) (nI_pos' (by omega))⟩
set_option maxRecDepth 100000 in
set_option maxHeartbeats 4000000 in
theorem law_loop {p : Program} {e : Env} {s : State} {m : MethodId} {below : List Frame} {meth : Method} {c : Code} {X : Cx} {c0 : Cond} {lc : Launch} {D : va_G} {ci cz ck csh cj : ClassId} {a : Nat → Nat} {b0 r o L : Nat} {xs : Nat → Int32} (hXe : X = ((p, lc, e, room_1, s), (m, #[Value.ref b0], below, meth, c), (fun q => s.heap.size ≤ q), D, 7, lw_Z below #[Value.ref b0] s)) (C : Ok X cL_law 7 RL (c0 :: vG) ret room_1 lc D (v_ty ci cz ck csh cj)) (O : OkT X) (hX : LX X b0 L xs) (hl : lc.stackTraces = false) (hL : L ≤ 240) : ∀ (mm t : Nat) (q : MS) (w : va_W) (f : Nat → Int64), L + 5 < 5 * t + mm → 5 * t ≤ L + 4 → RKW ci cz ck csh r q (8 * t) w → V X (wS ci cz a q ++ ([(o, .inl (cj, 1, .inr (.inl f)))] ++ w)) [some (.ref b0), some (.ref r), some (.ref (a 0)), some (.ref o), some (.int (nI (5 * t))), none, none] (100 + 11 * t) (30000 + 1300 * t) 23 [] := by
  intro mm
  induction mm with
  | zero => intro t q w f h1 h2; omega
  | succ mm ih =>
    intro t q w f h1 h2 hR
    refine V_iload C dL_law_23 rfl ?_
    refine V_aload_n C dL_law_25 rfl ?_
    refine V_slen C hX dL_law_26 rfl ?_
    refine V_iconst (v := nI 5) C dL_law_27 (by decide) ?_
    refine V_isub C dL_law_28 rfl ?_
    refine V_icmp_gt (P := L < 5 * t + 5) (tgt := 987) C dL_law_29 (by decide) (law_gt hL (by omega)) (fun _ => ?_) (fun h29 => ?_)
    · refine V_iconst (v := nI 1) C dL_law_987 (by decide) ?_
      exact V_lret hXe C dL_law_988 (by omega) (by omega)
    have KK : ∀ (q9 : MS) (w9 : va_W) (f9 : Nat → Int64), RKW ci cz ck csh r q9 (8 * t + 8) w9 → V X (wS ci cz a q9 ++ ([(o, .inl (cj, 1, .inr (.inl f9)))] ++ w9)) [some (.ref b0), some (.ref r), some (.ref (a 0)), some (.ref o), some (.int (nI (5 * t))), none, none] (100 + 11 * t + 11) (30000 + 1300 * t + 1300) 981 [] := by
      intro q9 w9 f9 hR9
      refine V_iinc (lv2 := [some (.ref b0), some (.ref r), some (.ref (a 0)), some (.ref o), some (.int (nI (5 * (t + 1)))), none, none]) C dL_law_981 (by decide) rfl (nI_inc5 _) rfl ?_
      refine V_goto (tgt := 23) C dL_law_984 (by decide) ?_
      exact ih (t + 1) q9 w9 f9 (by omega) (by omega) hR9
    refine V_aload_n C dL_law_32 rfl ?_
    refine V_iload C dL_law_33 rfl ?_
    refine V_sld (i := 5 * t) C hX dL_law_35 rfl (by omega) (by omega) rfl ?_
    refine V_bipush (v := nI 15) C dL_law_36 (by decide) ?_
    refine V_iand C dL_law_38 (pk_and (xs (5 * t)) 4 (by decide)) ?_
    have hc : (xs (5 * t)).toBitVec.toNat % 2 ^ 4 < 16 := Nat.mod_lt _ (by decide)
    generalize (xs (5 * t)).toBitVec.toNat % 2 ^ 4 = c9 at hc
    rcases lt16 hc with rfl | rfl | rfl | rfl | rfl | rfl | rfl | rfl | rfl | rfl | rfl | rfl | rfl | rfl | rfl | rfl
    · refine V_tableIn (tgt := 108) (off := 69) C dL_law_39 (by decide) (by decide) (by decide) (by decide) ?_
      exact lc_shelf C O hX hl hL (by omega) (by omega) hR (by omega) (by omega) KK
    · refine V_tableIn (tgt := 200) (off := 161) C dL_law_39 (by decide) (by decide) (by decide) (by decide) ?_
      exact lc_get C O hX hl hL (by omega) (by omega) hR (by omega) (by omega) KK
    · refine V_tableIn (tgt := 268) (off := 229) C dL_law_39 (by decide) (by decide) (by decide) (by decide) ?_
      exact lc_put C O hX hl hL (by omega) (by omega) hR (by omega) (by omega) KK
    · refine V_tableIn (tgt := 348) (off := 309) C dL_law_39 (by decide) (by decide) (by decide) (by decide) ?_
      exact lc_drop C O hX hl hL (by omega) (by omega) hR (by omega) (by omega) KK
    · refine V_tableIn (tgt := 416) (off := 377) C dL_law_39 (by decide) (by decide) (by decide) (by decide) ?_
      exact lc_has C O hX hl hL (by omega) (by omega) hR (by omega) (by omega) KK
    · refine V_tableIn (tgt := 484) (off := 445) C dL_law_39 (by decide) (by decide) (by decide) (by decide) ?_
      exact lc_victim C O hX hl hL (by omega) (by omega) hR (by omega) (by omega) KK
    · refine V_tableIn (tgt := 540) (off := 501) C dL_law_39 (by decide) (by decide) (by decide) (by decide) ?_
      exact lc_list C O hX hl hL (by omega) (by omega) hR (by omega) (by omega) KK
    · refine V_tableIn (tgt := 620) (off := 581) C dL_law_39 (by decide) (by decide) (by decide) (by decide) ?_
      exact lc_told C O hX hl hL (by omega) (by omega) hR (by omega) (by omega) KK
    · refine V_tableIn (tgt := 688) (off := 649) C dL_law_39 (by decide) (by decide) (by decide) (by decide) ?_
      exact lc_use C O hX hl hL (by omega) (by omega) hR (by omega) (by omega) KK
    · refine V_tableIn (tgt := 744) (off := 705) C dL_law_39 (by decide) (by decide) (by decide) (by decide) ?_
      exact lc_clear C O hX hl hL (by omega) (by omega) hR (by omega) (by omega) KK
    · refine V_tableIn (tgt := 757) (off := 718) C dL_law_39 (by decide) (by decide) (by decide) (by decide) ?_
      exact lc_distance C O hX hl hL (by omega) (by omega) hR (by omega) (by omega) KK
    · refine V_tableIn (tgt := 813) (off := 774) C dL_law_39 (by decide) (by decide) (by decide) (by decide) ?_
      exact lc_curve C O hX hl hL (by omega) (by omega) hR (by omega) (by omega) KK
    · refine V_tableIn (tgt := 869) (off := 830) C dL_law_39 (by decide) (by decide) (by decide) (by decide) ?_
      exact lc_optimum C O hX hl hL (by omega) (by omega) hR (by omega) (by omega) KK
    · refine V_tableIn (tgt := 925) (off := 886) C dL_law_39 (by decide) (by decide) (by decide) (by decide) ?_
      exact lc_count C O hX hl hL (by omega) (by omega) hR (by omega) (by omega) KK
    · refine V_tableOut (tgt := 981) C dL_law_39 (by decide) (by decide) ?_
      refine V_widen (n' := 100 + 11 * t + 11) (k' := 30000 + 1300 * t + 1300) (by omega) (by omega) ?_
      exact KK q w f (by
        obtain ⟨sh, b, kf, df, nf, K, kn, aw, n, S, Z, e, hZ, hI, hRR, ha, hn⟩ := hR
        exact ⟨sh, b, kf, df, nf, K, kn, aw, n, S, Z, e, hZ, hI.mono (by omega), hRR, ha, by omega⟩)
    · refine V_tableOut (tgt := 981) C dL_law_39 (by decide) (by decide) ?_
      refine V_widen (n' := 100 + 11 * t + 11) (k' := 30000 + 1300 * t + 1300) (by omega) (by omega) ?_
      exact KK q w f (by
        obtain ⟨sh, b, kf, df, nf, K, kn, aw, n, S, Z, e, hZ, hI, hRR, ha, hn⟩ := hR
        exact ⟨sh, b, kf, df, nf, K, kn, aw, n, S, Z, e, hZ, hI.mono (by omega), hRR, ha, by omega⟩)

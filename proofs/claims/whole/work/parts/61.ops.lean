/-! a call of the rack and the same call of the model -/
theorem touch_th (q : MS) (s l x i : Nat) : m_th (M_touch q s l x i) = m_th q := by
  unfold M_touch
  split
  · rfl
  · split
    · rfl
    · split <;> rfl
theorem room_th (Q : MS) (i b : Nat) : m_th (M_room Q i b) = m_th Q := by
  unfold M_room; split <;> rfl
theorem cq_th (Q : MS) (i : Nat) : m_th (M_cq Q i) = m_th Q := by
  unfold M_cq M_cqG
  split
  · split
    · split <;> rfl
    · rfl
  · rfl
theorem cl_th (Q : MS) (i : Nat) : m_th (M_cl Q i) = m_th Q := by
  unfold M_cl
  split
  · split
    · exact room_th (M_take Q i 2 0) i 0
    · rfl
  · split
    · split
      · exact room_th (M_take Q i 3 0) i 0
      · exact room_th Q i 0
    · rfl
theorem clock_th (Q : MS) (i : Nat) (x : Int32) : m_th (M_comeClock Q i x) = m_th Q := by
  unfold M_comeClock; split <;> rfl
theorem c0_th (Q : MS) (i : Nat) (x : Int32) : m_th (M_c0 Q i x) = m_th Q := by
  unfold M_c0; split <;> rfl
theorem come1_th (Q : MS) (i x : Nat) : m_th (M_come1 Q i x) = m_th Q := by
  unfold M_come1
  split
  · exact c0_th Q i _
  · split
    · exact clock_th Q i _
    · split
      · exact cq_th Q i
      · exact cl_th Q i
theorem put0_th (q : MS) (s x : Nat) (o : Option (Nat × Nat)) : m_th (M_put0 q s x o) = m_th q := by
  cases o with
  | none => exact come1_th (M_tick q) s x
  | some p =>
    obtain ⟨l, i⟩ := p
    rw [M_put0_some]
    split
    · exact touch_th q s l x i
    · split
      · exact cq_th (M_take (M_tick q) s 2 i) s
      · split
        · exact room_th (M_take (M_tgt (M_tick q) s (mTg2 (M_tick q) s)) s 2 i) s 0
        · exact room_th (M_take (M_tgt (M_tick q) s (mTg3 (M_tick q) s)) s 3 i) s 1
theorem putOne_th (q : MS) (s x : Nat) (v : Int32) : m_th (M_putOne q s x v) = m_th q := put0_th (M_val q s x v) s x _
theorem use1_th (q : MS) (s x : Nat) (o : Option (Nat × Nat)) : m_th (M_use1 q s x o) = m_th q := by
  cases o with
  | none => exact putOne_th (M_miss q s) s x _
  | some p =>
    obtain ⟨l, i⟩ := p
    show m_th (if l ≤ 1 then M_touch (M_hit q s) s l x i else M_putOne (M_miss q s) s x (nI (m_uses q))) = m_th q
    split
    · exact touch_th (M_hit q s) s l x i
    · exact putOne_th (M_miss q s) s x _
theorem useN_th (q : MS) (x : Nat) : ∀ k : Nat, m_th (M_useN q x k) = m_th q
  | 0 => rfl
  | k + 1 => (use1_th (M_useN q x k) k x _).trans (useN_th q x k)
theorem rng {x : Int32} {n : Nat} (hn : n < 2 ^ 31) : (0 ≤ x ∧ x < nI n) ↔ ∃ j, j < n ∧ x = nI j := by
  constructor
  · rintro ⟨h1, h2⟩
    obtain ⟨j, hj, rfl⟩ := nI_of (Int32.not_lt.mpr h1)
    exact ⟨j, (nI_ltI hj hn).mp h2, rfl⟩
  · rintro ⟨j, hj, rfl⟩
    exact ⟨nI_pos' (by omega), (nI_ltI (by omega) hn).mpr hj⟩
theorem rngl {x : Int32} {lo hi : Nat} (h1 : hi < 2 ^ 31) (h0 : lo ≤ hi) : (nI lo ≤ x ∧ x ≤ nI hi) ↔ ∃ j, lo ≤ j ∧ j ≤ hi ∧ x = nI j := by
  constructor
  · rintro ⟨a, b⟩
    have h : ¬ x < 0 := Int32.not_lt.mpr (Int32.le_trans (nI_pos' (by omega)) a)
    obtain ⟨j, hj, rfl⟩ := nI_of h
    exact ⟨j, (nI_leI (by omega) hj).mp a, (nI_leI hj h1).mp b, rfl⟩
  · rintro ⟨j, a, b, rfl⟩
    exact ⟨nI_le a (by omega), nI_le b h1⟩
theorem gZ_some {Z : ZT} {i : Nat} {z : (Nat → Nat) × va_W} (h : Z[i]? = some z) : gZ Z i = some (z.1 0) := by
  unfold gZ; rw [h]; rfl
theorem gZ_none {Z : ZT} {x : Int32} (h : ¬ ∃ j, j < Z.length ∧ x = nI j) : ∀ i, i < 8 → x = nI i → gZ Z i = none := by
  intro i _ e
  unfold gZ
  rw [List.getElem?_eq_none (Nat.le_of_not_lt (fun z => h ⟨i, z, e⟩))]; rfl
/-- behind the model's call: its answer and its state, up to what nobody reads -/
def PM (ci cz ck csh : ClassId) (a : Nat → Nat) (r : Nat) (q2 : MS) (mv : Int32) : Option Value → va_W → Prop := fun v w2 => ∃ q3 : MS, v = some (.int mv) ∧ w2 = wS ci cz a q3 ∧ m_th q3 = m_th q2 ∧ ∀ (T : Nat) (w : va_W), RKW ci cz ck csh r q2 T w → RKW ci cz ck csh r q3 T w
theorem PM_same {ci cz ck csh : ClassId} {a : Nat → Nat} {r : Nat} {q2 : MS} {mv : Int32} {v : Option Value} {w2 : va_W} (h : v = some (.int mv) ∧ w2 = wS ci cz a q2) : PM ci cz ck csh a r q2 mv v w2 := ⟨q2, h.1, h.2, rfl, fun _ _ h => h⟩
theorem PM_seen {ci cz ck csh : ClassId} {a : Nat → Nat} {r : Nat} {q2 : MS} {mv : Int32} {v : Option Value} {w2 : va_W} (h : ∃ g : Nat → Int32, v = some (.int mv) ∧ w2 = wS ci cz a (M_seen q2 g)) : PM ci cz ck csh a r q2 mv v w2 := by
  obtain ⟨g, h1, h2⟩ := h
  refine ⟨M_seen q2 g, h1, h2, rfl, fun T w h => ?_⟩
  obtain ⟨sh, b, kf, df, nf, K, kn, aw, n, S, Z, e, hZ, hI, hRR, ha, hn⟩ := h
  exact ⟨sh, b, kf, df, nf, K, kn, aw, n, S, Z, e, hZ, hI.seen g, RR_congr hRR rfl rfl, ha, hn⟩
theorem PM_held {ci cz ck csh : ClassId} {a : Nat → Nat} {r : Nat} {q2 : MS} {mv : Int32} {v : Option Value} {w2 : va_W} (h : ∃ g : Nat → Nat, (∀ j, g j < 512) ∧ v = some (.int mv) ∧ w2 = wS ci cz a (M_held q2 g)) : PM ci cz ck csh a r q2 mv v w2 := by
  obtain ⟨g, hg, h1, h2⟩ := h
  refine ⟨M_held q2 g, h1, h2, rfl, fun T w h => ?_⟩
  obtain ⟨sh, b, kf, df, nf, K, kn, aw, n, S, Z, e, hZ, hI, hRR, ha, hn⟩ := h
  exact ⟨sh, b, kf, df, nf, K, kn, aw, n, S, Z, e, hZ, hI.held hg, RR_congr hRR rfl rfl, ha, hn⟩
theorem rk_at {ci csh : ClassId} {r sh : Nat} {b kf : Nat → Nat} {df : Nat → Int32} {nf : Nat → Nat} {K : Nat → Int32} {kn : Nat} {aw : Nat → Nat} {n : Nat} {Z : ZT} {i : Nat} {z : (Nat → Nat) × va_W} (hz : Z[i]? = some z) : [(r, .inr (8, [.ref sh, .ref (b 0), .int (nI Z.length)])), (sh, .inl (csh, 8, .inr (.inr (.inr (.inr (gZ Z))))))] ++ (wU ci b kf df nf K kn aw n ++ wF (Z.take i)) ++ z.2 ++ wF (Z.drop (i + 1)) = rkW ci csh r sh b kf df nf K kn aw n Z := by
  have e := wF_at hz
  show _ = [(r, .inr (8, [.ref sh, .ref (b 0), .int (nI Z.length)])), (sh, .inl (csh, 8, .inr (.inr (.inr (.inr (gZ Z))))))] ++ wU ci b kf df nf K kn aw n ++ wF Z
  rw [e]
  simp only [List.append_assoc]
theorem RKW_set {ci cz ck csh : ClassId} {r sh : Nat} {b kf : Nat → Nat} {df : Nat → Int32} {nf : Nat → Nat} {K : Nat → Int32} {kn : Nat} {aw : Nat → Nat} {n : Nat} {S : List AS} {Z : ZT} {i T2 : Nat} {z : (Nat → Nat) × va_W} {s2 : AS} {w3 : va_W} {q2 : MS} (hZ : Zr ci cz ck S Z) (hz : Z[i]? = some z) (hr : Rep ci cz ck s2 z.1 w3) (hI : Inv q2 (S.set i s2) T2) (hRR : RR q2 kf df nf K kn n) (ha : ∀ j, aw j ≤ 300) (hn : n ≤ T2) : RKW ci cz ck csh r q2 T2 ([(r, .inr (8, [.ref sh, .ref (b 0), .int (nI Z.length)])), (sh, .inl (csh, 8, .inr (.inr (.inr (.inr (gZ Z))))))] ++ (wU ci b kf df nf K kn aw n ++ wF (Z.take i)) ++ w3 ++ wF (Z.drop (i + 1))) := by
  have hi := (List.getElem?_eq_some_iff.mp hz).1
  refine ⟨sh, b, kf, df, nf, K, kn, aw, n, S.set i s2, Z.set i (z.1, w3), ?_, Zr_set hZ hz hr, hI, hRR, ha, hn⟩
  show _ = [(r, .inr (8, [.ref sh, .ref (b 0), .int (nI (Z.set i (z.1, w3)).length)])), (sh, .inl (csh, 8, .inr (.inr (.inr (.inr (gZ (Z.set i (z.1, w3))))))))] ++ wU ci b kf df nf K kn aw n ++ wF (Z.set i (z.1, w3))
  rw [List.length_set, gZ_set hz, wF_set hi]
  simp only [List.append_assoc]
theorem set_self {S : List AS} {i : Nat} {s : AS} (h : S[i]? = some s) : S.set i s = S := by
  refine List.ext_getElem? (fun j => ?_)
  rw [List.getElem?_set]
  by_cases e : i = j
  · subst e; rw [if_pos rfl, if_pos (List.getElem?_eq_some_iff.mp h).1, h]
  · rw [if_neg e]
set_option maxRecDepth 100000 in
set_option maxHeartbeats 4000000 in
theorem op_get (lc : Launch) (D : va_G) (ci cz ck csh cj : ClassId) (hl : lc.stackTraces = false) (a : Nat → Nat) {r o T : Nat} {q : MS} {w : va_W} (f : Nat → Int64) (p1 p2 : Int32) (hT : T ≤ 1000) (hR : RKW ci cz ck csh r q T w) : ∃ (mv : Int32) (q2 : MS), Ctr lc D (v_ty ci cz ck csh cj) yX11_get (Cond.code yX11_get cX11_get 4 (some .int) :: vG) { frames := 3, cells := 0, slots := 0, locals := 73 } [.ref (a 0), .int p1, .int p2] (wS ci cz a q) 0 0 (PM ci cz ck csh a r q2 mv) ∧ CtrT lc D (v_ty ci cz ck csh cj) yL_get (Cond.codeWith yL_get cL_get 5 (some .int) [(0, 10, 13, 13), (0, 10, 17, 21)] :: vG) { frames := 9, cells := 11, slots := 1300, locals := 204 } [.ref r, .int p1, .int p2, .ref o] ([(o, .inl (cj, 1, .inr (.inl f)))] ++ w) 11 1300 (PW ci cz ck csh cj r o q2 (T + 8) mv) (fun _ _ => False) := by
  obtain ⟨sh, b, kf, df, nf, K, kn, aw, n, S, Z, rfl, hZ, hI, hRR, ha, hn⟩ := hR
  have hMB : MB q 64 := hI.mb (by omega) (by rw [hRR.1]; exact hRR.2.1) hRR.2.2.2.1
  have hlen : S.length = Z.length := hZ.1
  have h8 := hI.2.1
  have hsh := hI.1
  have hnow := hI.2.2.2.2.1
  have hu3 := hRR.2.1
  have base : ∀ t T2, T ≤ T2 → RKW ci cz ck csh r (M_th q t) T2 (rkW ci csh r sh b kf df nf K kn aw n Z) := fun t T2 h => ⟨sh, b, kf, df, nf, K, kn, aw, n, S, Z, rfl, hZ, (hI.th t).mono h, RR_congr hRR rfl rfl, ha, by omega⟩
  by_cases h1 : ∃ i, i < S.length ∧ p1 = nI i
  · by_cases h2 : ∃ y, y < 512 ∧ p2 = nI y
    · obtain ⟨i, hi, rfl⟩ := h1
      have hiZ : i < Z.length := by omega
      obtain ⟨s, hs⟩ : ∃ s, S[i]? = some s := ⟨_, List.getElem?_eq_getElem hi⟩
      obtain ⟨z, hz⟩ : ∃ z, Z[i]? = some z := ⟨_, List.getElem?_eq_getElem hiZ⟩
      have hrep := hZ.2 i s z hs hz
      have hrel := hI.2.2.1 i s hs
      have hrel0 := (hI.th 0).2.2.1 i s hs
      have hgz := gZ_some hz
      obtain ⟨y, hy, rfl⟩ := h2
      obtain ⟨g1, g2, g3, g4, g5, g6⟩ := sim_get (hI.th 0) hs hy
      have hm := c_get_ok lc D ci cz ck csh cj a q i y 64 (hI.sh hi) hy hMB (by omega) (by omega) hrel.sv
      by_cases c : nI y ∈ aHeld s
      · refine ⟨_, _, Ctr_post hm (fun v w2 h => PM_same h), wr_get0 lc D ci cz ck csh cj hl (by omega) (by omega) ⟨_, _, rfl⟩ (g2 c).2 (Ctr_w (rk_at hz) (Ctr_post (p_get lc D ci cz ck csh cj r sh (b 0) Z.length (gZ Z) i y s z.1 z.2 (wU ci b kf df nf K kn aw n ++ wF (Z.take i)) (wF (Z.drop (i + 1))) (by omega) hgz hrep hrel.2.1 hy c g6) ?_))⟩
        rintro v w2 ⟨w3, rfl, rfl, hr3⟩
        exact ⟨by rw [(g2 c).1], RKW_set hZ hz hr3 (g1.mono (by omega)) (RR_congr hRR g4 g5) ha (by omega)⟩
      · refine ⟨_, _, Ctr_post hm (fun v w2 h => PM_same h), wr_get2 lc D ci cz ck csh cj hl (by omega) (by omega) ⟨_, _, rfl⟩ (g3 c) (CtrT_w (rk_at hz) (CtrT_post (p_getXM lc D ci cz ck csh cj hl r sh (b 0) Z.length (gZ Z) i y s z.1 z.2 (wU ci b kf df nf K kn aw n ++ wF (Z.take i)) (wF (Z.drop (i + 1))) (by omega) hgz hrep hrel.2.1 hy c) (fun _ _ h => h) ?_))⟩
        rintro E9 w2 ⟨h1, w3, rfl, hr3⟩
        exact ⟨h1, RKW_set hZ hz hr3 (g1.mono (by omega)) (RR_congr hRR g4 g5) ha (by omega)⟩
    · obtain ⟨i, hi, rfl⟩ := h1
      have hiZ : i < Z.length := by omega
      obtain ⟨s, hs⟩ : ∃ s, S[i]? = some s := ⟨_, List.getElem?_eq_getElem hi⟩
      obtain ⟨z, hz⟩ : ∃ z, Z[i]? = some z := ⟨_, List.getElem?_eq_getElem hiZ⟩
      have hrep := hZ.2 i s z hs hz
      have hrel := hI.2.2.1 i s hs
      have hrel0 := (hI.th 0).2.2.1 i s hs
      have hgz := gZ_some hz
      refine ⟨nI 0, M_th q 1, Ctr_post (c_get_bad lc D ci cz ck csh cj a q (nI i) p2 (fun q9 => h2 ((rng (by omega)).mp q9.2))) (fun v w2 h => PM_same h), wr_get1 lc D ci cz ck csh cj hl (by omega) (by omega) ⟨_, _, rfl⟩ rfl (CtrT_post (p_getXK lc D ci cz ck csh cj hl r sh (b 0) Z.length (gZ Z) i (z.1 0) p2 (wU ci b kf df nf K kn aw n ++ wF Z) (by omega) hgz (fun y9 hy9 e9 => h2 ⟨y9, hy9, e9⟩)) (fun _ _ h => h) (fun E9 w2 h => by obtain ⟨h1, rfl⟩ := h; exact ⟨h1, base 1 _ (by omega)⟩))⟩
  · refine ⟨nI 0, M_th q 1, Ctr_post (c_get_bad lc D ci cz ck csh cj a q p1 p2 (fun q9 => h1 (by rw [← hsh]; exact (rng (by omega)).mp q9.1))) (fun v w2 h => PM_same h), wr_get1 lc D ci cz ck csh cj hl (by omega) (by omega) ⟨_, _, rfl⟩ rfl (CtrT_post (p_getXS lc D ci cz ck csh cj hl r sh (b 0) Z.length (gZ Z) p1 (wU ci b kf df nf K kn aw n ++ wF Z) p2 (gZ_none (by rw [← hlen]; exact h1))) (fun _ _ h => h) (fun E9 w2 h => by obtain ⟨h1, rfl⟩ := h; exact ⟨h1, base 1 _ (by omega)⟩))⟩
set_option maxRecDepth 100000 in
set_option maxHeartbeats 4000000 in
theorem op_put (lc : Launch) (D : va_G) (ci cz ck csh cj : ClassId) (hl : lc.stackTraces = false) (a : Nat → Nat) {r o T : Nat} {q : MS} {w : va_W} (f : Nat → Int64) (p1 p2 p3 : Int32) (hT : T ≤ 1000) (hR : RKW ci cz ck csh r q T w) : ∃ (mv : Int32) (q2 : MS), Ctr lc D (v_ty ci cz ck csh cj) yX11_put (Cond.code yX11_put cX11_put 4 (some .int) :: vG) { frames := 7, cells := 0, slots := 0, locals := 169 } [.ref (a 0), .int p1, .int p2, .int p3] (wS ci cz a q) 0 0 (PM ci cz ck csh a r q2 mv) ∧ CtrT lc D (v_ty ci cz ck csh cj) yL_put (Cond.codeWith yL_put cL_put 6 (some .int) [(0, 12, 15, 13)] :: vG) { frames := 9, cells := 11, slots := 1300, locals := 205 } [.ref r, .int p1, .int p2, .int p3, .ref o] ([(o, .inl (cj, 1, .inr (.inl f)))] ++ w) 11 1300 (PW ci cz ck csh cj r o q2 (T + 8) mv) (fun _ _ => False) := by
  obtain ⟨sh, b, kf, df, nf, K, kn, aw, n, S, Z, rfl, hZ, hI, hRR, ha, hn⟩ := hR
  have hMB : MB q 64 := hI.mb (by omega) (by rw [hRR.1]; exact hRR.2.1) hRR.2.2.2.1
  have hlen : S.length = Z.length := hZ.1
  have h8 := hI.2.1
  have hsh := hI.1
  have hnow := hI.2.2.2.2.1
  have hu3 := hRR.2.1
  have base : ∀ t T2, T ≤ T2 → RKW ci cz ck csh r (M_th q t) T2 (rkW ci csh r sh b kf df nf K kn aw n Z) := fun t T2 h => ⟨sh, b, kf, df, nf, K, kn, aw, n, S, Z, rfl, hZ, (hI.th t).mono h, RR_congr hRR rfl rfl, ha, by omega⟩
  by_cases h1 : ∃ i, i < S.length ∧ p1 = nI i
  · by_cases h2 : ∃ y, y < 512 ∧ p2 = nI y
    · obtain ⟨i, hi, rfl⟩ := h1
      have hiZ : i < Z.length := by omega
      obtain ⟨s, hs⟩ : ∃ s, S[i]? = some s := ⟨_, List.getElem?_eq_getElem hi⟩
      obtain ⟨z, hz⟩ : ∃ z, Z[i]? = some z := ⟨_, List.getElem?_eq_getElem hiZ⟩
      have hrep := hZ.2 i s z hs hz
      have hrel := hI.2.2.1 i s hs
      have hrel0 := (hI.th 0).2.2.1 i s hs
      have hgz := gZ_some hz
      obtain ⟨y, hy, rfl⟩ := h2
      obtain ⟨g1, g2, g4, g5⟩ := sim_put (hI.th 0) hs hy p3
      have hm := c_put_ok lc D ci cz ck csh cj a q i y 64 p3 (hI.sh hi) hy hMB (by omega) (by omega) hrel.sv
      refine ⟨_, _, Ctr_post hm (fun v w2 h => PM_same h), wr_put0 lc D ci cz ck csh cj hl (by omega) (by omega) ⟨_, _, rfl⟩ (putOne_th _ _ _ _) (Ctr_w (rk_at hz) (Ctr_post (p_put lc D ci cz ck csh cj r sh (b 0) Z.length (gZ Z) i y p3 s z.1 z.2 (wU ci b kf df nf K kn aw n ++ wF (Z.take i)) (wF (Z.drop (i + 1))) (by omega) hgz hrep hrel.2.1 hy) ?_))⟩
      rintro v w2 ⟨w3, rfl, rfl, hr3⟩
      exact ⟨by rw [g1], RKW_set hZ hz hr3 (g2.mono (by omega)) (RR_congr hRR g4 g5) ha (by omega)⟩
    · obtain ⟨i, hi, rfl⟩ := h1
      have hiZ : i < Z.length := by omega
      obtain ⟨s, hs⟩ : ∃ s, S[i]? = some s := ⟨_, List.getElem?_eq_getElem hi⟩
      obtain ⟨z, hz⟩ : ∃ z, Z[i]? = some z := ⟨_, List.getElem?_eq_getElem hiZ⟩
      have hrep := hZ.2 i s z hs hz
      have hrel := hI.2.2.1 i s hs
      have hrel0 := (hI.th 0).2.2.1 i s hs
      have hgz := gZ_some hz
      refine ⟨nI 0, M_th q 1, Ctr_post (c_put_bad lc D ci cz ck csh cj a q (nI i) p2 p3 (fun q9 => h2 ((rng (by omega)).mp q9.2))) (fun v w2 h => PM_same h), wr_put1 lc D ci cz ck csh cj hl (by omega) (by omega) ⟨_, _, rfl⟩ rfl (CtrT_post (p_putXK lc D ci cz ck csh cj hl r sh (b 0) Z.length (gZ Z) i (z.1 0) p2 (wU ci b kf df nf K kn aw n ++ wF Z) p3 (by omega) hgz (fun y9 hy9 e9 => h2 ⟨y9, hy9, e9⟩)) (fun _ _ h => h) (fun E9 w2 h => by obtain ⟨h1, rfl⟩ := h; exact ⟨h1, base 1 _ (by omega)⟩))⟩
  · refine ⟨nI 0, M_th q 1, Ctr_post (c_put_bad lc D ci cz ck csh cj a q p1 p2 p3 (fun q9 => h1 (by rw [← hsh]; exact (rng (by omega)).mp q9.1))) (fun v w2 h => PM_same h), wr_put1 lc D ci cz ck csh cj hl (by omega) (by omega) ⟨_, _, rfl⟩ rfl (CtrT_post (p_putXS lc D ci cz ck csh cj hl r sh (b 0) Z.length (gZ Z) p1 (wU ci b kf df nf K kn aw n ++ wF Z) p2 p3 (gZ_none (by rw [← hlen]; exact h1))) (fun _ _ h => h) (fun E9 w2 h => by obtain ⟨h1, rfl⟩ := h; exact ⟨h1, base 1 _ (by omega)⟩))⟩
set_option maxRecDepth 100000 in
set_option maxHeartbeats 4000000 in
theorem op_drop (lc : Launch) (D : va_G) (ci cz ck csh cj : ClassId) (hl : lc.stackTraces = false) (a : Nat → Nat) {r o T : Nat} {q : MS} {w : va_W} (f : Nat → Int64) (p1 p2 : Int32) (hT : T ≤ 1000) (hR : RKW ci cz ck csh r q T w) : ∃ (mv : Int32) (q2 : MS), Ctr lc D (v_ty ci cz ck csh cj) yX11_drop (Cond.code yX11_drop cX11_drop 6 (some .int) :: vG) { frames := 3, cells := 0, slots := 0, locals := 73 } [.ref (a 0), .int p1, .int p2] (wS ci cz a q) 0 0 (PM ci cz ck csh a r q2 mv) ∧ CtrT lc D (v_ty ci cz ck csh cj) yL_drop (Cond.codeWith yL_drop cL_drop 5 (some .int) [(0, 10, 13, 13)] :: vG) { frames := 9, cells := 11, slots := 1300, locals := 205 } [.ref r, .int p1, .int p2, .ref o] ([(o, .inl (cj, 1, .inr (.inl f)))] ++ w) 11 1300 (PW ci cz ck csh cj r o q2 (T + 8) mv) (fun _ _ => False) := by
  obtain ⟨sh, b, kf, df, nf, K, kn, aw, n, S, Z, rfl, hZ, hI, hRR, ha, hn⟩ := hR
  have hMB : MB q 64 := hI.mb (by omega) (by rw [hRR.1]; exact hRR.2.1) hRR.2.2.2.1
  have hlen : S.length = Z.length := hZ.1
  have h8 := hI.2.1
  have hsh := hI.1
  have hnow := hI.2.2.2.2.1
  have hu3 := hRR.2.1
  have base : ∀ t T2, T ≤ T2 → RKW ci cz ck csh r (M_th q t) T2 (rkW ci csh r sh b kf df nf K kn aw n Z) := fun t T2 h => ⟨sh, b, kf, df, nf, K, kn, aw, n, S, Z, rfl, hZ, (hI.th t).mono h, RR_congr hRR rfl rfl, ha, by omega⟩
  by_cases h1 : ∃ i, i < S.length ∧ p1 = nI i
  · by_cases h2 : ∃ y, y < 512 ∧ p2 = nI y
    · obtain ⟨i, hi, rfl⟩ := h1
      have hiZ : i < Z.length := by omega
      obtain ⟨s, hs⟩ : ∃ s, S[i]? = some s := ⟨_, List.getElem?_eq_getElem hi⟩
      obtain ⟨z, hz⟩ : ∃ z, Z[i]? = some z := ⟨_, List.getElem?_eq_getElem hiZ⟩
      have hrep := hZ.2 i s z hs hz
      have hrel := hI.2.2.1 i s hs
      have hrel0 := (hI.th 0).2.2.1 i s hs
      have hgz := gZ_some hz
      obtain ⟨y, hy, rfl⟩ := h2
      obtain ⟨g1, g2, g3⟩ := sim_dropI (hI.th 0) hs hy
      have g0 := sim_stand hrel0 hy
      have hm := c_drop_ok lc D ci cz ck csh cj a q i y 64 (hI.sh hi) hy hMB (by omega) (by omega) hrel.sv
      by_cases c : aStand s (nI y) = 0
      · rw [g1 c] at hm
        refine ⟨_, _, Ctr_post hm (fun v w2 h => PM_same h), wr_drop0 lc D ci cz ck csh cj hl (by omega) (by omega) ⟨_, _, rfl⟩ rfl (Ctr_w (rk_at hz) (Ctr_post (p_drop0 lc D ci cz ck csh cj r sh (b 0) Z.length (gZ Z) i y s z.1 z.2 (wU ci b kf df nf K kn aw n ++ wF (Z.take i)) (wF (Z.drop (i + 1))) (by omega) hgz hrep hrel.2.1 hy c) ?_))⟩
        rintro v w2 ⟨w3, rfl, rfl, hr3⟩
        exact ⟨by rw [g0], RKW_set hZ hz hr3 (by rw [set_self hs]; exact (hI.th 0).mono (by omega)) (RR_congr hRR rfl rfl) ha (by omega)⟩
      · obtain ⟨d1, d2, d3⟩ := g2 c
        refine ⟨_, _, Ctr_post hm (fun v w2 h => PM_same h), wr_drop0 lc D ci cz ck csh cj hl (by omega) (by omega) ⟨_, _, rfl⟩ g3 (Ctr_w (rk_at hz) (Ctr_post (p_drop lc D ci cz ck csh cj r sh (b 0) Z.length (gZ Z) i y s z.1 z.2 (wU ci b kf df nf K kn aw n ++ wF (Z.take i)) (wF (Z.drop (i + 1))) (by omega) hgz hrep hrel.2.1 hy c) ?_))⟩
        rintro v w2 ⟨w3, rfl, rfl, hr3⟩
        exact ⟨by rw [g0], RKW_set hZ hz hr3 (d1.mono (by omega)) (RR_congr hRR d2 d3) ha (by omega)⟩
    · obtain ⟨i, hi, rfl⟩ := h1
      have hiZ : i < Z.length := by omega
      obtain ⟨s, hs⟩ : ∃ s, S[i]? = some s := ⟨_, List.getElem?_eq_getElem hi⟩
      obtain ⟨z, hz⟩ : ∃ z, Z[i]? = some z := ⟨_, List.getElem?_eq_getElem hiZ⟩
      have hrep := hZ.2 i s z hs hz
      have hrel := hI.2.2.1 i s hs
      have hrel0 := (hI.th 0).2.2.1 i s hs
      have hgz := gZ_some hz
      refine ⟨nI 0, M_th q 1, Ctr_post (c_drop_bad lc D ci cz ck csh cj a q (nI i) p2 (fun q9 => h2 ((rng (by omega)).mp q9.2))) (fun v w2 h => PM_same h), wr_drop1 lc D ci cz ck csh cj hl (by omega) (by omega) ⟨_, _, rfl⟩ rfl (CtrT_post (p_dropXK lc D ci cz ck csh cj hl r sh (b 0) Z.length (gZ Z) i (z.1 0) p2 (wU ci b kf df nf K kn aw n ++ wF Z) (by omega) hgz (fun y9 hy9 e9 => h2 ⟨y9, hy9, e9⟩)) (fun _ _ h => h) (fun E9 w2 h => by obtain ⟨h1, rfl⟩ := h; exact ⟨h1, base 1 _ (by omega)⟩))⟩
  · refine ⟨nI 0, M_th q 1, Ctr_post (c_drop_bad lc D ci cz ck csh cj a q p1 p2 (fun q9 => h1 (by rw [← hsh]; exact (rng (by omega)).mp q9.1))) (fun v w2 h => PM_same h), wr_drop1 lc D ci cz ck csh cj hl (by omega) (by omega) ⟨_, _, rfl⟩ rfl (CtrT_post (p_dropXS lc D ci cz ck csh cj hl r sh (b 0) Z.length (gZ Z) p1 (wU ci b kf df nf K kn aw n ++ wF Z) p2 (gZ_none (by rw [← hlen]; exact h1))) (fun _ _ h => h) (fun E9 w2 h => by obtain ⟨h1, rfl⟩ := h; exact ⟨h1, base 1 _ (by omega)⟩))⟩
set_option maxRecDepth 100000 in
set_option maxHeartbeats 4000000 in
theorem op_has (lc : Launch) (D : va_G) (ci cz ck csh cj : ClassId) (hl : lc.stackTraces = false) (a : Nat → Nat) {r o T : Nat} {q : MS} {w : va_W} (f : Nat → Int64) (p1 p2 : Int32) (hT : T ≤ 1000) (hR : RKW ci cz ck csh r q T w) : ∃ (mv : Int32) (q2 : MS), Ctr lc D (v_ty ci cz ck csh cj) yX11_has (Cond.code yX11_has cX11_has 4 (some .int) :: vG) { frames := 3, cells := 0, slots := 0, locals := 73 } [.ref (a 0), .int p1, .int p2] (wS ci cz a q) 0 0 (PM ci cz ck csh a r q2 mv) ∧ CtrT lc D (v_ty ci cz ck csh cj) yL_has (Cond.codeWith yL_has cL_has 5 (some .int) [(0, 10, 13, 13)] :: vG) { frames := 9, cells := 11, slots := 1300, locals := 204 } [.ref r, .int p1, .int p2, .ref o] ([(o, .inl (cj, 1, .inr (.inl f)))] ++ w) 11 1300 (PW ci cz ck csh cj r o q2 (T + 8) mv) (fun _ _ => False) := by
  obtain ⟨sh, b, kf, df, nf, K, kn, aw, n, S, Z, rfl, hZ, hI, hRR, ha, hn⟩ := hR
  have hMB : MB q 64 := hI.mb (by omega) (by rw [hRR.1]; exact hRR.2.1) hRR.2.2.2.1
  have hlen : S.length = Z.length := hZ.1
  have h8 := hI.2.1
  have hsh := hI.1
  have hnow := hI.2.2.2.2.1
  have hu3 := hRR.2.1
  have base : ∀ t T2, T ≤ T2 → RKW ci cz ck csh r (M_th q t) T2 (rkW ci csh r sh b kf df nf K kn aw n Z) := fun t T2 h => ⟨sh, b, kf, df, nf, K, kn, aw, n, S, Z, rfl, hZ, (hI.th t).mono h, RR_congr hRR rfl rfl, ha, by omega⟩
  by_cases h1 : ∃ i, i < S.length ∧ p1 = nI i
  · by_cases h2 : ∃ y, y < 512 ∧ p2 = nI y
    · obtain ⟨i, hi, rfl⟩ := h1
      have hiZ : i < Z.length := by omega
      obtain ⟨s, hs⟩ : ∃ s, S[i]? = some s := ⟨_, List.getElem?_eq_getElem hi⟩
      obtain ⟨z, hz⟩ : ∃ z, Z[i]? = some z := ⟨_, List.getElem?_eq_getElem hiZ⟩
      have hrep := hZ.2 i s z hs hz
      have hrel := hI.2.2.1 i s hs
      have hrel0 := (hI.th 0).2.2.1 i s hs
      have hgz := gZ_some hz
      obtain ⟨y, hy, rfl⟩ := h2
      have g0 := sim_stand hrel0 hy
      have hm := c_has_ok lc D ci cz ck csh cj a q i y 64 (hI.sh hi) hy hMB (by omega) (by omega) hrel.sv
      refine ⟨_, _, Ctr_post hm (fun v w2 h => PM_same h), wr_has0 lc D ci cz ck csh cj hl (by omega) (by omega) ⟨_, _, rfl⟩ rfl (Ctr_w (rk_at hz) (Ctr_post (p_has lc D ci cz ck csh cj r sh (b 0) Z.length (gZ Z) i y s z.1 z.2 (wU ci b kf df nf K kn aw n ++ wF (Z.take i)) (wF (Z.drop (i + 1))) (by omega) hgz hrep hrel.2.1 hy) ?_))⟩
      rintro v w2 ⟨w3, rfl, rfl, hr3⟩
      exact ⟨by rw [g0], RKW_set hZ hz hr3 (by rw [set_self hs]; exact (hI.th 0).mono (by omega)) (RR_congr hRR rfl rfl) ha (by omega)⟩
    · obtain ⟨i, hi, rfl⟩ := h1
      have hiZ : i < Z.length := by omega
      obtain ⟨s, hs⟩ : ∃ s, S[i]? = some s := ⟨_, List.getElem?_eq_getElem hi⟩
      obtain ⟨z, hz⟩ : ∃ z, Z[i]? = some z := ⟨_, List.getElem?_eq_getElem hiZ⟩
      have hrep := hZ.2 i s z hs hz
      have hrel := hI.2.2.1 i s hs
      have hrel0 := (hI.th 0).2.2.1 i s hs
      have hgz := gZ_some hz
      refine ⟨nI 0, M_th q 1, Ctr_post (c_has_bad lc D ci cz ck csh cj a q (nI i) p2 (fun q9 => h2 ((rng (by omega)).mp q9.2))) (fun v w2 h => PM_same h), wr_has1 lc D ci cz ck csh cj hl (by omega) (by omega) ⟨_, _, rfl⟩ rfl (CtrT_post (p_hasXK lc D ci cz ck csh cj hl r sh (b 0) Z.length (gZ Z) i (z.1 0) p2 (wU ci b kf df nf K kn aw n ++ wF Z) (by omega) hgz (fun y9 hy9 e9 => h2 ⟨y9, hy9, e9⟩)) (fun _ _ h => h) (fun E9 w2 h => by obtain ⟨h1, rfl⟩ := h; exact ⟨h1, base 1 _ (by omega)⟩))⟩
  · refine ⟨nI 0, M_th q 1, Ctr_post (c_has_bad lc D ci cz ck csh cj a q p1 p2 (fun q9 => h1 (by rw [← hsh]; exact (rng (by omega)).mp q9.1))) (fun v w2 h => PM_same h), wr_has1 lc D ci cz ck csh cj hl (by omega) (by omega) ⟨_, _, rfl⟩ rfl (CtrT_post (p_hasXS lc D ci cz ck csh cj hl r sh (b 0) Z.length (gZ Z) p1 (wU ci b kf df nf K kn aw n ++ wF Z) p2 (gZ_none (by rw [← hlen]; exact h1))) (fun _ _ h => h) (fun E9 w2 h => by obtain ⟨h1, rfl⟩ := h; exact ⟨h1, base 1 _ (by omega)⟩))⟩
set_option maxRecDepth 100000 in
set_option maxHeartbeats 4000000 in
theorem op_victim (lc : Launch) (D : va_G) (ci cz ck csh cj : ClassId) (hl : lc.stackTraces = false) (a : Nat → Nat) {r o T : Nat} {q : MS} {w : va_W} (f : Nat → Int64) (p1 : Int32) (hT : T ≤ 1000) (hR : RKW ci cz ck csh r q T w) : ∃ (mv : Int32) (q2 : MS), Ctr lc D (v_ty ci cz ck csh cj) yX11_victim (Cond.code yX11_victim cX11_victim 3 (some .int) :: vG) { frames := 3, cells := 0, slots := 0, locals := 67 } [.ref (a 0), .int p1] (wS ci cz a q) 0 0 (PM ci cz ck csh a r q2 mv) ∧ CtrT lc D (v_ty ci cz ck csh cj) yL_victim (Cond.codeWith yL_victim cL_victim 4 (some .int) [(0, 9, 12, 13)] :: vG) { frames := 9, cells := 11, slots := 1300, locals := 202 } [.ref r, .int p1, .ref o] ([(o, .inl (cj, 1, .inr (.inl f)))] ++ w) 11 1300 (PW ci cz ck csh cj r o q2 (T + 8) mv) (fun _ _ => False) := by
  obtain ⟨sh, b, kf, df, nf, K, kn, aw, n, S, Z, rfl, hZ, hI, hRR, ha, hn⟩ := hR
  have hMB : MB q 64 := hI.mb (by omega) (by rw [hRR.1]; exact hRR.2.1) hRR.2.2.2.1
  have hlen : S.length = Z.length := hZ.1
  have h8 := hI.2.1
  have hsh := hI.1
  have hnow := hI.2.2.2.2.1
  have hu3 := hRR.2.1
  have base : ∀ t T2, T ≤ T2 → RKW ci cz ck csh r (M_th q t) T2 (rkW ci csh r sh b kf df nf K kn aw n Z) := fun t T2 h => ⟨sh, b, kf, df, nf, K, kn, aw, n, S, Z, rfl, hZ, (hI.th t).mono h, RR_congr hRR rfl rfl, ha, by omega⟩
  by_cases h1 : ∃ i, i < S.length ∧ p1 = nI i
  · obtain ⟨i, hi, rfl⟩ := h1
    have hiZ : i < Z.length := by omega
    obtain ⟨s, hs⟩ : ∃ s, S[i]? = some s := ⟨_, List.getElem?_eq_getElem hi⟩
    obtain ⟨z, hz⟩ : ∃ z, Z[i]? = some z := ⟨_, List.getElem?_eq_getElem hiZ⟩
    have hrep := hZ.2 i s z hs hz
    have hrel := hI.2.2.1 i s hs
    have hrel0 := (hI.th 0).2.2.1 i s hs
    have hgz := gZ_some hz
    have hm := c_victim_ok lc D ci cz ck csh cj a q i 64 (hI.sh hi) hMB (by omega) hrel.sv
    refine ⟨_, _, Ctr_post hm (fun v w2 h => PM_same h), wr_victim0 lc D ci cz ck csh cj hl (by omega) (by omega) ⟨_, _, rfl⟩ rfl (Ctr_w (rk_at hz) (Ctr_post (p_victim lc D ci cz ck csh cj r sh (b 0) Z.length (gZ Z) i s z.1 z.2 (wU ci b kf df nf K kn aw n ++ wF (Z.take i)) (wF (Z.drop (i + 1))) (by omega) hgz hrep hrel.2.1) ?_))⟩
    rintro v w2 ⟨w3, rfl, rfl, hr3⟩
    exact ⟨by rw [sim_victim hrel0], RKW_set hZ hz hr3 (by rw [set_self hs]; exact (hI.th 0).mono (by omega)) (RR_congr hRR rfl rfl) ha (by omega)⟩
  · refine ⟨nI 0, M_th q 1, Ctr_post (c_victim_bad lc D ci cz ck csh cj a q p1 (fun q9 => h1 (by rw [← hsh]; exact (rng (by omega)).mp q9))) (fun v w2 h => PM_same h), wr_victim1 lc D ci cz ck csh cj hl (by omega) (by omega) ⟨_, _, rfl⟩ rfl (CtrT_post (p_victimXS lc D ci cz ck csh cj hl r sh (b 0) Z.length (gZ Z) p1 (wU ci b kf df nf K kn aw n ++ wF Z) (gZ_none (by rw [← hlen]; exact h1))) (fun _ _ h => h) (fun E9 w2 h => by obtain ⟨h1, rfl⟩ := h; exact ⟨h1, base 1 _ (by omega)⟩))⟩
set_option maxRecDepth 100000 in
set_option maxHeartbeats 4000000 in
theorem op_list (lc : Launch) (D : va_G) (ci cz ck csh cj : ClassId) (hl : lc.stackTraces = false) (a : Nat → Nat) {r o T : Nat} {q : MS} {w : va_W} (f : Nat → Int64) (p1 p2 p3 : Int32) (hT : T ≤ 1000) (hR : RKW ci cz ck csh r q T w) : ∃ (mv : Int32) (q2 : MS), Ctr lc D (v_ty ci cz ck csh cj) yX11_list (Cond.code yX11_list cX11_list 6 (some .int) :: vG) { frames := 2, cells := 0, slots := 0, locals := 51 } [.ref (a 0), .int p1, .int p2, .int p3] (wS ci cz a q) 0 0 (PM ci cz ck csh a r q2 mv) ∧ CtrT lc D (v_ty ci cz ck csh cj) yL_list (Cond.codeWith yL_list cL_list 6 (some .int) [(0, 12, 15, 13)] :: vG) { frames := 9, cells := 11, slots := 1300, locals := 205 } [.ref r, .int p1, .int p2, .int p3, .ref o] ([(o, .inl (cj, 1, .inr (.inl f)))] ++ w) 11 1300 (PW ci cz ck csh cj r o q2 (T + 8) mv) (fun _ _ => False) := by
  obtain ⟨sh, b, kf, df, nf, K, kn, aw, n, S, Z, rfl, hZ, hI, hRR, ha, hn⟩ := hR
  have hMB : MB q 64 := hI.mb (by omega) (by rw [hRR.1]; exact hRR.2.1) hRR.2.2.2.1
  have hlen : S.length = Z.length := hZ.1
  have h8 := hI.2.1
  have hsh := hI.1
  have hnow := hI.2.2.2.2.1
  have hu3 := hRR.2.1
  have base : ∀ t T2, T ≤ T2 → RKW ci cz ck csh r (M_th q t) T2 (rkW ci csh r sh b kf df nf K kn aw n Z) := fun t T2 h => ⟨sh, b, kf, df, nf, K, kn, aw, n, S, Z, rfl, hZ, (hI.th t).mono h, RR_congr hRR rfl rfl, ha, by omega⟩
  by_cases h1 : ∃ i, i < S.length ∧ p1 = nI i
  · obtain ⟨i, hi, rfl⟩ := h1
    have hiZ : i < Z.length := by omega
    obtain ⟨s, hs⟩ : ∃ s, S[i]? = some s := ⟨_, List.getElem?_eq_getElem hi⟩
    obtain ⟨z, hz⟩ : ∃ z, Z[i]? = some z := ⟨_, List.getElem?_eq_getElem hiZ⟩
    have hrep := hZ.2 i s z hs hz
    have hrel := hI.2.2.1 i s hs
    have hrel0 := (hI.th 0).2.2.1 i s hs
    have hgz := gZ_some hz
    have hcn := sim_cnt hrel
    have hcn1 : 1 ≤ mLists q i := by unfold mLists; split <;> (try split) <;> omega
    have hcn4 := mLists_le q i
    by_cases h2 : ∃ j, j < aCnt s ∧ p2 = nI j
    · obtain ⟨j, hj, rfl⟩ := h2
      have hm := c_list_ok lc D ci cz ck csh cj a q i j 64 p3 (hI.sh hi) (by omega) hMB (by omega) hrel.sv hrel.ov
      refine ⟨_, _, Ctr_post hm (fun v w2 h => PM_same h), wr_list0 lc D ci cz ck csh cj hl (by omega) (by omega) ⟨_, _, rfl⟩ rfl (Ctr_w (rk_at hz) (Ctr_post (p_list lc D ci cz ck csh cj r sh (b 0) Z.length (gZ Z) i j p3 s z.1 z.2 (wU ci b kf df nf K kn aw n ++ wF (Z.take i)) (wF (Z.drop (i + 1))) (by omega) hgz hrep hrel.2.1 hj) ?_))⟩
      rintro v w2 ⟨w3, rfl, rfl, hr3⟩
      exact ⟨by rw [(sim_list hrel0 hj p3).1], RKW_set hZ hz hr3 (by rw [set_self hs]; exact (hI.th 0).mono (by omega)) (RR_congr hRR rfl rfl) ha (by omega)⟩
    · refine ⟨nI 0, M_th q 1, Ctr_post (c_list_bad2 lc D ci cz ck csh cj a q i 64 p2 p3 (hI.sh hi) hMB (fun q9 => h2 (by obtain ⟨j, j1, j2, j3⟩ := (rngl (by omega) (by omega)).mp q9; exact ⟨j, by omega, j3⟩))) (fun v w2 h => PM_same h), wr_list1 lc D ci cz ck csh cj hl (by omega) (by omega) ⟨_, _, rfl⟩ rfl (CtrT_w (rk_at hz) (CtrT_post (p_listXL lc D ci cz ck csh cj hl r sh (b 0) Z.length (gZ Z) i p2 p3 s z.1 z.2 (wU ci b kf df nf K kn aw n ++ wF (Z.take i)) (wF (Z.drop (i + 1))) (by omega) hgz hrep hrel.2.1 (fun j9 hj9 e9 => h2 ⟨j9, hj9, e9⟩)) (fun _ _ h => h) ?_))⟩
      rintro E9 w2 ⟨h1, w3, rfl, hr3⟩
      exact ⟨h1, RKW_set hZ hz hr3 (by rw [set_self hs]; exact (hI.th 1).mono (by omega)) (RR_congr hRR rfl rfl) ha (by omega)⟩
  · refine ⟨nI 0, M_th q 1, Ctr_post (c_list_bad1 lc D ci cz ck csh cj a q p1 p2 p3 (fun q9 => h1 (by rw [← hsh]; exact (rng (by omega)).mp q9))) (fun v w2 h => PM_same h), wr_list1 lc D ci cz ck csh cj hl (by omega) (by omega) ⟨_, _, rfl⟩ rfl (CtrT_post (p_listXS lc D ci cz ck csh cj hl r sh (b 0) Z.length (gZ Z) p1 (wU ci b kf df nf K kn aw n ++ wF Z) p2 p3 (gZ_none (by rw [← hlen]; exact h1))) (fun _ _ h => h) (fun E9 w2 h => by obtain ⟨h1, rfl⟩ := h; exact ⟨h1, base 1 _ (by omega)⟩))⟩
set_option maxRecDepth 100000 in
set_option maxHeartbeats 4000000 in
theorem op_told (lc : Launch) (D : va_G) (ci cz ck csh cj : ClassId) (hl : lc.stackTraces = false) (a : Nat → Nat) {r o T : Nat} {q : MS} {w : va_W} (f : Nat → Int64) (p1 p2 : Int32) (hT : T ≤ 1000) (hR : RKW ci cz ck csh r q T w) : ∃ (mv : Int32) (q2 : MS), Ctr lc D (v_ty ci cz ck csh cj) yX11_told (Cond.code yX11_told cX11_told 3 (some .int) :: vG) { frames := 2, cells := 0, slots := 0, locals := 46 } [.ref (a 0), .int p1, .int p2] (wS ci cz a q) 0 0 (PM ci cz ck csh a r q2 mv) ∧ CtrT lc D (v_ty ci cz ck csh cj) yL_told (Cond.codeWith yL_told cL_told 5 (some .int) [(0, 10, 13, 13)] :: vG) { frames := 9, cells := 11, slots := 1300, locals := 204 } [.ref r, .int p1, .int p2, .ref o] ([(o, .inl (cj, 1, .inr (.inl f)))] ++ w) 11 1300 (PW ci cz ck csh cj r o q2 (T + 8) mv) (fun _ _ => False) := by
  obtain ⟨sh, b, kf, df, nf, K, kn, aw, n, S, Z, rfl, hZ, hI, hRR, ha, hn⟩ := hR
  have hMB : MB q 64 := hI.mb (by omega) (by rw [hRR.1]; exact hRR.2.1) hRR.2.2.2.1
  have hlen : S.length = Z.length := hZ.1
  have h8 := hI.2.1
  have hsh := hI.1
  have hnow := hI.2.2.2.2.1
  have hu3 := hRR.2.1
  have base : ∀ t T2, T ≤ T2 → RKW ci cz ck csh r (M_th q t) T2 (rkW ci csh r sh b kf df nf K kn aw n Z) := fun t T2 h => ⟨sh, b, kf, df, nf, K, kn, aw, n, S, Z, rfl, hZ, (hI.th t).mono h, RR_congr hRR rfl rfl, ha, by omega⟩
  by_cases h1 : ∃ i, i < S.length ∧ p1 = nI i
  · obtain ⟨i, hi, rfl⟩ := h1
    have hiZ : i < Z.length := by omega
    obtain ⟨s, hs⟩ : ∃ s, S[i]? = some s := ⟨_, List.getElem?_eq_getElem hi⟩
    obtain ⟨z, hz⟩ : ∃ z, Z[i]? = some z := ⟨_, List.getElem?_eq_getElem hiZ⟩
    have hrep := hZ.2 i s z hs hz
    have hrel := hI.2.2.1 i s hs
    have hrel0 := (hI.th 0).2.2.1 i s hs
    have hgz := gZ_some hz
    by_cases h2 : ∃ j, j ≤ 7 ∧ p2 = nI j
    · obtain ⟨j, hj, rfl⟩ := h2
      have hm := c_told_ok lc D ci cz ck csh cj a q i j 64 (hI.sh hi) hj hMB (by omega)
      refine ⟨_, _, Ctr_post hm (fun v w2 h => PM_same h), wr_told0 lc D ci cz ck csh cj hl (by omega) (by omega) ⟨_, _, rfl⟩ rfl (Ctr_w (rk_at hz) (Ctr_post (p_told lc D ci cz ck csh cj r sh (b 0) Z.length (gZ Z) i j s z.1 z.2 (wU ci b kf df nf K kn aw n ++ wF (Z.take i)) (wF (Z.drop (i + 1))) (by omega) hgz hrep hrel.2.1 hj) ?_))⟩
      rintro v w2 ⟨w3, rfl, rfl, hr3⟩
      exact ⟨by rw [sim_told hrel0], RKW_set hZ hz hr3 (by rw [set_self hs]; exact (hI.th 0).mono (by omega)) (RR_congr hRR rfl rfl) ha (by omega)⟩
    · refine ⟨nI 0, M_th q 1, Ctr_post (c_told_bad lc D ci cz ck csh cj a q (nI i) p2 (fun q9 => h2 (by obtain ⟨j, j1, j2, j3⟩ := (rngl (by omega) (by omega)).mp q9.2; exact ⟨j, by omega, j3⟩))) (fun v w2 h => PM_same h), wr_told1 lc D ci cz ck csh cj hl (by omega) (by omega) ⟨_, _, rfl⟩ rfl (CtrT_post (p_toldXN lc D ci cz ck csh cj hl r sh (b 0) Z.length (gZ Z) i (z.1 0) p2 (wU ci b kf df nf K kn aw n ++ wF Z) (by omega) hgz (fun j9 hj9 e9 => h2 ⟨j9, hj9, e9⟩)) (fun _ _ h => h) (fun E9 w2 h => by obtain ⟨h1, rfl⟩ := h; exact ⟨h1, base 1 _ (by omega)⟩))⟩
  · refine ⟨nI 0, M_th q 1, Ctr_post (c_told_bad lc D ci cz ck csh cj a q p1 p2 (fun q9 => h1 (by rw [← hsh]; exact (rng (by omega)).mp q9.1))) (fun v w2 h => PM_same h), wr_told1 lc D ci cz ck csh cj hl (by omega) (by omega) ⟨_, _, rfl⟩ rfl (CtrT_post (p_toldXS lc D ci cz ck csh cj hl r sh (b 0) Z.length (gZ Z) p1 (wU ci b kf df nf K kn aw n ++ wF Z) p2 (gZ_none (by rw [← hlen]; exact h1))) (fun _ _ h => h) (fun E9 w2 h => by obtain ⟨h1, rfl⟩ := h; exact ⟨h1, base 1 _ (by omega)⟩))⟩
set_option maxRecDepth 100000 in
set_option maxHeartbeats 4000000 in
theorem op_use (lc : Launch) (D : va_G) (ci cz ck csh cj : ClassId) (hl : lc.stackTraces = false) (a : Nat → Nat) {r o T : Nat} {q : MS} {w : va_W} (f : Nat → Int64) (p1 : Int32) (hT : T ≤ 1000) (hR : RKW ci cz ck csh r q T w) : ∃ (mv : Int32) (q2 : MS), Ctr lc D (v_ty ci cz ck csh cj) yX11_use (Cond.code yX11_use cX11_use 6 (some .int) :: vG) { frames := 7, cells := 0, slots := 0, locals := 169 } [.ref (a 0), .int p1] (wS ci cz a q) 0 0 (PM ci cz ck csh a r q2 mv) ∧ CtrT lc D (v_ty ci cz ck csh cj) yL_use (Cond.codeWith yL_use cL_use 4 (some .int) [(0, 9, 12, 13), (0, 9, 15, 15)] :: vG) { frames := 9, cells := 11, slots := 1300, locals := 204 } [.ref r, .int p1, .ref o] ([(o, .inl (cj, 1, .inr (.inl f)))] ++ w) 11 1300 (PW ci cz ck csh cj r o q2 (T + 8) mv) (fun _ _ => False) := by
  obtain ⟨sh, b, kf, df, nf, K, kn, aw, n, S, Z, rfl, hZ, hI, hRR, ha, hn⟩ := hR
  have hMB : MB q 64 := hI.mb (by omega) (by rw [hRR.1]; exact hRR.2.1) hRR.2.2.2.1
  have hlen : S.length = Z.length := hZ.1
  have h8 := hI.2.1
  have hsh := hI.1
  have hnow := hI.2.2.2.2.1
  have hu3 := hRR.2.1
  have base : ∀ t T2, T ≤ T2 → RKW ci cz ck csh r (M_th q t) T2 (rkW ci csh r sh b kf df nf K kn aw n Z) := fun t T2 h => ⟨sh, b, kf, df, nf, K, kn, aw, n, S, Z, rfl, hZ, (hI.th t).mono h, RR_congr hRR rfl rfl, ha, by omega⟩
  by_cases h2 : ∃ y, y < 512 ∧ p1 = nI y
  · obtain ⟨y, hy, rfl⟩ := h2
    by_cases hf : n < 300
    · have hun : m_uses (M_row q y) = n + 1 := by show m_uses q + 1 = _; rw [hRR.1]
      have hN := sim_useN (hI.row y) hy
      have hrw : ∀ j, m_row (M_row q y) j < 512 := fun j => by
        show va_up (m_row q) (m_uses q) y j < 512
        unfold va_up
        split
        · exact hy
        · exact hRR.2.2.2.1 j
      have hm := c_use_ok lc D ci cz ck csh cj a q y 64 64 hy (by rw [hRR.1]; exact hf) hMB (by omega) (fun k hk => by
        have i1 := (hN k (by omega)).1
        rw [i1.1, uS_len, hsh]) (fun k hk => by
        obtain ⟨i1, i2, i3, i4⟩ := hN k (by omega)
        have hk2 : k < S.length := by omega
        refine ⟨i1.mb (by omega) (by rw [i4, hun]; omega) (by rw [i3]; exact hrw), by have := i1.2.2.2.2.1; omega, ?_, trivial⟩
        have hk3 : k < (uS S y (m_uses (M_row q y)) k).length := by rw [uS_len]; exact hk2
        exact (i1.2.2.1 k _ (List.getElem?_eq_getElem hk3)).sv)
      obtain ⟨i1, i2, i3, i4⟩ := hN S.length (Nat.le_refl _)
      rw [uS_all, hun] at i1
      rw [hsh] at hm
      have hA : ∀ s ∈ S, AI s ∧ AI (aFetch s y) := by
        intro s hs
        obtain ⟨j, hj⟩ := List.mem_iff_getElem?.mp hs
        exact ⟨(hI.2.2.1 j s hj).2.1, (sim_get hI hj hy).2.2.2.2.2⟩
      refine ⟨_, _, Ctr_post hm (fun v w2 h => PM_same h), wr_use0 lc D ci cz ck csh cj hl (by omega) (by omega) ⟨_, _, rfl⟩ (useN_th _ _ _) (Ctr_post (p_use lc D ci cz ck csh cj r sh b kf df nf K kn aw n S Z y hy hf hRR.2.2.1 (RR_le hRR) hZ (by omega) hA) ?_)⟩
      rintro v w2 ⟨Z2, K2, kn2, rfl, rfl, hg2, hZ2, hK2, hkn2⟩
      refine ⟨by rw [i2], sh, b, va_up kf n y, _, _, K2, kn2, aw, n + 1, S.map (uAt y (n + 1)), Z2, ?_, hZ2, i1.mono (by omega), RR_congr (RR_add hRR hf hy hK2) i3 i4, ha, by omega⟩
      have e2 : Z.length = Z2.length := by
        have := hZ2.1
        rw [List.length_map] at this
        omega
      rw [← hg2, e2]
    · refine ⟨nI 0, M_th q 2, Ctr_post (c_use_bad2 lc D ci cz ck csh cj a q (nI y) (okK_nI hy) (by rw [hRR.1]; omega)) (fun v w2 h => PM_same h), wr_use2 lc D ci cz ck csh cj hl (by omega) (by omega) ⟨_, _, rfl⟩ rfl (CtrT_post (p_useXF lc D ci cz ck csh cj hl r sh Z.length (gZ Z) b kf df nf K kn aw n (wF Z) y hy (by omega)) (fun _ _ h => h) (fun E9 w2 h => by obtain ⟨h1, rfl⟩ := h; exact ⟨h1, base 2 _ (by omega)⟩))⟩
  · refine ⟨nI 0, M_th q 1, Ctr_post (c_use_bad1 lc D ci cz ck csh cj a q p1 (fun q9 => h2 ((rng (by omega)).mp q9))) (fun v w2 h => PM_same h), wr_use1 lc D ci cz ck csh cj hl (by omega) (by omega) ⟨_, _, rfl⟩ rfl (CtrT_post (p_useXK lc D ci cz ck csh cj hl r sh (b 0) Z.length (gZ Z) p1 (wU ci b kf df nf K kn aw n ++ wF Z) (fun y9 hy9 e9 => h2 ⟨y9, hy9, e9⟩)) (fun _ _ h => h) (fun E9 w2 h => by obtain ⟨h1, rfl⟩ := h; exact ⟨h1, base 1 _ (by omega)⟩))⟩
set_option maxRecDepth 100000 in
set_option maxHeartbeats 4000000 in
theorem op_distance (lc : Launch) (D : va_G) (ci cz ck csh cj : ClassId) (hl : lc.stackTraces = false) (a : Nat → Nat) {r o T : Nat} {q : MS} {w : va_W} (f : Nat → Int64) (p1 : Int32) (hT : T ≤ 1000) (hR : RKW ci cz ck csh r q T w) : ∃ (mv : Int32) (q2 : MS), Ctr lc D (v_ty ci cz ck csh cj) yX11_distance (Cond.code yX11_distance cX11_distance 2 (some .int) :: vG) { frames := 1, cells := 0, slots := 0, locals := 23 } [.ref (a 0), .int p1] (wS ci cz a q) 0 0 (PM ci cz ck csh a r q2 mv) ∧ CtrT lc D (v_ty ci cz ck csh cj) yL_distance (Cond.codeWith yL_distance cL_distance 4 (some .int) [(0, 9, 12, 13)] :: vG) { frames := 8, cells := 11, slots := 1300, locals := 181 } [.ref r, .int p1, .ref o] ([(o, .inl (cj, 1, .inr (.inl f)))] ++ w) 11 1300 (PW ci cz ck csh cj r o q2 (T + 8) mv) (fun _ _ => False) := by
  obtain ⟨sh, b, kf, df, nf, K, kn, aw, n, S, Z, rfl, hZ, hI, hRR, ha, hn⟩ := hR
  have hMB : MB q 64 := hI.mb (by omega) (by rw [hRR.1]; exact hRR.2.1) hRR.2.2.2.1
  have hlen : S.length = Z.length := hZ.1
  have h8 := hI.2.1
  have hsh := hI.1
  have hnow := hI.2.2.2.2.1
  have hu3 := hRR.2.1
  have base : ∀ t T2, T ≤ T2 → RKW ci cz ck csh r (M_th q t) T2 (rkW ci csh r sh b kf df nf K kn aw n Z) := fun t T2 h => ⟨sh, b, kf, df, nf, K, kn, aw, n, S, Z, rfl, hZ, (hI.th t).mono h, RR_congr hRR rfl rfl, ha, by omega⟩
  by_cases h1 : ∃ i, i < n ∧ p1 = nI i
  · obtain ⟨i, hi, rfl⟩ := h1
    have hm := c_distance_ok lc D ci cz ck csh cj a q i 64 (by rw [hRR.1]; exact hi) hMB
    refine ⟨_, M_th q 0, Ctr_post hm (fun v w2 h => PM_seen h), wr_distance0 lc D ci cz ck csh cj hl (by omega) (by omega) ⟨_, _, rfl⟩ rfl (Ctr_post (p_distance lc D ci cz ck csh cj r sh Z.length (gZ Z) b kf df nf K kn aw n (wF Z) i hu3 hi) ?_)⟩
    rintro v w2 ⟨rfl, rfl⟩
    exact ⟨by rw [RR_dist hRR hi]; rfl, base 0 _ (by omega)⟩
  · have hb : ¬ (nI 0 ≤ p1 ∧ p1 ≤ nI (m_uses q) - nI 1) := by
      rw [hRR.1]
      rintro ⟨z1, z2⟩
      obtain ⟨j, hj, rfl⟩ := nI_of (Int32.not_lt.mpr z1)
      by_cases c : n = 0
      · subst c
        have : nI 0 - nI 1 < 0 := by decide
        have z3 := Int32.lt_of_le_of_lt z2 this
        exact nI_pos hj z3
      · rw [pk_sub (by omega), nI_leI hj (by omega)] at z2
        exact h1 ⟨j, by omega, rfl⟩
    refine ⟨nI 0, M_th q 1, Ctr_post (c_distance_bad lc D ci cz ck csh cj a q p1 hb) (fun v w2 h => PM_same h), wr_distance1 lc D ci cz ck csh cj hl (by omega) (by omega) ⟨_, _, rfl⟩ rfl (CtrT_post (p_distanceX lc D ci cz ck csh cj hl r sh Z.length (gZ Z) b kf df nf K kn aw n (wF Z) p1 hu3 (fun j9 hj9 e9 => h1 ⟨j9, hj9, e9⟩)) (fun _ _ h => h) (fun E9 w2 h => by obtain ⟨h1, rfl⟩ := h; exact ⟨h1, base 1 _ (by omega)⟩))⟩
set_option maxRecDepth 100000 in
set_option maxHeartbeats 4000000 in
theorem op_curve (lc : Launch) (D : va_G) (ci cz ck csh cj : ClassId) (hl : lc.stackTraces = false) (a : Nat → Nat) {r o T : Nat} {q : MS} {w : va_W} (f : Nat → Int64) (p1 : Int32) (hT : T ≤ 1000) (hR : RKW ci cz ck csh r q T w) : ∃ (mv : Int32) (q2 : MS), Ctr lc D (v_ty ci cz ck csh cj) yX11_curve (Cond.code yX11_curve cX11_curve 5 (some .int) :: vG) { frames := 1, cells := 0, slots := 0, locals := 23 } [.ref (a 0), .int p1] (wS ci cz a q) 0 0 (PM ci cz ck csh a r q2 mv) ∧ CtrT lc D (v_ty ci cz ck csh cj) yL_curve (Cond.codeWith yL_curve cL_curve 4 (some .int) [(0, 9, 12, 13)] :: vG) { frames := 9, cells := 11, slots := 1300, locals := 201 } [.ref r, .int p1, .ref o] ([(o, .inl (cj, 1, .inr (.inl f)))] ++ w) 11 1300 (PW ci cz ck csh cj r o q2 (T + 8) mv) (fun _ _ => False) := by
  obtain ⟨sh, b, kf, df, nf, K, kn, aw, n, S, Z, rfl, hZ, hI, hRR, ha, hn⟩ := hR
  have hMB : MB q 64 := hI.mb (by omega) (by rw [hRR.1]; exact hRR.2.1) hRR.2.2.2.1
  have hlen : S.length = Z.length := hZ.1
  have h8 := hI.2.1
  have hsh := hI.1
  have hnow := hI.2.2.2.2.1
  have hu3 := hRR.2.1
  have base : ∀ t T2, T ≤ T2 → RKW ci cz ck csh r (M_th q t) T2 (rkW ci csh r sh b kf df nf K kn aw n Z) := fun t T2 h => ⟨sh, b, kf, df, nf, K, kn, aw, n, S, Z, rfl, hZ, (hI.th t).mono h, RR_congr hRR rfl rfl, ha, by omega⟩
  by_cases h1 : ∃ i, 1 ≤ i ∧ i ≤ 64 ∧ p1 = nI i
  · obtain ⟨cp, hc1, hc2, rfl⟩ := h1
    have hm := c_curve_ok lc D ci cz ck csh cj a q cp 64 hc1 hc2 hMB
    refine ⟨_, M_th q 0, Ctr_post hm (fun v w2 h => PM_seen h), wr_curve0 lc D ci cz ck csh cj hl (by omega) (by omega) ⟨_, _, rfl⟩ rfl (Ctr_post (p_curve lc D ci cz ck csh cj r sh Z.length (gZ Z) b kf df nf K kn aw n (wF Z) cp hu3 hRR.2.2.1 hc1 hc2) ?_)⟩
    rintro v w2 ⟨rfl, rfl⟩
    refine ⟨?_, base 0 _ (by omega)⟩
    have e9 := RR_curve hRR cp n (Nat.le_refl _)
    show some (Value.int (nI (uCurve df cp n))) = some (.int (nI (mCurve (m_row q) cp (m_uses q))))
    rw [e9, hRR.1]
  · refine ⟨nI 0, M_th q 1, Ctr_post (c_curve_bad lc D ci cz ck csh cj a q p1 (fun q9 => h1 ((rngl (by omega) (by omega)).mp q9)) (by rw [hRR.1]; exact hu3)) (fun v w2 h => PM_same h), wr_curve1 lc D ci cz ck csh cj hl (by omega) (by omega) ⟨_, _, rfl⟩ rfl (CtrT_post (p_curveX lc D ci cz ck csh cj hl r sh (b 0) Z.length (gZ Z) p1 (wU ci b kf df nf K kn aw n ++ wF Z) (fun y9 a9 b9 e9 => h1 ⟨y9, a9, b9, e9⟩)) (fun _ _ h => h) (fun E9 w2 h => by obtain ⟨h1, rfl⟩ := h; exact ⟨h1, base 1 _ (by omega)⟩))⟩
set_option maxRecDepth 100000 in
set_option maxHeartbeats 4000000 in
theorem op_optimum (lc : Launch) (D : va_G) (ci cz ck csh cj : ClassId) (hl : lc.stackTraces = false) (a : Nat → Nat) {r o T : Nat} {q : MS} {w : va_W} (f : Nat → Int64) (p1 : Int32) (hT : T ≤ 1000) (hR : RKW ci cz ck csh r q T w) : ∃ (mv : Int32) (q2 : MS), Ctr lc D (v_ty ci cz ck csh cj) yX11_optimum (Cond.code yX11_optimum cX11_optimum 7 (some .int) :: vG) { frames := 1, cells := 0, slots := 0, locals := 23 } [.ref (a 0), .int p1] (wS ci cz a q) 0 0 (PM ci cz ck csh a r q2 mv) ∧ CtrT lc D (v_ty ci cz ck csh cj) yL_optimum (Cond.codeWith yL_optimum cL_optimum 4 (some .int) [(0, 9, 12, 13)] :: vG) { frames := 9, cells := 11, slots := 1300, locals := 201 } [.ref r, .int p1, .ref o] ([(o, .inl (cj, 1, .inr (.inl f)))] ++ w) 11 1300 (PW ci cz ck csh cj r o q2 (T + 8) mv) (fun _ _ => False) := by
  obtain ⟨sh, b, kf, df, nf, K, kn, aw, n, S, Z, rfl, hZ, hI, hRR, ha, hn⟩ := hR
  have hMB : MB q 64 := hI.mb (by omega) (by rw [hRR.1]; exact hRR.2.1) hRR.2.2.2.1
  have hlen : S.length = Z.length := hZ.1
  have h8 := hI.2.1
  have hsh := hI.1
  have hnow := hI.2.2.2.2.1
  have hu3 := hRR.2.1
  have base : ∀ t T2, T ≤ T2 → RKW ci cz ck csh r (M_th q t) T2 (rkW ci csh r sh b kf df nf K kn aw n Z) := fun t T2 h => ⟨sh, b, kf, df, nf, K, kn, aw, n, S, Z, rfl, hZ, (hI.th t).mono h, RR_congr hRR rfl rfl, ha, by omega⟩
  by_cases h1 : ∃ i, 1 ≤ i ∧ i ≤ 64 ∧ p1 = nI i
  · obtain ⟨cp, hc1, hc2, rfl⟩ := h1
    have hm := c_optimum_ok lc D ci cz ck csh cj a q cp 64 hc1 hc2 hMB
    refine ⟨_, M_th q 0, Ctr_post hm (fun v w2 h => PM_held h), wr_optimum0 lc D ci cz ck csh cj hl (by omega) (by omega) ⟨_, _, rfl⟩ rfl (Ctr_post (p_optimum lc D ci cz ck csh cj r sh Z.length (gZ Z) b kf df nf K kn aw n (wF Z) cp hu3 hRR.2.2.1 ha hRR.2.2.2.2.2.2.2.2 hc1 hc2) ?_)⟩
    rintro v w2 ⟨aw2, ha2, rfl, rfl⟩
    refine ⟨?_, sh, b, kf, df, nf, K, kn, aw2, n, S, Z, rfl, hZ, (hI.th 0).mono (by omega), RR_congr hRR rfl rfl, ha2, by omega⟩
    show some (Value.int (nI (fN nf cp aw n).1)) = some (.int (nI (oN (m_row q) (m_uses q) cp (m_held q) (m_uses q)).1))
    rw [RR_opt hRR hc1 aw (m_held q)]
  · refine ⟨nI 0, M_th q 1, Ctr_post (c_optimum_bad lc D ci cz ck csh cj a q p1 (fun q9 => h1 ((rngl (by omega) (by omega)).mp q9)) (by rw [hRR.1]; exact hu3)) (fun v w2 h => PM_same h), wr_optimum1 lc D ci cz ck csh cj hl (by omega) (by omega) ⟨_, _, rfl⟩ rfl (CtrT_post (p_optimumX lc D ci cz ck csh cj hl r sh (b 0) Z.length (gZ Z) p1 (wU ci b kf df nf K kn aw n ++ wF Z) (fun y9 a9 b9 e9 => h1 ⟨y9, a9, b9, e9⟩)) (fun _ _ h => h) (fun E9 w2 h => by obtain ⟨h1, rfl⟩ := h; exact ⟨h1, base 1 _ (by omega)⟩))⟩
set_option maxRecDepth 100000 in
set_option maxHeartbeats 4000000 in
theorem op_count (lc : Launch) (D : va_G) (ci cz ck csh cj : ClassId) (hl : lc.stackTraces = false) (a : Nat → Nat) {r o T : Nat} {q : MS} {w : va_W} (f : Nat → Int64) (p1 : Int32) (hT : T ≤ 1000) (hR : RKW ci cz ck csh r q T w) : ∃ (mv : Int32) (q2 : MS), Ctr lc D (v_ty ci cz ck csh cj) yX11_count (Cond.code yX11_count cX11_count 4 (some .int) :: vG) { frames := 1, cells := 0, slots := 0, locals := 23 } [.ref (a 0), .int p1] (wS ci cz a q) 0 0 (PM ci cz ck csh a r q2 mv) ∧ CtrT lc D (v_ty ci cz ck csh cj) yL_count (Cond.codeWith yL_count cL_count 4 (some .int) [(0, 9, 12, 13)] :: vG) { frames := 8, cells := 11, slots := 1300, locals := 181 } [.ref r, .int p1, .ref o] ([(o, .inl (cj, 1, .inr (.inl f)))] ++ w) 11 1300 (PW ci cz ck csh cj r o q2 (T + 8) mv) (fun _ _ => False) := by
  obtain ⟨sh, b, kf, df, nf, K, kn, aw, n, S, Z, rfl, hZ, hI, hRR, ha, hn⟩ := hR
  have hMB : MB q 64 := hI.mb (by omega) (by rw [hRR.1]; exact hRR.2.1) hRR.2.2.2.1
  have hlen : S.length = Z.length := hZ.1
  have h8 := hI.2.1
  have hsh := hI.1
  have hnow := hI.2.2.2.2.1
  have hu3 := hRR.2.1
  have base : ∀ t T2, T ≤ T2 → RKW ci cz ck csh r (M_th q t) T2 (rkW ci csh r sh b kf df nf K kn aw n Z) := fun t T2 h => ⟨sh, b, kf, df, nf, K, kn, aw, n, S, Z, rfl, hZ, (hI.th t).mono h, RR_congr hRR rfl rfl, ha, by omega⟩
  by_cases h1 : ∃ i, i ≤ 2 ∧ p1 = nI i
  · obtain ⟨j, hj, rfl⟩ := h1
    have hm := c_count_ok lc D ci cz ck csh cj a q j 64 hj hMB
    have hc : j = 0 ∨ j = 1 ∨ j = 2 := by omega
    rcases hc with rfl | rfl | rfl
    · refine ⟨_, M_th q 0, Ctr_post hm (fun v w2 h => PM_seen h), wr_count0 lc D ci cz ck csh cj hl (by omega) (by omega) ⟨_, _, rfl⟩ rfl (Ctr_post (p_count0 lc D ci cz ck csh cj r sh Z.length (gZ Z) b kf df nf K kn aw n (wF Z)) ?_)⟩
      rintro v w2 ⟨rfl, rfl⟩
      refine ⟨?_, base 0 _ (by omega)⟩
      show some (Value.int (nI Z.length)) = some (.int (nI (m_sh q)))
      rw [hsh, hlen]
    · refine ⟨_, M_th q 0, Ctr_post hm (fun v w2 h => PM_seen h), wr_count0 lc D ci cz ck csh cj hl (by omega) (by omega) ⟨_, _, rfl⟩ rfl (Ctr_post (p_count1 lc D ci cz ck csh cj r sh Z.length (gZ Z) b kf df nf K kn aw n (wF Z)) ?_)⟩
      rintro v w2 ⟨rfl, rfl⟩
      refine ⟨?_, base 0 _ (by omega)⟩
      show some (Value.int (nI n)) = some (.int (nI (m_uses q)))
      rw [hRR.1]
    · refine ⟨_, M_th q 0, Ctr_post hm (fun v w2 h => PM_seen h), wr_count0 lc D ci cz ck csh cj hl (by omega) (by omega) ⟨_, _, rfl⟩ rfl (Ctr_post (p_count2 lc D ci cz ck csh cj r sh Z.length (gZ Z) b kf df nf K kn aw n (wF Z)) ?_)⟩
      rintro v w2 ⟨rfl, rfl⟩
      refine ⟨?_, base 0 _ (by omega)⟩
      show some (Value.int (nI kn)) = some (.int (nI (mNew (m_row q) (m_uses q))))
      rw [RR_new hRR]
  · refine ⟨nI 0, M_th q 1, Ctr_post (c_count_bad lc D ci cz ck csh cj a q p1 (fun q9 => h1 (by obtain ⟨j, j1, j2, j3⟩ := (rngl (by omega) (by omega)).mp q9; exact ⟨j, j2, j3⟩))) (fun v w2 h => PM_same h), wr_count1 lc D ci cz ck csh cj hl (by omega) (by omega) ⟨_, _, rfl⟩ rfl (CtrT_post (p_countX lc D ci cz ck csh cj hl r sh (b 0) Z.length (gZ Z) p1 (wU ci b kf df nf K kn aw n ++ wF Z) (fun e9 => h1 ⟨0, by omega, e9⟩) (fun e9 => h1 ⟨1, by omega, e9⟩) (fun e9 => h1 ⟨2, by omega, e9⟩)) (fun _ _ h => h) (fun E9 w2 h => by obtain ⟨h1, rfl⟩ := h; exact ⟨h1, base 1 _ (by omega)⟩))⟩
theorem RKW_new {ci cz ck csh : ClassId} {r sh : Nat} {b kf : Nat → Nat} {df : Nat → Int32} {nf : Nat → Nat} {K : Nat → Int32} {kn : Nat} {aw : Nat → Nat} {n : Nat} {S : List AS} {Z : ZT} {T2 : Nat} {s2 : AS} {a : Nat → Nat} {w3 : va_W} {q2 : MS} (hZ : Zr ci cz ck S Z) (hr : Rep ci cz ck s2 a w3) (hI : Inv q2 (S ++ [s2]) T2) (hRR : RR q2 kf df nf K kn n) (ha : ∀ j, aw j ≤ 300) (hn : n ≤ T2) : RKW ci cz ck csh r q2 T2 ([(r, .inr (8, [.ref sh, .ref (b 0), .int (nI (Z.length + 1))])), (sh, .inl (csh, 8, .inr (.inr (.inr (.inr (va_up (gZ Z) Z.length (some (a 0))))))))] ++ (wU ci b kf df nf K kn aw n ++ wF Z) ++ w3) := by
  have hl := hZ.1
  refine ⟨sh, b, kf, df, nf, K, kn, aw, n, S ++ [s2], Z ++ [(a, w3)], ?_, ⟨by rw [List.length_append, List.length_append, hl]; rfl, fun j s z hs hz => ?_⟩, hI, hRR, ha, hn⟩
  · have eg : gZ (Z ++ [(a, w3)]) = va_up (gZ Z) Z.length (some (a 0)) := by
      funext j
      unfold gZ va_up
      rw [List.getElem?_append]
      by_cases c : j = Z.length
      · subst c
        rw [if_pos rfl, if_neg (Nat.lt_irrefl _), Nat.sub_self]; rfl
      · rw [if_neg c]
        by_cases d : j < Z.length
        · rw [if_pos d]
        · rw [if_neg d, List.getElem?_eq_none (by rw [List.length_singleton]; omega)]
          show Option.map _ none = Option.map _ Z[j]?
          rw [List.getElem?_eq_none (by omega)]
    have ew : wF (Z ++ [(a, w3)]) = wF Z ++ w3 := by
      unfold wF
      rw [List.flatMap_append]
      simp
    show _ = [(r, .inr (8, [.ref sh, .ref (b 0), .int (nI (Z ++ [(a, w3)]).length)])), (sh, .inl (csh, 8, .inr (.inr (.inr (.inr (gZ (Z ++ [(a, w3)])))))))] ++ wU ci b kf df nf K kn aw n ++ wF (Z ++ [(a, w3)])
    rw [eg, ew, List.length_append]
    simp only [List.append_assoc, List.length_singleton]
  · rw [List.getElem?_append] at hs hz
    by_cases c : j < S.length
    · rw [if_pos c] at hs
      rw [if_pos (by omega)] at hz
      exact hZ.2 j s z hs hz
    · rw [if_neg c] at hs
      rw [if_neg (by omega)] at hz
      have hj : j = S.length := by
        have := (List.getElem?_eq_some_iff.mp hs).1
        rw [List.length_singleton] at this
        omega
      subst hj
      rw [Nat.sub_self] at hs
      rw [hl, Nat.sub_self] at hz
      cases Option.some.inj hs
      cases Option.some.inj hz
      exact hr
set_option maxRecDepth 100000 in
set_option maxHeartbeats 4000000 in
theorem op_shelf (lc : Launch) (D : va_G) (ci cz ck csh cj : ClassId) (hl : lc.stackTraces = false) (a : Nat → Nat) {r o T : Nat} {q : MS} {w : va_W} (f : Nat → Int64) (p1 p2 p3 p4 : Int32) (hT : T ≤ 1000) (hR : RKW ci cz ck csh r q T w) : ∃ (mv : Int32) (q2 : MS), Ctr lc D (v_ty ci cz ck csh cj) yX11_shelf (Cond.code yX11_shelf cX11_shelf 7 (some .int) :: vG) { frames := 1, cells := 0, slots := 0, locals := 22 } [.ref (a 0), .int p1, .int p2, .int p3, .int p4] (wS ci cz a q) 0 0 (PM ci cz ck csh a r q2 mv) ∧ CtrT lc D (v_ty ci cz ck csh cj) yL_shelf (Cond.codeWith yL_shelf cL_shelf 7 (some .int) [(0, 14, 17, 13), (0, 14, 21, 15)] :: vG) { frames := 9, cells := 11, slots := 1300, locals := 204 } [.ref r, .int p1, .int p2, .int p3, .int p4, .ref o] ([(o, .inl (cj, 1, .inr (.inl f)))] ++ w) 11 1300 (PW ci cz ck csh cj r o q2 (T + 8) mv) (fun _ _ => False) := by
  obtain ⟨sh, b, kf, df, nf, K, kn, aw, n, S, Z, rfl, hZ, hI, hRR, ha, hn⟩ := hR
  have hMB : MB q 64 := hI.mb (by omega) (by rw [hRR.1]; exact hRR.2.1) hRR.2.2.2.1
  have hlen : S.length = Z.length := hZ.1
  have h8 := hI.2.1
  have hsh := hI.1
  have hnow := hI.2.2.2.2.1
  have hu3 := hRR.2.1
  have base : ∀ t T2, T ≤ T2 → RKW ci cz ck csh r (M_th q t) T2 (rkW ci csh r sh b kf df nf K kn aw n Z) := fun t T2 h => ⟨sh, b, kf, df, nf, K, kn, aw, n, S, Z, rfl, hZ, (hI.th t).mono h, RR_congr hRR rfl rfl, ha, by omega⟩
  by_cases h1 : ∃ k, k ≤ 5 ∧ p1 = nI k
  · obtain ⟨k, hk, rfl⟩ := h1
    by_cases h2 : ∃ c, 1 ≤ c ∧ c ≤ 64 ∧ p2 = nI c
    · obtain ⟨cp, hc1, hc2, rfl⟩ := h2
      by_cases h3 : k = 4 → ∃ il gl, 1 ≤ il ∧ il ≤ cp ∧ 1 ≤ gl ∧ gl ≤ 64 ∧ p3 = nI il ∧ p4 = nI gl
      · have hok : okSh (nI k) (nI cp) p3 p4 := by
          refine ⟨(rngl (by omega) (by omega)).mpr ⟨k, by omega, hk, rfl⟩, (rngl (by omega) (by omega)).mpr ⟨cp, hc1, hc2, rfl⟩, fun e => ?_⟩
          obtain ⟨il, gl, q1, q2, q3, q4, rfl, rfl⟩ := h3 ((nI_eq (by omega) (by omega)).mp e)
          exact ⟨(rngl (by omega) (by omega)).mpr ⟨il, q1, q2, rfl⟩, (rngl (by omega) (by omega)).mpr ⟨gl, q3, q4, rfl⟩⟩
        by_cases h8' : S.length = 8
        · refine ⟨nI 0, M_th q 2, Ctr_post (c_shelf_bad2 lc D ci cz ck csh cj a q (nI k) (nI cp) p3 p4 hok (by rw [hsh]; exact h8')) (fun v w2 h => PM_same h), wr_shelf2 lc D ci cz ck csh cj hl (by omega) (by omega) ⟨_, _, rfl⟩ rfl (CtrT_post (p_shelfXF lc D ci cz ck csh cj hl r sh (b 0) Z.length (gZ Z) k cp p3 p4 (wU ci b kf df nf K kn aw n ++ wF Z) hk hc1 hc2 (by omega) (by omega) h3) (fun _ _ h => h) (fun E9 w2 h => by obtain ⟨h1, rfl⟩ := h; exact ⟨h1, base 2 _ (by omega)⟩))⟩
        · have hlt : S.length < 8 := by omega
          have hms : m_sh q < 8 := by omega
          have ev : nI (m_sh q) = nI Z.length := by rw [hsh, hlen]
          have hcs : k = 4 ∨ k = 3 ∨ k = 0 ∨ k = 1 ∨ k = 2 ∨ k = 5 := by omega
          rcases hcs with rfl | rfl | rfl | rfl | rfl | rfl
          · obtain ⟨il, gl, q1, q2, q3, q4, rfl, rfl⟩ := h3 rfl
            refine ⟨_, _, Ctr_post (c_shelf_o lc D ci cz ck csh cj a q 4 cp (nI il) (nI gl) (by omega) hc1 hc2 (fun _ => ⟨(rngl (by omega) (by omega)).mpr ⟨il, q1, q2, rfl⟩, (rngl (by omega) (by omega)).mpr ⟨gl, q3, q4, rfl⟩⟩) hms (by omega)) (fun v w2 h => PM_same h), wr_shelf0 lc D ci cz ck csh cj hl (by omega) (by omega) ⟨_, _, rfl⟩ rfl (Ctr_post (p_shelf4 lc D ci cz ck csh cj r sh (b 0) Z.length (gZ Z) cp il gl (wU ci b kf df nf K kn aw n ++ wF Z) hc1 hc2 (by omega) q1 q2 q3 q4) ?_)⟩
            rintro v w2 ⟨a9, w3, rfl, rfl, hr3⟩
            exact ⟨by rw [ev], RKW_new hZ hr3 ((Inv.new (il := il) (gl := gl) hI hlt (by omega) hc1 hc2 (fun _ => ⟨⟨q1, q2⟩, ⟨q3, q4⟩, rfl, rfl⟩)).mono (by omega)) (RR_congr hRR rfl rfl) ha (by omega)⟩
          · refine ⟨_, _, Ctr_post (c_shelf_c lc D ci cz ck csh cj a q cp p3 p4 hc1 hc2 (fun e9 => absurd e9 (by decide)) hms) (fun v w2 h => PM_same h), wr_shelf0 lc D ci cz ck csh cj hl (by omega) (by omega) ⟨_, _, rfl⟩ rfl (Ctr_post (p_shelf3 lc D ci cz ck csh cj r sh (b 0) Z.length (gZ Z) cp p3 p4 (wU ci b kf df nf K kn aw n ++ wF Z) hc1 hc2 (by omega)) ?_)⟩
            rintro v w2 ⟨a9, w3, rfl, rfl, hr3⟩
            exact ⟨by rw [ev], RKW_new hZ hr3 ((Inv.new (il := 0) (gl := 0) hI hlt (by omega) hc1 hc2 (fun e9 => absurd e9 (by decide))).mono (by omega)) (RR_congr hRR rfl rfl) ha (by omega)⟩
          · refine ⟨_, _, Ctr_post (c_shelf_o lc D ci cz ck csh cj a q 0 cp p3 p4 (by omega) hc1 hc2 (fun e9 => absurd e9 (by decide)) hms (by omega)) (fun v w2 h => PM_same h), wr_shelf0 lc D ci cz ck csh cj hl (by omega) (by omega) ⟨_, _, rfl⟩ rfl (Ctr_post (p_shelf0 lc D ci cz ck csh cj r sh (b 0) Z.length (gZ Z) cp p3 p4 (wU ci b kf df nf K kn aw n ++ wF Z) hc1 hc2 (by omega)) ?_)⟩
            rintro v w2 ⟨a9, w3, rfl, rfl, hr3⟩
            exact ⟨by rw [ev], RKW_new hZ hr3 ((Inv.new (il := 0) (gl := 0) hI hlt (by omega) hc1 hc2 (fun e9 => absurd e9 (by decide))).mono (by omega)) (RR_congr hRR rfl rfl) ha (by omega)⟩
          · refine ⟨_, _, Ctr_post (c_shelf_o lc D ci cz ck csh cj a q 1 cp p3 p4 (by omega) hc1 hc2 (fun e9 => absurd e9 (by decide)) hms (by omega)) (fun v w2 h => PM_same h), wr_shelf0 lc D ci cz ck csh cj hl (by omega) (by omega) ⟨_, _, rfl⟩ rfl (Ctr_post (p_shelf1 lc D ci cz ck csh cj r sh (b 0) Z.length (gZ Z) cp p3 p4 (wU ci b kf df nf K kn aw n ++ wF Z) hc1 hc2 (by omega)) ?_)⟩
            rintro v w2 ⟨a9, w3, rfl, rfl, hr3⟩
            exact ⟨by rw [ev], RKW_new hZ hr3 ((Inv.new (il := 0) (gl := 0) hI hlt (by omega) hc1 hc2 (fun e9 => absurd e9 (by decide))).mono (by omega)) (RR_congr hRR rfl rfl) ha (by omega)⟩
          · refine ⟨_, _, Ctr_post (c_shelf_o lc D ci cz ck csh cj a q 2 cp p3 p4 (by omega) hc1 hc2 (fun e9 => absurd e9 (by decide)) hms (by omega)) (fun v w2 h => PM_same h), wr_shelf0 lc D ci cz ck csh cj hl (by omega) (by omega) ⟨_, _, rfl⟩ rfl (Ctr_post (p_shelf2 lc D ci cz ck csh cj r sh (b 0) Z.length (gZ Z) cp p3 p4 (wU ci b kf df nf K kn aw n ++ wF Z) hc1 hc2 (by omega)) ?_)⟩
            rintro v w2 ⟨a9, w3, rfl, rfl, hr3⟩
            exact ⟨by rw [ev], RKW_new hZ hr3 ((Inv.new (il := 0) (gl := 0) hI hlt (by omega) hc1 hc2 (fun e9 => absurd e9 (by decide))).mono (by omega)) (RR_congr hRR rfl rfl) ha (by omega)⟩
          · refine ⟨_, _, Ctr_post (c_shelf_o lc D ci cz ck csh cj a q 5 cp p3 p4 (by omega) hc1 hc2 (fun e9 => absurd e9 (by decide)) hms (by omega)) (fun v w2 h => PM_same h), wr_shelf0 lc D ci cz ck csh cj hl (by omega) (by omega) ⟨_, _, rfl⟩ rfl (Ctr_post (p_shelf5 lc D ci cz ck csh cj r sh (b 0) Z.length (gZ Z) cp p3 p4 (wU ci b kf df nf K kn aw n ++ wF Z) hc1 hc2 (by omega)) ?_)⟩
            rintro v w2 ⟨a9, w3, rfl, rfl, hr3⟩
            exact ⟨by rw [ev], RKW_new hZ hr3 ((Inv.new (il := 0) (gl := 0) hI hlt (by omega) hc1 hc2 (fun e9 => absurd e9 (by decide))).mono (by omega)) (RR_congr hRR rfl rfl) ha (by omega)⟩
      · have hk4 : k = 4 := Classical.not_not.mp (fun z => h3 (fun e => absurd e z))
        subst hk4
        have h4 : ∀ il gl, 1 ≤ il → il ≤ cp → 1 ≤ gl → gl ≤ 64 → p3 = nI il → p4 ≠ nI gl := fun il gl q1 q2 q3 q4 q5 q6 => h3 (fun _ => ⟨il, gl, q1, q2, q3, q4, q5, q6⟩)
        refine ⟨nI 0, M_th q 1, Ctr_post (c_shelf_bad1 lc D ci cz ck csh cj a q (nI 4) (nI cp) p3 p4 (fun z => by
          obtain ⟨-, -, z3⟩ := z
          obtain ⟨z4, z5⟩ := z3 rfl
          obtain ⟨il, i1, i2, i3⟩ := (rngl (by omega) (by omega)).mp z4
          obtain ⟨gl, g1, g2, g3⟩ := (rngl (by omega) (by omega)).mp z5
          exact h4 il gl i1 i2 g1 g2 i3 g3)) (fun v w2 h => PM_same h), wr_shelf1 lc D ci cz ck csh cj hl (by omega) (by omega) ⟨_, _, rfl⟩ rfl (CtrT_post (p_shelfXQ lc D ci cz ck csh cj hl r sh (b 0) Z.length (gZ Z) cp p3 p4 (wU ci b kf df nf K kn aw n ++ wF Z) hc1 hc2 h4) (fun _ _ h => h) (fun E9 w2 h => by obtain ⟨h1, rfl⟩ := h; exact ⟨h1, base 1 _ (by omega)⟩))⟩
    · refine ⟨nI 0, M_th q 1, Ctr_post (c_shelf_bad1 lc D ci cz ck csh cj a q (nI k) p2 p3 p4 (fun z => h2 ((rngl (by omega) (by omega)).mp z.2.1))) (fun v w2 h => PM_same h), wr_shelf1 lc D ci cz ck csh cj hl (by omega) (by omega) ⟨_, _, rfl⟩ rfl (CtrT_post (p_shelfXC lc D ci cz ck csh cj hl r sh (b 0) Z.length (gZ Z) k p2 p3 p4 (wU ci b kf df nf K kn aw n ++ wF Z) hk (fun y9 a9 b9 e9 => h2 ⟨y9, a9, b9, e9⟩)) (fun _ _ h => h) (fun E9 w2 h => by obtain ⟨h1, rfl⟩ := h; exact ⟨h1, base 1 _ (by omega)⟩))⟩
  · refine ⟨nI 0, M_th q 1, Ctr_post (c_shelf_bad1 lc D ci cz ck csh cj a q p1 p2 p3 p4 (fun z => h1 (by obtain ⟨k, k1, k2, k3⟩ := (rngl (by omega) (by omega)).mp z.1; exact ⟨k, k2, k3⟩))) (fun v w2 h => PM_same h), wr_shelf1 lc D ci cz ck csh cj hl (by omega) (by omega) ⟨_, _, rfl⟩ rfl (CtrT_post (p_shelfXW lc D ci cz ck csh cj hl r sh (b 0) Z.length (gZ Z) p1 p2 p3 p4 (wU ci b kf df nf K kn aw n ++ wF Z) (fun k9 hk9 e9 => h1 ⟨k9, hk9, e9⟩)) (fun _ _ h => h) (fun E9 w2 h => by obtain ⟨h1, rfl⟩ := h; exact ⟨h1, base 1 _ (by omega)⟩))⟩

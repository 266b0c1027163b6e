/-! the whole state: every shelf, the ones that are not there yet, the clock -/
def Sj (q q2 : MS) (j : Nat) : Prop :=
  (m_ways q2 j = m_ways q j ∧ m_caps q2 j = m_caps q j ∧ m_ins q2 j = m_ins q j ∧ m_gr q2 j = m_gr q j) ∧ m_now q ≤ m_now q2 ∧ (∀ k, k < 560 → m_keys q2 (560 * j + k) = m_keys q (560 * j + k)) ∧ (∀ l, l < 4 → m_sizes q2 (4 * j + l) = m_sizes q (4 * j + l)) ∧ (∀ y, y < 512 → m_vals q2 (512 * j + y) = m_vals q (512 * j + y) ∧ m_cnts q2 (512 * j + y) = m_cnts q (512 * j + y) ∧ m_stmp q2 (512 * j + y) = m_stmp q (512 * j + y)) ∧ (∀ p, p < 64 → m_marks q2 (64 * j + p) = m_marks q (64 * j + p)) ∧ m_hands q2 j = m_hands q j ∧ m_hits q2 j = m_hits q j ∧ m_miss q2 j = m_miss q j ∧ m_gone q2 j = m_gone q j
theorem Fr.sj {q q2 : MS} {i j : Nat} (h : Fr q q2 i) (hj : j ≠ i) : Sj q q2 j :=
  ⟨⟨by rw [h.1.2.1], by rw [h.1.2.2.1], by rw [h.1.2.2.2.1], by rw [h.1.2.2.2.2.1]⟩, h.2.1, h.2.2 j hj⟩
theorem Sj.row {q q2 : MS} {j : Nat} (h : Sj q q2 j) {l k : Nat} (hl : l < 4) (hk : k < 140) : mRow q2 j l k = mRow q j l k := by
  show m_keys q2 (140 * (4 * j + l) + k) = m_keys q (140 * (4 * j + l) + k)
  rw [show 140 * (4 * j + l) + k = 560 * j + (140 * l + k) from by omega]
  exact h.2.2.1 _ (by omega)
theorem Sj.zz {q q2 : MS} {j : Nat} (h : Sj q q2 j) {l : Nat} (hl : l < 4) : zs q2 j l = zs q j l := h.2.2.2.1 l hl
theorem Sj.ml {q q2 : MS} {j : Nat} (h : Sj q q2 j) {l : Nat} (hl : l < 4) (hz : zs q j l ≤ 64) : mL q2 j l = mL q j l :=
  mL_congr (h.zz hl) (fun k hk => h.row hl (by omega))
theorem Rel.keep {q q2 : MS} {j : Nat} {s : AS} (h : Rel q j s) (hs : Sj q q2 j) : Rel q2 j s := by
  have hz := h.z
  have hcap := h.cap
  obtain ⟨⟨c1, c2, c3, c4, c5, c6⟩, hA, hR⟩ := h
  have hm : ∀ l, l < 4 → mL q2 j l = mL q j l := fun l hl => hs.ml hl (hz l hl)
  have hLQ : ∀ {s : AS}, LQ q j s → LQ q2 j s := fun h => ⟨by rw [hm 0 (by omega)]; exact h.1, by rw [hm 1 (by omega)]; exact h.2.1, by rw [hm 2 (by omega)]; exact h.2.2.1, by rw [hm 3 (by omega)]; exact h.2.2.2⟩
  obtain ⟨⟨w1, w2, w3, w4⟩, wn, wk, wz, wv, wm, wh, whi, wmi, wg⟩ := hs
  have hs : Sj q q2 j := ⟨⟨w1, w2, w3, w4⟩, wn, wk, wz, wv, wm, wh, whi, wmi, wg⟩
  refine ⟨⟨by rw [w1, c1], by rw [w2, c2], fun y hy => by rw [(wv y hy).1]; exact c3 y hy, by rw [whi, c4], by rw [wmi, c5], by rw [wg, c6]⟩, hA, ?_⟩
  rcases hR with r | r | r | r | r
  · obtain ⟨r1, r2, r3, r4, r5, r6, r7⟩ := r
    exact Or.inl ⟨r1, hLQ r2, r3, r4, r5, r6, by rw [wh]; exact r7⟩
  · obtain ⟨r1, r2, r3, r4, r5, r6, r7, r8, r9, r10⟩ := r
    refine Or.inr (Or.inl ⟨r1, by rw [hm 0 (by omega)]; exact r2, by rw [hm 1 (by omega)]; exact r3, by rw [hm 2 (by omega)]; exact r4, by rw [hm 3 (by omega)]; exact r5, r6, by rw [wh]; exact r7, fun y hy => by rw [(wv y hy).2.1]; exact r8 y hy, ?_, fun y hy => by rw [(wv y hy).2.2]; exact Nat.le_trans (r10 y hy) wn⟩)
    refine List.Pairwise.imp_of_mem (fun {a b} ha hb hab => ?_) r9
    obtain ⟨za, ha1, rfl⟩ := r6.2 a ha
    obtain ⟨zb, hb1, rfl⟩ := r6.2 b hb
    rw [mGB_nI q j ha1 hb1] at hab
    rw [mGB_nI q2 j ha1 hb1, (wv za ha1).2.1, (wv za ha1).2.2, (wv zb hb1).2.1, (wv zb hb1).2.2]
    exact hab
  · obtain ⟨r1, r2, r3, r4, r5, r6, r7, r8, r9⟩ := r
    have hr : ∀ p, p < s_cp s → mRow q2 j 0 p = mRow q j 0 p := fun p hp => hs.row (by omega) (by omega)
    refine Or.inr (Or.inr (Or.inl ⟨r1, ?_, fun l hl => by rw [hs.zz hl]; exact r3 l hl, fun p hp => by rw [wm p (by omega)]; exact r4 p hp, by rw [wh]; exact r5, by rw [cntK_congr (s_cp s) hr]; exact r6, fun p hp => by rw [hr p hp]; exact r7 p hp, fun a b ha hb e hne => ?_, fun p hp e => r9 p hp (by rw [← hr p hp]; exact e)⟩))
    · rw [← r2]
      refine kl_ext (fun i hi => ?_) (kl_len _ _)
      rw [kl_get, if_pos hi, hr i hi]
    · rw [hr a ha, hr b hb] at e
      rw [hr a ha] at hne
      exact r8 a b ha hb e hne
  · obtain ⟨r1, r2, r3, r4, r5, r6, r7⟩ := r
    exact Or.inr (Or.inr (Or.inr (Or.inl ⟨r1, hLQ r2, r3, r4, by rw [wh]; exact r5, by rw [w3]; exact r6, by rw [w4]; exact r7⟩)))
  · obtain ⟨r1, r2, r3, r4, r5⟩ := r
    exact Or.inr (Or.inr (Or.inr (Or.inr ⟨r1, hLQ r2, r3, by rw [wh]; exact r4, r5⟩)))
def Blank (q : MS) (j : Nat) : Prop := m_ways q j = 0 ∧ m_caps q j = 0 ∧ (∀ l, l < 4 → m_sizes q (4 * j + l) = 0) ∧ (∀ y, y < 512 → m_vals q (512 * j + y) = 0 ∧ m_cnts q (512 * j + y) = 0 ∧ m_stmp q (512 * j + y) = 0) ∧ (∀ p, p < 64 → m_marks q (64 * j + p) = 0) ∧ m_hands q j = 0 ∧ m_hits q j = 0 ∧ m_miss q j = 0 ∧ m_gone q j = 0
theorem Blank.keep {q q2 : MS} {j : Nat} (h : Blank q j) (hs : Sj q q2 j) : Blank q2 j := by
  obtain ⟨b1, b2, b3, b4, b5, b6, b7, b8, b9⟩ := h
  obtain ⟨⟨w1, w2, w3, w4⟩, wn, wk, wz, wv, wm, wh, whi, wmi, wg⟩ := hs
  exact ⟨by rw [w1, b1], by rw [w2, b2], fun l hl => by rw [wz l hl]; exact b3 l hl, fun y hy => ⟨by rw [(wv y hy).1]; exact (b4 y hy).1, by rw [(wv y hy).2.1]; exact (b4 y hy).2.1, by rw [(wv y hy).2.2]; exact (b4 y hy).2.2⟩, fun p hp => by rw [wm p hp]; exact b5 p hp, by rw [wh, b6], by rw [whi, b7], by rw [wmi, b8], by rw [wg, b9]⟩
def Inv (q : MS) (S : List AS) (T : Nat) : Prop := m_sh q = S.length ∧ S.length ≤ 8 ∧ (∀ i s, S[i]? = some s → Rel q i s) ∧ (∀ j, S.length ≤ j → Blank q j) ∧ m_now q ≤ T ∧ NB q ∧ ∀ j, m_held q j < 512
theorem Inv.zero : Inv mZero [] 0 :=
  ⟨rfl, Nat.zero_le _, fun i s h => by simp at h, fun j _ => ⟨rfl, rfl, fun _ _ => rfl, fun _ _ => ⟨rfl, rfl, rfl⟩, fun _ _ => rfl, rfl, rfl, rfl, rfl⟩, Nat.le_refl _, fun _ => Nat.le_refl _, fun _ => (by decide : (0 : Nat) < 512)⟩
theorem Inv.mono {q : MS} {S : List AS} {T T2 : Nat} (h : Inv q S T) (hT : T ≤ T2) : Inv q S T2 :=
  ⟨h.1, h.2.1, h.2.2.1, h.2.2.2.1, Nat.le_trans h.2.2.2.2.1 hT, h.2.2.2.2.2⟩
/-- nothing of the shelves changes -/
theorem Inv.same {q q2 : MS} {S : List AS} {T : Nat} (h : Inv q S T) (hs : ∀ j, Sj q q2 j) (h1 : m_sh q2 = m_sh q) (h2 : m_now q2 = m_now q) (h3 : m_stmp q2 = m_stmp q) (h4 : ∀ j, m_held q2 j < 512) : Inv q2 S T := by
  obtain ⟨i1, i2, i3, i4, i5, i6, i7⟩ := h
  exact ⟨h1.trans i1, i2, fun i s e => (i3 i s e).keep (hs i), fun j hj => (i4 j hj).keep (hs j), by rw [h2]; exact i5, fun j => by rw [h2, h3]; exact i6 j, h4⟩
theorem Sj_of {q q2 : MS} (h1 : m_ways q2 = m_ways q) (h2 : m_caps q2 = m_caps q) (h3 : m_ins q2 = m_ins q) (h4 : m_gr q2 = m_gr q) (h5 : m_now q ≤ m_now q2) (h6 : m_keys q2 = m_keys q) (h7 : m_sizes q2 = m_sizes q) (h8 : m_vals q2 = m_vals q) (h9 : m_cnts q2 = m_cnts q) (h10 : m_stmp q2 = m_stmp q) (h11 : m_marks q2 = m_marks q) (h12 : m_hands q2 = m_hands q) (h13 : m_hits q2 = m_hits q) (h14 : m_miss q2 = m_miss q) (h15 : m_gone q2 = m_gone q) (j : Nat) : Sj q q2 j :=
  ⟨⟨by rw [h1], by rw [h2], by rw [h3], by rw [h4]⟩, h5, fun k _ => by rw [h6], fun l _ => by rw [h7], fun y _ => ⟨by rw [h8], by rw [h9], by rw [h10]⟩, fun p _ => by rw [h11], by rw [h12], by rw [h13], by rw [h14], by rw [h15]⟩
theorem Inv.th {q : MS} {S : List AS} {T : Nat} (h : Inv q S T) (t : Nat) : Inv (M_th q t) S T :=
  h.same (Sj_of (q2 := M_th q t) rfl rfl rfl rfl (Nat.le_refl _) rfl rfl rfl rfl rfl rfl rfl rfl rfl rfl) rfl rfl rfl h.2.2.2.2.2.2
theorem Inv.clear {q : MS} {S : List AS} {T : Nat} (h : Inv q S T) : Inv (M_clear q) S T :=
  h.same (Sj_of (q2 := M_clear q) rfl rfl rfl rfl (Nat.le_refl _) rfl rfl rfl rfl rfl rfl rfl rfl rfl rfl) rfl rfl rfl h.2.2.2.2.2.2
theorem Inv.row {q : MS} {S : List AS} {T : Nat} (h : Inv q S T) (x : Nat) : Inv (M_row q x) S T :=
  h.same (Sj_of (q2 := M_row q x) rfl rfl rfl rfl (Nat.le_refl _) rfl rfl rfl rfl rfl rfl rfl rfl rfl rfl) rfl rfl rfl h.2.2.2.2.2.2
theorem Inv.seen {q : MS} {S : List AS} {T : Nat} (h : Inv q S T) (g : Nat → Int32) : Inv (M_seen q g) S T :=
  h.same (Sj_of (q2 := M_seen q g) rfl rfl rfl rfl (Nat.le_refl _) rfl rfl rfl rfl rfl rfl rfl rfl rfl rfl) rfl rfl rfl h.2.2.2.2.2.2
theorem Inv.held {q : MS} {S : List AS} {T : Nat} (h : Inv q S T) {g : Nat → Nat} (hg : ∀ j, g j < 512) : Inv (M_held q g) S T :=
  h.same (Sj_of (q2 := M_held q g) rfl rfl rfl rfl (Nat.le_refl _) rfl rfl rfl rfl rfl rfl rfl rfl rfl rfl) rfl rfl rfl hg
/-- a step at one shelf -/
theorem Inv.step {q q2 : MS} {S : List AS} {T T2 i : Nat} {s s2 : AS} (h : Inv q S T) (hi : S[i]? = some s) (hf : Fr q q2 i) (hr : Rel q2 i s2) (hT : m_now q2 ≤ T2) (hn : NB q2) : Inv q2 (S.set i s2) T2 := by
  obtain ⟨i1, i2, i3, i4, i5, i6, i7⟩ := h
  have hil := (List.getElem?_eq_some_iff.mp hi).1
  refine ⟨by rw [List.length_set, hf.1.1, i1], by rw [List.length_set]; exact i2, fun j s3 e => ?_, fun j hj => ?_, hT, hn, fun j => by rw [hf.1.2.2.2.2.2.2.2]; exact i7 j⟩
  · rw [List.getElem?_set] at e
    by_cases c : i = j
    · subst c
      rw [if_pos rfl, if_pos hil] at e
      exact (Option.some.inj e) ▸ hr
    · rw [if_neg c] at e
      exact (i3 j s3 e).keep (hf.sj (fun z => c z.symm))
  · rw [List.length_set] at hj
    exact (i4 j hj).keep (hf.sj (by omega))
theorem Inv.mb {q : MS} {S : List AS} {T : Nat} (h : Inv q S T) (hT : T ≤ 1000000) (hu : m_uses q ≤ 300) (hr : ∀ j, m_row q j < 512) : MB q 64 := by
  obtain ⟨i1, i2, i3, i4, i5, i6, i7⟩ := h
  have cs : ∀ j, (∃ s, Rel q j s) ∨ Blank q j := by
    intro j
    by_cases c : j < S.length
    · exact Or.inl ⟨_, i3 j _ (List.getElem?_eq_getElem c)⟩
    · exact Or.inr (i4 j (by omega))
  refine ⟨fun j => ?_, fun j => ?_, fun j => ?_, fun j => ?_, by omega, hu, by omega, fun j => Nat.le_trans (i6 j) (by omega), hr, i7⟩
  · have e : 4 * (j / 4) + j % 4 = j := by omega
    rcases cs (j / 4) with ⟨s, r⟩ | b
    · have := r.z (j % 4) (by omega)
      unfold zs at this
      rwa [e] at this
    · have := b.2.2.1 (j % 4) (by omega)
      rw [e] at this
      omega
  · rcases cs j with ⟨s, r⟩ | b
    · exact r.cap.2
    · have := b.2.1; omega
  · rcases cs j with ⟨s, r⟩ | b
    · have := r.1.1
      rcases r.wy with w | w | w | w | w <;> omega
    · have := b.1; omega
  · rcases cs j with ⟨s, r⟩ | b
    · have := r.sv.2.2.1
      have := r.cap.2
      omega
    · have := b.2.2.2.2.2.1; omega
theorem Inv.sh {q : MS} {S : List AS} {T i : Nat} (h : Inv q S T) (hi : i < S.length) : i < m_sh q := by rw [h.1]; exact hi
/-- a new shelf -/
theorem Inv.new {q : MS} {S : List AS} {T wy cp il gl : Nat} {a1 b1 : Int32} (h : Inv q S T) (h8 : S.length < 8) (hw : wy ≤ 5) (h1 : 1 ≤ cp) (h64 : cp ≤ 64) (hq : wy = 4 → (1 ≤ il ∧ il ≤ cp) ∧ (1 ≤ gl ∧ gl ≤ 64) ∧ a1 = nI il ∧ b1 = nI gl) : Inv (M_shelf q wy cp a1 b1) (S ++ [aNew wy cp il gl]) T := by
  obtain ⟨i1, i2, i3, i4, i5, i6, i7⟩ := h
  have sj : ∀ j, j ≠ S.length → Sj q (M_shelf q wy cp a1 b1) j := by
    intro j hj
    have hj2 : j ≠ m_sh q := by omega
    refine ⟨⟨va_up_ne _ _ hj2, va_up_ne _ _ hj2, pk_un hj2, pk_un hj2⟩, Nat.le_refl _, fun k hk => ?_, fun _ _ => rfl, fun _ _ => ⟨rfl, rfl, rfl⟩, fun _ _ => rfl, rfl, rfl, rfl, rfl⟩
    show (if wy = 3 then fillN (m_keys q) (560 * m_sh q) 140 else m_keys q) (560 * j + k) = _
    split
    · unfold fillN
      rw [if_neg (by omega)]
    · rfl
  have hnew : Rel (M_shelf q wy cp a1 b1) S.length (aNew wy cp il gl) := by
    have hb := i4 S.length (Nat.le_refl _)
    obtain ⟨b1', b2, b3, b4, b5, b6, b7, b8, b9⟩ := hb
    have ew : m_ways (M_shelf q wy cp a1 b1) S.length = wy := by
      show va_up (m_ways q) (m_sh q) wy S.length = wy
      rw [i1, va_up_self]
    have ec : m_caps (M_shelf q wy cp a1 b1) S.length = cp := by
      show va_up (m_caps q) (m_sh q) cp S.length = cp
      rw [i1, va_up_self]
    have ei : m_ins (M_shelf q wy cp a1 b1) S.length = a1 := by
      show upd (m_ins q) (m_sh q) a1 S.length = a1
      rw [i1, pk_us]
    have eg : m_gr (M_shelf q wy cp a1 b1) S.length = b1 := by
      show upd (m_gr q) (m_sh q) b1 S.length = b1
      rw [i1, pk_us]
    have ez : ∀ l, l < 4 → zs (M_shelf q wy cp a1 b1) S.length l = 0 := b3
    have eL : ∀ l, l < 4 → mL (M_shelf q wy cp a1 b1) S.length l = [] := fun l hl => by
      unfold mL
      rw [ez l hl]; rfl
    have hKe : KO [] := ⟨List.nodup_nil, fun z hz => absurd hz List.not_mem_nil⟩
    have hRC : RC (M_shelf q wy cp a1 b1) S.length (aNew wy cp il gl) := ⟨ew.symm, ec.symm, fun y hy => (b4 y hy).1, b7, b8, b9⟩
    have cases : wy ≤ 1 ∨ wy = 2 ∨ wy = 3 ∨ wy = 4 ∨ wy = 5 := by omega
    rcases cases with c | c | c | c | c
    · have e0 : s_0 (aNew wy cp il gl) = [] := by
        show (if wy = 3 then _ else _) = _
        rw [if_neg (by omega)]
      refine ⟨hRC, (AI01 (by exact c)).mpr ⟨h1, h64, by rw [e0]; exact Nat.zero_le _⟩, Or.inl ⟨c, ⟨by rw [e0]; exact eL 0 (by omega), eL 1 (by omega), eL 2 (by omega), eL 3 (by omega)⟩, by rw [e0]; exact hKe, rfl, rfl, rfl, b6⟩⟩
    · subst c
      refine ⟨hRC, (AI2 (by rfl)).mpr ⟨h1, h64, Nat.zero_le _, hKe.2⟩, Or.inr (Or.inl ⟨rfl, by rw [eL 0 (by omega)]; exact List.Perm.refl _, eL 1 (by omega), eL 2 (by omega), eL 3 (by omega), hKe, b6, fun y hy => (b4 y hy).2.1, List.Pairwise.nil, fun y hy => i6 _⟩)⟩
    · subst c
      have er : ∀ p, p < cp → mRow (M_shelf q 3 cp a1 b1) S.length 0 p = -1 := by
        intro p hp
        show (if (3 : Nat) = 3 then fillN (m_keys q) (560 * m_sh q) 140 else m_keys q) (140 * (4 * S.length + 0) + p) = -1
        rw [if_pos rfl]
        unfold fillN
        rw [if_pos (by omega)]
      have ek : kl (mRow (M_shelf q 3 cp a1 b1) S.length 0) cp = List.replicate cp (-1) := by
        refine kl_ext (fun j hj => ?_) (by rw [List.length_replicate])
        rw [List.getElem?_replicate, if_pos hj, er j hj]
      have e0 : cntK (mRow (M_shelf q 3 cp a1 b1) S.length 0) cp = 0 := by
        have : ∀ n, n ≤ cp → cntK (mRow (M_shelf q 3 cp a1 b1) S.length 0) n = 0 := by
          intro n
          induction n with
          | zero => intro _; rfl
          | succ n ih =>
            intro hn
            show (if mRow (M_shelf q 3 cp a1 b1) S.length 0 n < 0 then _ else _) = 0
            rw [er n (by omega), if_pos (by decide)]
            exact ih (by omega)
        exact this cp (Nat.le_refl _)
      refine ⟨hRC, (AI3 (by rfl)).mpr ⟨h1, h64, ?_, ?_, Nat.zero_le _, ?_⟩, Or.inr (Or.inr (Or.inl ⟨rfl, ek, ez, fun p hp => b5 p (Nat.lt_of_lt_of_le hp h64), b6, e0.symm, fun p hp => Or.inl (er p hp), fun a b ha hb e hne => absurd (er a ha) hne, fun p hp e => rfl⟩))⟩
      · show (List.replicate cp (-1 : Int32)).length = cp
        rw [List.length_replicate]
      · show 0 < cp
        omega
      · intro x hx hne
        exact absurd (List.eq_of_mem_replicate hx) hne
    · subst c
      obtain ⟨⟨q1, q2⟩, ⟨q3, q4⟩, q5, q6⟩ := hq rfl
      refine ⟨hRC, (AI4 (by rfl)).mpr ⟨h1, h64, Nat.zero_le _, Nat.zero_le _, q4, q3, ?_⟩, Or.inr (Or.inr (Or.inr (Or.inl ⟨rfl, ⟨eL 0 (by omega), eL 1 (by omega), eL 2 (by omega), eL 3 (by omega)⟩, hKe, rfl, b6, by rw [ei, q5]; rfl, by rw [eg, q6]; rfl⟩)))⟩
      show il ≤ 64
      omega
    · subst c
      exact ⟨hRC, (AI5 (by rfl)).mpr ⟨h1, h64, Nat.zero_le _, Nat.zero_le _, Nat.zero_le _, Nat.zero_le _⟩, Or.inr (Or.inr (Or.inr (Or.inr ⟨rfl, ⟨eL 0 (by omega), eL 1 (by omega), eL 2 (by omega), eL 3 (by omega)⟩, hKe, b6, Nat.zero_le _⟩)))⟩
  refine ⟨?_, ?_, fun i s e => ?_, fun j hj => ?_, i5, i6, i7⟩
  · show m_sh q + 1 = _
    rw [List.length_append, i1]; rfl
  · rw [List.length_append, List.length_singleton]; omega
  · rw [List.getElem?_append] at e
    by_cases c : i < S.length
    · rw [if_pos c] at e
      exact (i3 i s e).keep (sj i (by omega))
    · rw [if_neg c] at e
      have hi : i = S.length := by
        have := (List.getElem?_eq_some_iff.mp e).1
        rw [List.length_singleton] at this
        omega
      subst hi
      rw [Nat.sub_self] at e
      exact (Option.some.inj e) ▸ hnew
  · rw [List.length_append, List.length_singleton] at hj
    exact (i4 j (by omega)).keep (sj j (by omega))
theorem RC.hit {q : MS} {i : Nat} {s : AS} (h : Rel q i s) : Rel (M_hit q i) i (aHit s) := by
  obtain ⟨⟨c1, c2, c3, c4, c5, c6⟩, hA, hR⟩ := h
  refine ⟨⟨c1, c2, c3, ?_, c5, c6⟩, hA, hR⟩
  show upd (m_hits q) i (m_hits q i + nI 1) i = s_hi s + nI 1
  rw [pk_us, c4]
theorem RC.miss {q : MS} {i : Nat} {s : AS} (h : Rel q i s) : Rel (M_miss q i) i (aMiss s) := by
  obtain ⟨⟨c1, c2, c3, c4, c5, c6⟩, hA, hR⟩ := h
  refine ⟨⟨c1, c2, c3, c4, ?_, c6⟩, hA, hR⟩
  show upd (m_miss q) i (m_miss q i + nI 1) i = s_mi s + nI 1
  rw [pk_us, c5]
theorem RC.val {q : MS} {i y : Nat} {s : AS} (h : Rel q i s) (v : Int32) : Rel (M_val q i y v) i (aVal s y v) := by
  obtain ⟨⟨c1, c2, c3, c4, c5, c6⟩, hA, hR⟩ := h
  refine ⟨⟨c1, c2, fun z hz => ?_, c4, c5, c6⟩, hA, hR⟩
  show upd (m_vals q) (512 * i + y) v (512 * i + z) = upd (s_vals s) y v z
  by_cases e : z = y
  · rw [e, pk_us, pk_us]
  · rw [pk_un (by omega), pk_un e]; exact c3 z hz
/-- GET -/
theorem sim_get {q : MS} {S : List AS} {T i y : Nat} {s : AS} (h : Inv q S T) (hi : S[i]? = some s) (hy : y < 512) : Inv (M_get q i y (mLoc q i (nI y))) (S.set i (aFetch s y)) (T + 1) ∧ (nI y ∈ aHeld s → mGetv q i y (mLoc q i (nI y)) = s_vals (aFetch s y) y ∧ m_th (M_get q i y (mLoc q i (nI y))) = m_th q) ∧ (nI y ∉ aHeld s → m_th (M_get q i y (mLoc q i (nI y))) = 2) ∧ m_row (M_get q i y (mLoc q i (nI y))) = m_row q ∧ m_uses (M_get q i y (mLoc q i (nI y))) = m_uses q ∧ AI (aFetch s y) := by
  have hr := h.2.2.1 i s hi
  have hT := h.2.2.2.2.1
  have hn := h.2.2.2.2.2.1
  by_cases c : nI y ∈ aHeld s
  · obtain ⟨l, k, e1, e2, e3, e4⟩ := sim_use (RC.hit hr) hy (s := aHit s) c
    have e1 : mLoc q i (nI y) = some (l, k) := e1
    have eG : M_get q i y (some (l, k)) = M_touch (M_hit q i) i l y k := by
      show (if l ≤ 1 then _ else _) = _
      rw [if_pos e2]
    have eF : aFetch s y = aUse (aHit s) y := by unfold aFetch; rw [if_pos c]
    have eV : mGetv q i y (some (l, k)) = m_vals q (512 * i + y) := by
      show (if l ≤ 1 then _ else _) = _
      rw [if_pos e2]
    have hfr := (Fr_hit q i).trans e4
    obtain ⟨t1, t2, t3⟩ := touch_now (M_hit q i) i l y k
    rw [e1, eG, eF, eV]
    refine ⟨h.step hi hfr e3 (by rw [t1]; show m_now q + 1 ≤ T + 1; omega) (NB_touch (q := M_hit q i) hn), fun _ => ⟨?_, ?_⟩, fun z => absurd c z, hfr.1.2.2.2.2.2.1, hfr.1.2.2.2.2.2.2.1, e3.2.1⟩
    · rw [← e3.1.2.2.1 y hy, t3]; rfl
    · have : m_th (M_touch (M_hit q i) i l y k) = m_th q := by
        unfold M_touch
        split
        · rfl
        · split
          · rfl
          · split <;> rfl
      exact this
  · have hm := (sim_adm hr hy c).2.2.2
    have eG : M_get q i y (mLoc q i (nI y)) = M_th (M_miss q i) 2 := by
      cases hl : mLoc q i (nI y) with
      | none => rfl
      | some p =>
        obtain ⟨l, k⟩ := p
        show (if l ≤ 1 then _ else _) = _
        rw [if_neg (hm l k hl)]
    have eF : aFetch s y = aMiss s := by unfold aFetch; rw [if_neg c]
    have hfr := (Fr_miss q i).trans (Fr_th (M_miss q i) 2 i)
    have hr2 := RC.miss hr
    rw [eG, eF]
    exact ⟨h.step hi hfr hr2 (Nat.le_succ_of_le hT) hn, fun z => absurd z c, fun _ => rfl, rfl, rfl, hr2.2.1⟩
/-- PUT -/
theorem sim_put {q : MS} {S : List AS} {T i y : Nat} {s : AS} (h : Inv q S T) (hi : S[i]? = some s) (hy : y < 512) (v : Int32) : mPutw q i y v = (aStore s y v).1 ∧ Inv (M_putOne q i y v) (S.set i (aStore s y v).2) (T + 1) ∧ m_row (M_putOne q i y v) = m_row q ∧ m_uses (M_putOne q i y v) = m_uses q := by
  have hr := h.2.2.1 i s hi
  have hT := h.2.2.2.2.1
  have hn := h.2.2.2.2.2.1
  have hv := RC.val (y := y) hr v
  obtain ⟨n1, n2⟩ := put0_now (q := M_val q i y v) (s := i) (x := y) hn (mLoc q i (nI y))
  have hTT : m_now (M_put0 (M_val q i y v) i y (mLoc q i (nI y))) ≤ T + 1 := by
    rw [n1]; show m_now q + 1 ≤ T + 1; omega
  by_cases c : nI y ∈ aHeld s
  · obtain ⟨l, k, e1, e2, e3, e4⟩ := sim_use hv hy (s := aVal s y v) c
    have e1 : mLoc q i (nI y) = some (l, k) := e1
    have eS : aStore s y v = (-1, aUse (aVal s y v) y) := by unfold aStore; rw [if_pos c]
    have eP : M_putOne q i y v = M_touch (M_val q i y v) i l y k := by
      unfold M_putOne
      rw [e1, M_put0_some, if_pos e2]
    have eW : mPutw q i y v = -1 := by
      unfold mPutw
      rw [e1, mPut0w_some, if_pos e2]
    have hfr := (Fr_val v hy).trans e4
    rw [e1, M_put0_some, if_pos e2] at n2 hTT
    rw [eS, eP, eW]
    exact ⟨rfl, h.step hi hfr e3 hTT n2, hfr.1.2.2.2.2.2.1, hfr.1.2.2.2.2.2.2.1⟩
  · obtain ⟨e1, e2, e3, -⟩ := sim_adm hv hy (s := aVal s y v) c
    have eS : aStore s y v = ((aAdm (aVal s y v) y).1, aWent (aAdm (aVal s y v) y).2 (aAdm (aVal s y v) y).1) := by unfold aStore; rw [if_neg c]
    have hfr := (Fr_val v hy).trans e3
    rw [eS]
    exact ⟨e1, h.step hi hfr e2 hTT n2, hfr.1.2.2.2.2.2.1, hfr.1.2.2.2.2.2.2.1⟩
/-- DROP -/
theorem sim_dropI {q : MS} {S : List AS} {T i y : Nat} {s : AS} (h : Inv q S T) (hi : S[i]? = some s) (hy : y < 512) : (aStand s (nI y) = 0 → M_drop q i (mLoc q i (nI y)) = q) ∧ (aStand s (nI y) ≠ 0 → Inv (M_drop q i (mLoc q i (nI y))) (S.set i (aDrop s y)) T ∧ m_row (M_drop q i (mLoc q i (nI y))) = m_row q ∧ m_uses (M_drop q i (mLoc q i (nI y))) = m_uses q) ∧ m_th (M_drop q i (mLoc q i (nI y))) = m_th q := by
  have hr := h.2.2.1 i s hi
  have hT := h.2.2.2.2.1
  have hn := h.2.2.2.2.2.1
  have nw : ∀ o, m_now (M_drop q i o) = m_now q ∧ m_stmp (M_drop q i o) = m_stmp q ∧ m_th (M_drop q i o) = m_th q := by
    intro o
    cases o with
    | none => exact ⟨rfl, rfl, rfl⟩
    | some p =>
      obtain ⟨l, k⟩ := p
      show m_now (if m_ways q i = 3 then _ else _) = m_now q ∧ m_stmp (if m_ways q i = 3 then _ else _) = m_stmp q ∧ m_th (if m_ways q i = 3 then _ else _) = m_th q
      split <;> exact ⟨rfl, rfl, rfl⟩
  obtain ⟨w1, w2, w3⟩ := nw (mLoc q i (nI y))
  refine ⟨fun c => ?_, fun c => ?_, w3⟩
  · have := sim_stand hr hy
    rw [c] at this
    cases hl : mLoc q i (nI y) with
    | none => rfl
    | some p =>
      obtain ⟨l, k⟩ := p
      rw [hl] at this
      have : (if l ≤ 1 then 2 else 1) = 0 := this
      split at this <;> omega
  · obtain ⟨d1, d2⟩ := sim_drop hr hy c
    exact ⟨h.step hi d2 d1 (by rw [w1]; exact hT) (fun j => by rw [w1, w2]; exact hn j), d2.1.2.2.2.2.2.1, d2.1.2.2.2.2.2.2.1⟩
/-- a USE, by one shelf -/
theorem sim_use1 {q : MS} {S : List AS} {T i y : Nat} {s : AS} (h : Inv q S T) (hi : S[i]? = some s) (hy : y < 512) : Inv (M_use1 q i y (mLoc q i (nI y))) (S.set i (uAt y (m_uses q) s)) (T + 1) ∧ (∀ b, mBit1 b i (mLoc q i (nI y)) = if nI y ∈ aHeld s then b ||| nI 1 <<< (nI i &&& 31) else b) ∧ m_row (M_use1 q i y (mLoc q i (nI y))) = m_row q ∧ m_uses (M_use1 q i y (mLoc q i (nI y))) = m_uses q := by
  have hr := h.2.2.1 i s hi
  have hT := h.2.2.2.2.1
  have hn := h.2.2.2.2.2.1
  have hil := (List.getElem?_eq_some_iff.mp hi).1
  by_cases c : nI y ∈ aHeld s
  · obtain ⟨l, k, e1, e2, e3, e4⟩ := sim_use (RC.hit hr) hy (s := aHit s) c
    have e1 : mLoc q i (nI y) = some (l, k) := e1
    have eG : M_use1 q i y (some (l, k)) = M_touch (M_hit q i) i l y k := by
      show (if l ≤ 1 then _ else _) = _
      rw [if_pos e2]
    have eF : uAt y (m_uses q) s = aUse (aHit s) y := by unfold uAt aFetch; rw [if_pos c, if_pos c]
    have hfr := (Fr_hit q i).trans e4
    obtain ⟨t1, t2, t3⟩ := touch_now (M_hit q i) i l y k
    rw [e1, eG, eF]
    refine ⟨h.step hi hfr e3 (by rw [t1]; show m_now q + 1 ≤ T + 1; omega) (NB_touch (q := M_hit q i) hn), fun b => ?_, hfr.1.2.2.2.2.2.1, hfr.1.2.2.2.2.2.2.1⟩
    show (if l ≤ 1 then _ else _) = _
    rw [if_pos e2, if_pos c]
  · have hm := (sim_adm hr hy c).2.2.2
    have eG : M_use1 q i y (mLoc q i (nI y)) = M_putOne (M_miss q i) i y (nI (m_uses q)) := by
      cases hl : mLoc q i (nI y) with
      | none => rfl
      | some p =>
        obtain ⟨l, k⟩ := p
        show (if l ≤ 1 then _ else _) = _
        rw [if_neg (hm l k hl)]
    have eB : ∀ b, mBit1 b i (mLoc q i (nI y)) = b := by
      intro b
      cases hl : mLoc q i (nI y) with
      | none => rfl
      | some p =>
        obtain ⟨l, k⟩ := p
        show (if l ≤ 1 then _ else _) = _
        rw [if_neg (hm l k hl)]
    have eF : uAt y (m_uses q) s = (aStore (aMiss s) y (nI (m_uses q))).2 := by unfold uAt aFetch; rw [if_neg c, if_neg c]
    have h2 : Inv (M_miss q i) (S.set i (aMiss s)) T := h.step hi (Fr_miss q i) (RC.miss hr) hT hn
    have hi2 : (S.set i (aMiss s))[i]? = some (aMiss s) := by rw [List.getElem?_set, if_pos rfl, if_pos hil]
    obtain ⟨p1, p2, p3, p4⟩ := sim_put h2 hi2 hy (nI (m_uses q))
    rw [List.set_set] at p2
    rw [eG, eF]
    exact ⟨p2, fun b => by rw [eB, if_neg c], p3, p4⟩
theorem sim_useN {q : MS} {S : List AS} {T y : Nat} (h : Inv q S T) (hy : y < 512) : ∀ k : Nat, k ≤ S.length → Inv (M_useN q y k) (uS S y (m_uses q) k) (T + k) ∧ mBitsN q y k = uBits S y k ∧ m_row (M_useN q y k) = m_row q ∧ m_uses (M_useN q y k) = m_uses q
  | 0, _ => by
    rw [uS_0]
    exact ⟨h, rfl, rfl, rfl⟩
  | k + 1, hk => by
    obtain ⟨i1, i2, i3, i4⟩ := sim_useN h hy k (by omega)
    have hs : S[k]? = some S[k] := List.getElem?_eq_getElem (by omega)
    have hs2 : (uS S y (m_uses q) k)[k]? = some S[k] := by
      rw [uS_get, hs]
      simp
    obtain ⟨u1, u2, u3, u4⟩ := sim_use1 i1 hs2 hy
    rw [i4, ← uS_succ hs] at u1
    have eU : M_useN q y (k + 1) = M_use1 (M_useN q y k) k y (mLoc (M_useN q y k) k (nI y)) := rfl
    have eB : mBitsN q y (k + 1) = mBit1 (mBitsN q y k) k (mLoc (M_useN q y k) k (nI y)) := rfl
    rw [eU, eB, u2, i2, uBits_s hs]
    exact ⟨u1, rfl, u3.trans i3, u4.trans i4⟩

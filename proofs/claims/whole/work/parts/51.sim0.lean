/-! shelves: the model's lists as lists; what a step at one shelf leaves as it was -/
theorem kl_memz {f : Nat → Int32} {n : Nat} {x : Int32} : x ∈ kl f n ↔ ∃ i, i < n ∧ f i = x := by
  unfold kl
  rw [List.mem_map]
  constructor
  · rintro ⟨i, h, e⟩; exact ⟨i, List.mem_range.mp h, e⟩
  · rintro ⟨i, h, e⟩; exact ⟨i, List.mem_range.mpr h, e⟩
theorem kl_idx {f : Nat → Int32} {n : Nat} {x : Int32} (h : x ∈ kl f n) : (kl f n).idxOf x < n ∧ f ((kl f n).idxOf x) = x := by
  have h1 := List.idxOf_lt_length_of_mem h
  have h2 : (kl f n)[(kl f n).idxOf x]? = some x := by rw [List.getElem?_eq_getElem h1, List.getElem_idxOf h1]
  rw [kl_len] at h1
  rw [kl_get, if_pos h1] at h2
  exact ⟨h1, Option.some.inj h2⟩
theorem lastIx_kPl {f : Nat → Int32} {n : Nat} {x : Int32} (h : ∀ a b, a < n → b < n → f a = x → f b = x → a = b) : lastIx f n x = kPl (kl f n) x := by
  unfold kPl
  rcases lastIx_spec f x n with ⟨h1, h2⟩ | ⟨i, h1, h2, h3⟩
  · rw [h1, if_neg]
    intro q
    obtain ⟨i, q1, q2⟩ := kl_memz.mp q
    exact h2 i q1 q2
  · have hm : x ∈ kl f n := kl_memz.mpr ⟨i, h1, h3⟩
    rw [h2, if_pos hm, h _ _ h1 (kl_idx hm).1 h3 (kl_idx hm).2]
theorem kPl_neg {L : List Int32} {x : Int32} (h : L.length < 2 ^ 31) : kPl L x < 0 ↔ x ∉ L := by
  unfold kPl
  by_cases hm : x ∈ L
  · rw [if_pos hm]
    have := List.idxOf_lt_length_of_mem hm
    exact ⟨fun q => absurd q (nI_pos (by omega)), fun q => absurd hm q⟩
  · rw [if_neg hm]; exact ⟨fun _ => hm, fun _ => by decide⟩
theorem kPl_cl {L : List Int32} {x : Int32} (h : L.length < 2 ^ 31) (hm : x ∈ L) : (kPl L x).toNatClampNeg = L.idxOf x := by
  unfold kPl
  have := List.idxOf_lt_length_of_mem hm
  rw [if_pos hm, nI_clamp (by omega)]
theorem kl_nodup {f : Nat → Int32} {n : Nat} (h : (kl f n).Nodup) {a b : Nat} (ha : a < n) (hb : b < n) (e : f a = f b) : a = b := by
  have h1 : (kl f n)[a]? = (kl f n)[b]? := by rw [kl_get, kl_get, if_pos ha, if_pos hb, e]
  exact (List.getElem?_inj (by rw [kl_len]; exact ha) h).mp h1
theorem er_idx {L : List Int32} {x : Int32} : L.eraseIdx (L.idxOf x) = L.erase x := (List.erase_eq_eraseIdx_of_idxOf rfl).symm
def mL (q : MS) (s l : Nat) : List Int32 := kl (mRow q s l) (zs q s l)
theorem mL_len (q : MS) (s l : Nat) : (mL q s l).length = zs q s l := kl_len _ _
theorem mL_congr {q q2 : MS} {s l : Nat} (hz : zs q2 s l = zs q s l) (hr : ∀ k, k < zs q s l → mRow q2 s l k = mRow q s l k) : mL q2 s l = mL q s l := by
  unfold mL
  rw [hz]
  refine kl_ext (fun i hi => ?_) (kl_len _ _)
  rw [kl_get, if_pos hi, hr i hi]
theorem mL_app {q : MS} {s l : Nat} {x : Int32} : mL (M_append q s l x) s l = mL q s l ++ [x] := by
  unfold mL
  rw [zs_app, kl_succ]
  have e1 : mRow (M_append q s l x) s l (zs q s l) = x := by
    show upd (m_keys q) (140 * (4 * s + l) + zs q s l) x (140 * (4 * s + l) + zs q s l) = x
    exact pk_us
  have e2 : kl (mRow (M_append q s l x) s l) (zs q s l) = kl (mRow q s l) (zs q s l) := by
    refine kl_ext (fun i hi => ?_) (kl_len _ _)
    rw [kl_get, if_pos hi]
    show some (m_keys q (140 * (4 * s + l) + i)) = some (upd (m_keys q) (140 * (4 * s + l) + zs q s l) x (140 * (4 * s + l) + i))
    rw [pk_un (by omega)]
  rw [e1, e2]
theorem mL_app_ne {q : MS} {s l s2 l2 : Nat} {x : Int32} (hn : 4 * s2 + l2 ≠ 4 * s + l) (h1 : zs q s l < 140) (h2 : zs q s2 l2 ≤ 140) : mL (M_append q s l x) s2 l2 = mL q s2 l2 := by
  refine mL_congr (zs_app_ne q x hn) (fun k hk => ?_)
  show upd (m_keys q) (140 * (4 * s + l) + zs q s l) x (140 * (4 * s2 + l2) + k) = m_keys q (140 * (4 * s2 + l2) + k)
  exact pk_un (by omega)
theorem mL_take {q : MS} {s l i : Nat} (hi : i < zs q s l) : mL (M_take q s l i) s l = (mL q s l).eraseIdx i := by
  unfold mL
  rw [zs_take]
  refine kl_ext (fun k hk => ?_) ?_
  · rw [List.getElem?_eraseIdx]
    show _ = some (mShift (m_keys q) (140 * (4 * s + l)) i (zs q s l - 1) (140 * (4 * s + l) + k))
    unfold mShift
    by_cases h : k < i
    · rw [if_pos h, kl_get, if_pos (by omega), if_neg (by omega)]
      rfl
    · rw [if_neg h, kl_get, if_pos (by omega), if_pos (by omega)]
      rfl
  · rw [List.length_eraseIdx, kl_len, if_pos hi]
theorem mL_take_ne {q : MS} {s l s2 l2 i : Nat} (hn : 4 * s2 + l2 ≠ 4 * s + l) (h1 : zs q s l ≤ 140) (h2 : zs q s2 l2 ≤ 140) : mL (M_take q s l i) s2 l2 = mL q s2 l2 := by
  refine mL_congr (zs_take_ne q hn) (fun k hk => ?_)
  show mShift (m_keys q) (140 * (4 * s + l)) i (zs q s l - 1) (140 * (4 * s2 + l2) + k) = m_keys q (140 * (4 * s2 + l2) + k)
  unfold mShift
  rw [if_neg (by omega)]
theorem mL_get {q : MS} {s l k : Nat} (h : k < zs q s l) : (mL q s l)[k]? = some (mRow q s l k) := by
  unfold mL; rw [kl_get, if_pos h]
theorem mL_hd {q : MS} {s l : Nat} (h : 0 < zs q s l) : mRow q s l 0 = (mL q s l).headD (-1) := by
  have e := mL_get h
  rw [List.headD_eq_head?_getD, List.head?_eq_getElem?, e]
  rfl
theorem mL_at {q : MS} {s l : Nat} {x : Int32} (h : x ∈ mL q s l) : (mL q s l).idxOf x < zs q s l ∧ mRow q s l ((mL q s l).idxOf x) = x := kl_idx h
theorem zs_take_le (q : MS) (s l i s2 l2 : Nat) : zs (M_take q s l i) s2 l2 ≤ zs q s2 l2 := by
  by_cases h : 4 * s2 + l2 = 4 * s + l
  · have e : zs (M_take q s l i) s2 l2 = zs q s l - 1 := by
      show va_up (m_sizes q) (4 * s + l) (zs q s l - 1) (4 * s2 + l2) = _
      rw [h, va_up_self]
    have e2 : zs q s2 l2 = zs q s l := by unfold zs; rw [h]
    omega
  · rw [zs_take_ne q h]; exact Nat.le_refl _
theorem zs_app_le (q : MS) (s l : Nat) (x : Int32) (s2 l2 : Nat) : zs (M_append q s l x) s2 l2 ≤ zs q s2 l2 + 1 := by
  by_cases h : 4 * s2 + l2 = 4 * s + l
  · have e : zs (M_append q s l x) s2 l2 = zs q s l + 1 := by
      show va_up (m_sizes q) (4 * s + l) (zs q s l + 1) (4 * s2 + l2) = _
      rw [h, va_up_self]
    have e2 : zs q s2 l2 = zs q s l := by unfold zs; rw [h]
    omega
  · rw [zs_app_ne q x h]; omega
/-- a step at shelf i leaves the other shelves, what shelves are, and the row -/
def Fr (q q2 : MS) (i : Nat) : Prop :=
  (m_sh q2 = m_sh q ∧ m_ways q2 = m_ways q ∧ m_caps q2 = m_caps q ∧ m_ins q2 = m_ins q ∧ m_gr q2 = m_gr q ∧ m_row q2 = m_row q ∧ m_uses q2 = m_uses q ∧ m_held q2 = m_held q) ∧ m_now q ≤ m_now q2 ∧
  ∀ j, j ≠ i → (∀ k, k < 560 → m_keys q2 (560 * j + k) = m_keys q (560 * j + k)) ∧ (∀ l, l < 4 → m_sizes q2 (4 * j + l) = m_sizes q (4 * j + l)) ∧ (∀ y, y < 512 → m_vals q2 (512 * j + y) = m_vals q (512 * j + y) ∧ m_cnts q2 (512 * j + y) = m_cnts q (512 * j + y) ∧ m_stmp q2 (512 * j + y) = m_stmp q (512 * j + y)) ∧ (∀ p, p < 64 → m_marks q2 (64 * j + p) = m_marks q (64 * j + p)) ∧ m_hands q2 j = m_hands q j ∧ m_hits q2 j = m_hits q j ∧ m_miss q2 j = m_miss q j ∧ m_gone q2 j = m_gone q j
theorem Fr.refl (q : MS) (i : Nat) : Fr q q i := ⟨⟨rfl, rfl, rfl, rfl, rfl, rfl, rfl, rfl⟩, Nat.le_refl _, fun _ _ => ⟨fun _ _ => rfl, fun _ _ => rfl, fun _ _ => ⟨rfl, rfl, rfl⟩, fun _ _ => rfl, rfl, rfl, rfl, rfl⟩⟩
theorem Fr.trans {a b c : MS} {i : Nat} (h : Fr a b i) (g : Fr b c i) : Fr a c i := by
  obtain ⟨⟨h1, h2, h3, h4, h5, h6, h7, h8⟩, hn, hf⟩ := h
  obtain ⟨⟨g1, g2, g3, g4, g5, g6, g7, g8⟩, gn, gf⟩ := g
  refine ⟨⟨g1.trans h1, g2.trans h2, g3.trans h3, g4.trans h4, g5.trans h5, g6.trans h6, g7.trans h7, g8.trans h8⟩, Nat.le_trans hn gn, fun j hj => ?_⟩
  obtain ⟨a1, a2, a3, a4, a5, a6, a7, a8⟩ := hf j hj
  obtain ⟨b1, b2, b3, b4, b5, b6, b7, b8⟩ := gf j hj
  exact ⟨fun k hk => (b1 k hk).trans (a1 k hk), fun l hl => (b2 l hl).trans (a2 l hl), fun y hy => ⟨(b3 y hy).1.trans (a3 y hy).1, (b3 y hy).2.1.trans (a3 y hy).2.1, (b3 y hy).2.2.trans (a3 y hy).2.2⟩, fun p hp => (b4 p hp).trans (a4 p hp), b5.trans a5, b6.trans a6, b7.trans a7, b8.trans a8⟩
theorem Fr_append {q : MS} {s l : Nat} (x : Int32) (hl : l < 4) (hz : zs q s l < 140) : Fr q (M_append q s l x) s :=
  ⟨⟨rfl, rfl, rfl, rfl, rfl, rfl, rfl, rfl⟩, Nat.le_refl _, fun j hj => ⟨fun k hk => by
      show upd (m_keys q) (140 * (4 * s + l) + zs q s l) x (560 * j + k) = m_keys q (560 * j + k)
      exact pk_un (by omega), fun m hm => by
      show va_up (m_sizes q) (4 * s + l) (zs q s l + 1) (4 * j + m) = m_sizes q (4 * j + m)
      exact va_up_ne _ _ (by omega), fun _ _ => ⟨rfl, rfl, rfl⟩, fun _ _ => rfl, rfl, rfl, rfl, rfl⟩⟩
theorem Fr_take {q : MS} {s l : Nat} (i : Nat) (hl : l < 4) (hz : zs q s l ≤ 140) : Fr q (M_take q s l i) s :=
  ⟨⟨rfl, rfl, rfl, rfl, rfl, rfl, rfl, rfl⟩, Nat.le_refl _, fun j hj => ⟨fun k hk => by
      show mShift (m_keys q) (140 * (4 * s + l)) i (zs q s l - 1) (560 * j + k) = m_keys q (560 * j + k)
      unfold mShift
      rw [if_neg (by omega)], fun m hm => by
      show va_up (m_sizes q) (4 * s + l) (zs q s l - 1) (4 * j + m) = m_sizes q (4 * j + m)
      exact va_up_ne _ _ (by omega), fun _ _ => ⟨rfl, rfl, rfl⟩, fun _ _ => rfl, rfl, rfl, rfl, rfl⟩⟩
theorem Fr_leave (q : MS) (s : Nat) : Fr q (M_leave q s) s :=
  ⟨⟨rfl, rfl, rfl, rfl, rfl, rfl, rfl, rfl⟩, Nat.le_refl _, fun j hj => ⟨fun _ _ => rfl, fun _ _ => rfl, fun _ _ => ⟨rfl, rfl, rfl⟩, fun _ _ => rfl, rfl, rfl, rfl, pk_un hj⟩⟩
theorem Fr_hit (q : MS) (s : Nat) : Fr q (M_hit q s) s :=
  ⟨⟨rfl, rfl, rfl, rfl, rfl, rfl, rfl, rfl⟩, Nat.le_refl _, fun j hj => ⟨fun _ _ => rfl, fun _ _ => rfl, fun _ _ => ⟨rfl, rfl, rfl⟩, fun _ _ => rfl, rfl, pk_un hj, rfl, rfl⟩⟩
theorem Fr_miss (q : MS) (s : Nat) : Fr q (M_miss q s) s :=
  ⟨⟨rfl, rfl, rfl, rfl, rfl, rfl, rfl, rfl⟩, Nat.le_refl _, fun j hj => ⟨fun _ _ => rfl, fun _ _ => rfl, fun _ _ => ⟨rfl, rfl, rfl⟩, fun _ _ => rfl, rfl, rfl, pk_un hj, rfl⟩⟩
theorem Fr_th (q : MS) (t s : Nat) : Fr q (M_th q t) s :=
  ⟨⟨rfl, rfl, rfl, rfl, rfl, rfl, rfl, rfl⟩, Nat.le_refl _, fun j hj => ⟨fun _ _ => rfl, fun _ _ => rfl, fun _ _ => ⟨rfl, rfl, rfl⟩, fun _ _ => rfl, rfl, rfl, rfl, rfl⟩⟩
theorem Fr_tick (q : MS) (s : Nat) : Fr q (M_tick q) s :=
  ⟨⟨rfl, rfl, rfl, rfl, rfl, rfl, rfl, rfl⟩, Nat.le_succ _, fun j hj => ⟨fun _ _ => rfl, fun _ _ => rfl, fun _ _ => ⟨rfl, rfl, rfl⟩, fun _ _ => rfl, rfl, rfl, rfl, rfl⟩⟩
theorem Fr_tgt (q : MS) (s z : Nat) : Fr q (M_tgt q s z) s :=
  ⟨⟨rfl, rfl, rfl, rfl, rfl, rfl, rfl, rfl⟩, Nat.le_refl _, fun j hj => ⟨fun _ _ => rfl, fun _ _ => rfl, fun _ _ => ⟨rfl, rfl, rfl⟩, fun _ _ => rfl, va_up_ne _ _ hj, rfl, rfl, rfl⟩⟩
theorem Fr_val {q : MS} {s x : Nat} (v : Int32) (hx : x < 512) : Fr q (M_val q s x v) s :=
  ⟨⟨rfl, rfl, rfl, rfl, rfl, rfl, rfl, rfl⟩, Nat.le_refl _, fun j hj => ⟨fun _ _ => rfl, fun _ _ => rfl, fun y hy => ⟨by
      show upd (m_vals q) (512 * s + x) v (512 * j + y) = m_vals q (512 * j + y)
      exact pk_un (by omega), rfl, rfl⟩, fun _ _ => rfl, rfl, rfl, rfl, rfl⟩⟩
theorem Fr_stamp {q : MS} {s x : Nat} (hx : x < 512) : Fr q (M_stamp q s x) s :=
  ⟨⟨rfl, rfl, rfl, rfl, rfl, rfl, rfl, rfl⟩, Nat.le_succ _, fun j hj => ⟨fun _ _ => rfl, fun _ _ => rfl, fun y hy => ⟨rfl, by
      show upd (m_cnts q) (512 * s + x) (m_cnts q (512 * s + x) + nI 1) (512 * j + y) = m_cnts q (512 * j + y)
      exact pk_un (by omega), by
      show va_up (m_stmp q) (512 * s + x) (m_now q + 1) (512 * j + y) = m_stmp q (512 * j + y)
      exact va_up_ne _ _ (by omega)⟩, fun _ _ => rfl, rfl, rfl, rfl, rfl⟩⟩
theorem Fr_new {q : MS} {s x : Nat} (hx : x < 512) : Fr q (M_new q s x) s :=
  ⟨⟨rfl, rfl, rfl, rfl, rfl, rfl, rfl, rfl⟩, Nat.le_refl _, fun j hj => ⟨fun _ _ => rfl, fun _ _ => rfl, fun y hy => ⟨rfl, by
      show upd (m_cnts q) (512 * s + x) (nI 1) (512 * j + y) = m_cnts q (512 * j + y)
      exact pk_un (by omega), by
      show va_up (m_stmp q) (512 * s + x) (m_now q) (512 * j + y) = m_stmp q (512 * j + y)
      exact va_up_ne _ _ (by omega)⟩, fun _ _ => rfl, rfl, rfl, rfl, rfl⟩⟩
theorem Fr_mark {q : MS} {s i : Nat} (hi : i < 64) : Fr q (M_mark q (64 * s + i)) s :=
  ⟨⟨rfl, rfl, rfl, rfl, rfl, rfl, rfl, rfl⟩, Nat.le_refl _, fun j hj => ⟨fun _ _ => rfl, fun _ _ => rfl, fun _ _ => ⟨rfl, rfl, rfl⟩, fun p hp => by
      show upd (m_marks q) (64 * s + i) (nI 1) (64 * j + p) = m_marks q (64 * j + p)
      exact pk_un (by omega), rfl, rfl, rfl, rfl⟩⟩
theorem Fr_unclk {q : MS} {s i : Nat} (hi : i < 64) : Fr q (M_unclk q s i) s :=
  ⟨⟨rfl, rfl, rfl, rfl, rfl, rfl, rfl, rfl⟩, Nat.le_refl _, fun j hj => ⟨fun k hk => by
      show upd (m_keys q) (560 * s + i) (-1) (560 * j + k) = m_keys q (560 * j + k)
      exact pk_un (by omega), fun _ _ => rfl, fun _ _ => ⟨rfl, rfl, rfl⟩, fun p hp => by
      show upd (m_marks q) (64 * s + i) (nI 0) (64 * j + p) = m_marks q (64 * j + p)
      exact pk_un (by omega), rfl, rfl, rfl, rfl⟩⟩
theorem Fr_ccFree {q : MS} {s i : Nat} (x : Int32) (hi : i < 64) : Fr q (M_ccFree q s i x) s :=
  ⟨⟨rfl, rfl, rfl, rfl, rfl, rfl, rfl, rfl⟩, Nat.le_refl _, fun j hj => ⟨fun k hk => by
      show upd (m_keys q) (560 * s + i) x (560 * j + k) = m_keys q (560 * j + k)
      exact pk_un (by omega), fun _ _ => rfl, fun _ _ => ⟨rfl, rfl, rfl⟩, fun p hp => by
      show upd (m_marks q) (64 * s + i) (nI 0) (64 * j + p) = m_marks q (64 * j + p)
      exact pk_un (by omega), rfl, rfl, rfl, rfl⟩⟩
theorem sweepN_nez {f : Nat → Int32} {ix : Nat → Nat} {p : Nat} (h : ∀ k, ix k ≠ p) : ∀ n : Nat, sweepN f ix n p = f p
  | 0 => rfl
  | n + 1 => by
    show upd (sweepN f ix n) (ix n) (nI 0) p = f p
    rw [pk_un (fun e => h n e.symm), sweepN_nez h n]
theorem Fr_ccGo {q : MS} {s : Nat} (x : Int32) (h1 : 1 ≤ m_caps q s) (h2 : m_caps q s ≤ 64) (hp : mCP q s < 64) : Fr q (M_ccGo q s x) s :=
  ⟨⟨rfl, rfl, rfl, rfl, rfl, rfl, rfl, rfl⟩, Nat.le_refl _, fun j hj => ⟨fun k hk => by
      show upd (m_keys q) (560 * s + mCP q s) x (560 * j + k) = m_keys q (560 * j + k)
      exact pk_un (by omega), fun _ _ => rfl, fun _ _ => ⟨rfl, rfl, rfl⟩, fun p hp => by
      show upd (sweepN (m_marks q) (fun k => 64 * s + mCk q s k) (mSw q s)) (64 * s + mCP q s) (nI 0) (64 * j + p) = m_marks q (64 * j + p)
      rw [pk_un (by omega), sweepN_nez]
      intro k
      have : mCk q s k < m_caps q s := Nat.mod_lt _ (by omega)
      omega, va_up_ne _ _ hj, rfl, rfl, pk_un hj⟩⟩
theorem Fr_touch {q : MS} {s l x i : Nat} (hl : l < 4) (hx : x < 512) (hz : ∀ l, l < 4 → zs q s l ≤ 64) (hi : m_ways q s = 3 → i < 64) : Fr q (M_touch q s l x i) s := by
  unfold M_touch
  have h0 : Fr q (M_stamp q s x) s := Fr_stamp hx
  have hz2 : ∀ l, l < 4 → zs (M_stamp q s x) s l ≤ 64 := hz
  by_cases c1 : m_ways q s = 3
  · rw [if_pos c1]; exact h0.trans (Fr_mark (hi c1))
  · rw [if_neg c1]
    by_cases c2 : m_ways q s = 1 ∨ m_ways q s = 4 ∧ l = 1
    · rw [if_pos c2]
      refine h0.trans ((Fr_take i hl (by have := hz2 l hl; omega)).trans (Fr_append _ hl ?_))
      have := zs_take_le (M_stamp q s x) s l i s l
      have := hz2 l hl
      omega
    · rw [if_neg c2]
      by_cases c3 : 4 < m_ways q s
      · rw [if_pos c3]
        refine h0.trans ((Fr_take i hl (by have := hz2 l hl; omega)).trans (Fr_append _ (by omega) ?_))
        have := zs_take_le (M_stamp q s x) s l i s 1
        have := hz2 1 (by omega)
        omega
      · rw [if_neg c3]; exact h0
theorem mQF_1 (q : MS) (s : Nat) : mQF q s ≤ 1 := by unfold mQF; split <;> omega
theorem mRF_1 (q : MS) (s b : Nat) : mRF q s b ≤ 1 := by unfold mRF; split <;> omega
theorem Fr_room {q : MS} {s : Nat} (b : Nat) (hz : ∀ l, l < 4 → zs q s l ≤ 66) : Fr q (M_room q s b) s ∧ ∀ l, l < 4 → zs (M_room q s b) s l ≤ zs q s l + 1 := by
  unfold M_room
  have hr := mRF_1 q s b
  by_cases c : mHolds q s = m_caps q s
  · rw [if_pos c]
    have h1 : Fr q (M_take q s (mRF q s b) 0) s := Fr_take 0 (by omega) (by have := hz (mRF q s b) (by omega); omega)
    have hb : ∀ l, l < 4 → zs (M_leave (M_take q s (mRF q s b) 0) s) s l ≤ zs q s l := fun l hl => zs_take_le q s (mRF q s b) 0 s l
    refine ⟨(h1.trans (Fr_leave _ s)).trans (Fr_append _ (by omega) ?_), fun l hl => ?_⟩
    · have := hb (2 + mRF q s b) (by omega)
      have := hz (2 + mRF q s b) (by omega)
      omega
    · have := zs_app_le (M_leave (M_take q s (mRF q s b) 0) s) s (2 + mRF q s b) (mRow q s (mRF q s b) 0) s l
      have := hb l hl
      omega
  · rw [if_neg c]; exact ⟨Fr.refl _ _, fun l _ => Nat.le_succ _⟩
theorem Fr_cq {q : MS} {s : Nat} (hz : ∀ l, l < 4 → zs q s l ≤ 66) : Fr q (M_cq q s) s ∧ ∀ l, l < 4 → zs (M_cq q s) s l ≤ zs q s l + 1 := by
  unfold M_cq
  have hr := mQF_1 q s
  by_cases c : mHolds q s = m_caps q s
  · rw [if_pos c]
    have h1 : Fr q (M_leave (M_take q s (mQF q s) 0) s) s := (Fr_take 0 (by omega) (by have := hz (mQF q s) (by omega); omega)).trans (Fr_leave _ s)
    have hb : ∀ l, l < 4 → zs (M_leave (M_take q s (mQF q s) 0) s) s l ≤ zs q s l := fun l hl => zs_take_le q s (mQF q s) 0 s l
    by_cases c2 : mQF q s = 0
    · rw [if_pos c2]
      have h2 : Fr q (M_append (M_leave (M_take q s (mQF q s) 0) s) s 2 (mRow q s (mQF q s) 0)) s := h1.trans (Fr_append _ (by omega) (by have := hb 2 (by omega); have := hz 2 (by omega); omega))
      have hb2 : ∀ l, l < 4 → zs (M_append (M_leave (M_take q s (mQF q s) 0) s) s 2 (mRow q s (mQF q s) 0)) s l ≤ zs q s l + 1 := fun l hl => by
        have := zs_app_le (M_leave (M_take q s (mQF q s) 0) s) s 2 (mRow q s (mQF q s) 0) s l
        have := hb l hl
        omega
      unfold M_cqG
      split
      · refine ⟨h2.trans (Fr_take 0 (by omega) (by have := hb2 2 (by omega); have := hz 2 (by omega); omega)), fun l hl => ?_⟩
        exact Nat.le_trans (zs_take_le _ s 2 0 s l) (hb2 l hl)
      · exact ⟨h2, hb2⟩
    · rw [if_neg c2]; exact ⟨h1, fun l hl => Nat.le_succ_of_le (hb l hl)⟩
  · rw [if_neg c]; exact ⟨Fr.refl _ _, fun l _ => Nat.le_succ _⟩
theorem Fr_cl {q : MS} {s : Nat} (hz : ∀ l, l < 4 → zs q s l ≤ 66) : Fr q (M_cl q s) s ∧ ∀ l, l < 4 → zs (M_cl q s) s l ≤ zs q s l + 1 := by
  have tk : ∀ l, l < 4 → Fr q (M_room (M_take q s l 0) s 0) s ∧ ∀ m, m < 4 → zs (M_room (M_take q s l 0) s 0) s m ≤ zs q s m + 1 := by
    intro l hl
    have hb : ∀ m, m < 4 → zs (M_take q s l 0) s m ≤ zs q s m := fun m hm => zs_take_le q s l 0 s m
    obtain ⟨r1, r2⟩ := Fr_room (q := M_take q s l 0) (s := s) 0 (fun m hm => Nat.le_trans (hb m hm) (hz m hm))
    exact ⟨(Fr_take 0 hl (by have := hz l hl; omega)).trans r1, fun m hm => by have := r2 m hm; have := hb m hm; omega⟩
  unfold M_cl
  split
  · split
    · exact tk 2 (by omega)
    · exact ⟨(Fr_take 0 (by omega) (by have := hz 0 (by omega); omega)).trans (Fr_leave _ s), fun m hm => Nat.le_succ_of_le (zs_take_le q s 0 0 s m)⟩
  · split
    · split
      · exact tk 3 (by omega)
      · exact Fr_room 0 hz
    · exact ⟨Fr.refl _ _, fun l _ => Nat.le_succ _⟩

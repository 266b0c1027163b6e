/-! CLOCK -/
theorem mod2 {x cp : Nat} (h : x < 2 * cp) : x % cp = if x < cp then x else x - cp := by
  by_cases c : x < cp
  · rw [if_pos c, Nat.mod_eq_of_lt c]
  · rw [if_neg c, Nat.mod_eq_sub_mod (by omega), Nat.mod_eq_of_lt (by omega)]
theorem cNx_mod {cp h : Nat} (hh : h < cp) : cNx cp h = (h + 1) % cp := by
  unfold cNx
  rw [mod2 (by omega)]
  by_cases c : h + 1 < cp
  · rw [if_pos c, if_pos c]
  · rw [if_neg c, if_neg c]; omega
theorem mod_ne {cp h m : Nat} (hh : h < cp) (h0 : 0 < m) (hm : m < cp) : (h + m) % cp ≠ h := by
  rw [mod2 (by omega)]
  split <;> omega
theorem sweepN_sh (f : Nat → Int32) (ix : Nat → Nat) : ∀ k : Nat, sweepN (upd f (ix 0) (nI 0)) (fun j => ix (j + 1)) k = sweepN f ix (k + 1)
  | 0 => rfl
  | k + 1 => by
    show upd (sweepN (upd f (ix 0) (nI 0)) (fun j => ix (j + 1)) k) (ix (k + 1)) (nI 0) = upd (sweepN f ix (k + 1)) (ix (k + 1)) (nI 0)
    rw [sweepN_sh f ix k]
theorem sweepN_or (f : Nat → Int32) (ix : Nat → Nat) (p : Nat) : ∀ k : Nat, sweepN f ix k p = nI 0 ∨ sweepN f ix k p = f p
  | 0 => Or.inr rfl
  | k + 1 => by
    show upd (sweepN f ix k) (ix k) (nI 0) p = nI 0 ∨ upd (sweepN f ix k) (ix k) (nI 0) p = f p
    by_cases e : p = ix k
    · rw [e, pk_us]; exact Or.inl rfl
    · rw [pk_un e]; exact sweepN_or f ix p k
theorem sweepN_rel {M f : Nat → Int32} {ix : Nat → Nat} {b cp : Nat} (h : ∀ p, p < cp → M (b + p) = f p) {p : Nat} (hp : p < cp) : ∀ n : Nat, sweepN M (fun k => b + ix k) n (b + p) = sweepN f ix n p
  | 0 => h p hp
  | n + 1 => by
    show upd (sweepN M (fun k => b + ix k) n) (b + ix n) (nI 0) (b + p) = upd (sweepN f ix n) (ix n) (nI 0) p
    by_cases e : p = ix n
    · rw [e, pk_us, pk_us]
    · rw [pk_un (by omega), pk_un e]; exact sweepN_rel h hp n
theorem cSw_spec {cp : Nat} (h1 : 1 ≤ cp) : ∀ (n : Nat) (f : Nat → Int32) (h : Nat), h < cp → n ≤ cp → (∃ k, k < n ∧ (∀ j, j < k → f ((h + j) % cp) ≠ 0) ∧ f ((h + k) % cp) = 0 ∧ cSw cp n f h = (sweepN f (fun j => (h + j) % cp) k, (h + k) % cp)) ∨ ((∀ j, j < n → f ((h + j) % cp) ≠ 0) ∧ cSw cp n f h = (sweepN f (fun j => (h + j) % cp) n, (h + n) % cp))
  | 0, f, h, hh, _ => Or.inr ⟨fun j q => absurd q (Nat.not_lt_zero _), by
      show (f, h) = (f, (h + 0) % cp)
      rw [Nat.add_zero, Nat.mod_eq_of_lt hh]⟩
  | n + 1, f, h, hh, hn => by
    have h0 : (h + 0) % cp = h := by rw [Nat.add_zero, Nat.mod_eq_of_lt hh]
    by_cases c : f h = 0
    · refine Or.inl ⟨0, by omega, fun j q => absurd q (Nat.not_lt_zero _), by rw [h0]; exact c, ?_⟩
      rw [cSw_stop c, h0]; rfl
    · have e1 : cSw cp (n + 1) f h = cSw cp n (upd f h (nI 0)) (cNx cp h) := by
        show (if f h = 0 then (f, h) else cSw cp n (upd f h (nI 0)) (cNx cp h)) = _
        rw [if_neg c]
      have e2 : ∀ j, (cNx cp h + j) % cp = (h + (j + 1)) % cp := fun j => by
        rw [cNx_mod hh, Nat.mod_add_mod]; congr 1; omega
      have e3 : ∀ j, j < n → upd f h (nI 0) ((h + (j + 1)) % cp) = f ((h + (j + 1)) % cp) := fun j hj => pk_un (mod_ne hh (by omega) (by omega))
      have e4 : (fun j => (cNx cp h + j) % cp) = fun j => (h + (j + 1)) % cp := funext e2
      have e5 : ∀ k, sweepN (upd f h (nI 0)) (fun j => (h + (j + 1)) % cp) k = sweepN f (fun j => (h + j) % cp) (k + 1) := fun k => by
        have := sweepN_sh f (fun j => (h + j) % cp) k
        rwa [h0] at this
      rw [e1]
      rcases cSw_spec h1 n (upd f h (nI 0)) (cNx cp h) (cNx_lt hh) (by omega) with ⟨k, k1, k2, k3, k4⟩ | ⟨k2, k4⟩
      · refine Or.inl ⟨k + 1, by omega, fun j hj => ?_, ?_, ?_⟩
        · cases j with
          | zero => rw [h0]; exact c
          | succ j =>
            have := k2 j (by omega)
            rwa [e2, e3 j (by omega)] at this
        · rwa [e2, e3 k k1] at k3
        · rw [k4, e4, e5, e2]
      · refine Or.inr ⟨fun j hj => ?_, ?_⟩
        · cases j with
          | zero => rw [h0]; exact c
          | succ j =>
            have := k2 j (by omega)
            rwa [e2, e3 j (by omega)] at this
        · rw [k4, e4, e5, e2]
theorem cFd_spec {cp : Nat} (h1 : 1 ≤ cp) (f : Nat → Int32) : ∀ (n : Nat) (h : Nat), h < cp → (∃ k, k < n ∧ (∀ j, j < k → f ((h + j) % cp) ≠ 0) ∧ f ((h + k) % cp) = 0 ∧ cFd cp f n h = (h + k) % cp) ∨ ((∀ j, j < n → f ((h + j) % cp) ≠ 0) ∧ cFd cp f n h = (h + n) % cp)
  | 0, h, hh => Or.inr ⟨fun j q => absurd q (Nat.not_lt_zero _), by
      show h = (h + 0) % cp
      rw [Nat.add_zero, Nat.mod_eq_of_lt hh]⟩
  | n + 1, h, hh => by
    have h0 : (h + 0) % cp = h := by rw [Nat.add_zero, Nat.mod_eq_of_lt hh]
    by_cases c : f h = 0
    · refine Or.inl ⟨0, by omega, fun j q => absurd q (Nat.not_lt_zero _), by rw [h0]; exact c, ?_⟩
      rw [cFd_stop c, h0]
    · have e1 : cFd cp f (n + 1) h = cFd cp f n (cNx cp h) := by
        show (if f h = 0 then h else cFd cp f n (cNx cp h)) = _
        rw [if_neg c]
      have e2 : ∀ j, (cNx cp h + j) % cp = (h + (j + 1)) % cp := fun j => by
        rw [cNx_mod hh, Nat.mod_add_mod]; congr 1; omega
      rw [e1]
      rcases cFd_spec h1 f n (cNx cp h) (cNx_lt hh) with ⟨k, k1, k2, k3, k4⟩ | ⟨k2, k4⟩
      · refine Or.inl ⟨k + 1, by omega, fun j hj => ?_, ?_, ?_⟩
        · cases j with
          | zero => rw [h0]; exact c
          | succ j =>
            have := k2 j (by omega)
            rwa [e2] at this
        · rwa [e2] at k3
        · rw [k4, e2]
      · refine Or.inr ⟨fun j hj => ?_, ?_⟩
        · cases j with
          | zero => rw [h0]; exact c
          | succ j =>
            have := k2 j (by omega)
            rwa [e2] at this
        · rw [k4, e2]
theorem Rel.r3 {q : MS} {i : Nat} {s : AS} (h : Rel q i s) (hw : s_way s = 3) : R3 q i s := by
  obtain ⟨-, -, h | h | h | h | h⟩ := h
  · have := h.1; omega
  · have := h.1; omega
  · exact h
  all_goals (have := h.1; omega)
/-- the place at which a key would go -/
theorem clk_place {q : MS} {i : Nat} {s : AS} (h : Rel q i s) (hw : s_way s = 3) : (cSw (s_cp s) (s_cp s) (s_f s) (s_p s)).2 = mCP q i ∧ cFd (s_cp s) (s_f s) (s_cp s) (s_p s) = mCP q i ∧ ∀ p, p < s_cp s → (cSw (s_cp s) (s_cp s) (s_f s) (s_p s)).1 p = upd (sweepN (m_marks q) (fun k => 64 * i + mCk q i k) (mSw q i)) (64 * i + mCP q i) (nI 0) (64 * i + p) := by
  obtain ⟨-, hk, -, hmk, hh, -⟩ := h.r3 hw
  obtain ⟨hC, hA, -⟩ := h
  obtain ⟨a1, a2, a3, a4, a5, a6⟩ := (AI3 hw).mp hA
  have hcp : m_caps q i = s_cp s := hC.2.1.symm
  have hck : ∀ k, mCk q i k = (s_p s + k) % s_cp s := fun k => by unfold mCk; rw [hh, hcp]
  have hlt : ∀ k, (s_p s + k) % s_cp s < s_cp s := fun k => Nat.mod_lt _ (by omega)
  have hix : (fun k => 64 * i + mCk q i k) = fun k => 64 * i + (fun k => (s_p s + k) % s_cp s) k := funext (fun k => by rw [hck])
  have hself : (s_p s + s_cp s) % s_cp s = s_p s := by rw [Nat.add_mod_right, Nat.mod_eq_of_lt a4]
  have hF : mCF q i = firstO (fun k => s_f s ((s_p s + k) % s_cp s) = 0) (s_cp s) := by
    unfold mCF
    rw [hcp]
    exact firstO_congr (fun k hk => by rw [hck, hmk _ (hlt k)])
  rcases firstO_cases (fun k => s_f s ((s_p s + k) % s_cp s) = 0) (s_cp s) with ⟨hno, hn⟩ | ⟨k, hso, hk1, hk2, hk3⟩
  · rw [hno] at hF
    have eP : mCP q i = s_p s := by rw [mCP_none hF, hh]
    have eS : mSw q i = s_cp s + 1 := by unfold mSw; rw [hF, hcp]
    have e1 : cSw (s_cp s) (s_cp s) (s_f s) (s_p s) = (sweepN (s_f s) (fun j => (s_p s + j) % s_cp s) (s_cp s), s_p s) := by
      rcases cSw_spec a1 (s_cp s) (s_f s) (s_p s) a4 (Nat.le_refl _) with ⟨k, k1, -, k3, -⟩ | ⟨-, k4⟩
      · exact absurd k3 (hn k k1)
      · rw [k4, hself]
    have e2 : cFd (s_cp s) (s_f s) (s_cp s) (s_p s) = s_p s := by
      rcases cFd_spec a1 (s_f s) (s_cp s) (s_p s) a4 with ⟨k, k1, -, k3, -⟩ | ⟨-, k4⟩
      · exact absurd k3 (hn k k1)
      · rw [k4, hself]
    rw [e1, e2, eP, eS]
    refine ⟨rfl, rfl, fun p hp => ?_⟩
    show sweepN (s_f s) (fun j => (s_p s + j) % s_cp s) (s_cp s) p = _
    by_cases e : p = s_p s
    · rw [e, pk_us]
      exact sweepN_in (k := 0) (by omega) (by rw [Nat.add_zero, Nat.mod_eq_of_lt a4])
    · rw [pk_un (by omega)]
      show _ = upd (sweepN (m_marks q) (fun k => 64 * i + mCk q i k) (s_cp s)) (64 * i + mCk q i (s_cp s)) (nI 0) (64 * i + p)
      rw [pk_un (by rw [hck, hself]; omega), hix, sweepN_rel hmk hp]
  · rw [hso] at hF
    have eP : mCP q i = (s_p s + k) % s_cp s := by rw [mCP_some hF, hck]
    have eS : mSw q i = k + 1 := by unfold mSw; rw [hF]
    have uq : ∀ k', (∀ j, j < k' → s_f s ((s_p s + j) % s_cp s) ≠ 0) → s_f s ((s_p s + k') % s_cp s) = 0 → k' = k := by
      intro k' q1 q2
      rcases Nat.lt_trichotomy k' k with z | z | z
      · exact absurd q2 (hk3 k' z)
      · exact z
      · exact absurd hk2 (q1 k z)
    have e1 : cSw (s_cp s) (s_cp s) (s_f s) (s_p s) = (sweepN (s_f s) (fun j => (s_p s + j) % s_cp s) k, (s_p s + k) % s_cp s) := by
      rcases cSw_spec a1 (s_cp s) (s_f s) (s_p s) a4 (Nat.le_refl _) with ⟨k', k1, k2, k3, k4⟩ | ⟨k2, -⟩
      · rw [k4, uq k' k2 k3]
      · exact absurd hk2 (k2 k hk1)
    have e2 : cFd (s_cp s) (s_f s) (s_cp s) (s_p s) = (s_p s + k) % s_cp s := by
      rcases cFd_spec a1 (s_f s) (s_cp s) (s_p s) a4 with ⟨k', k1, k2, k3, k4⟩ | ⟨k2, -⟩
      · rw [k4, uq k' k2 k3]
      · exact absurd hk2 (k2 k hk1)
    rw [e1, e2, eP, eS]
    refine ⟨rfl, rfl, fun p hp => ?_⟩
    show sweepN (s_f s) (fun j => (s_p s + j) % s_cp s) k p = _
    by_cases e : p = (s_p s + k) % s_cp s
    · rw [← e, pk_us]
      rcases sweepN_or (s_f s) (fun j => (s_p s + j) % s_cp s) p k with z | z
      · exact z
      · rw [z, e]; exact hk2
    · rw [pk_un (by omega)]
      show _ = upd (sweepN (m_marks q) (fun k => 64 * i + mCk q i k) k) (64 * i + mCk q i k) (nI 0) (64 * i + p)
      rw [pk_un (by rw [hck]; omega), hix, sweepN_rel hmk hp]
theorem cntK_congr {f g : Nat → Int32} : ∀ n : Nat, (∀ p, p < n → f p = g p) → cntK f n = cntK g n
  | 0, _ => rfl
  | n + 1, h => by
    show (if f n < 0 then cntK f n else cntK f n + 1) = if g n < 0 then cntK g n else cntK g n + 1
    rw [h n (by omega), cntK_congr n (fun p hp => h p (by omega))]
theorem cntK_upd {f : Nat → Int32} {j : Nat} {x : Int32} : ∀ n : Nat, j < n → cntK (upd f j x) n + (if f j < 0 then 0 else 1) = cntK f n + (if x < 0 then 0 else 1)
  | 0, h => absurd h (Nat.not_lt_zero _)
  | n + 1, h => by
    have e1 : cntK (upd f j x) (n + 1) = if upd f j x n < 0 then cntK (upd f j x) n else cntK (upd f j x) n + 1 := rfl
    have e2 : cntK f (n + 1) = if f n < 0 then cntK f n else cntK f n + 1 := rfl
    rw [e1, e2]
    by_cases e : n = j
    · subst e
      rw [pk_us, cntK_congr n (f := upd f n x) (g := f) (fun p hp => pk_un (by omega))]
      split <;> split <;> omega
    · rw [pk_un e]
      have := cntK_upd (f := f) (x := x) n (show j < n by omega)
      split <;> omega
theorem cntK_full {f : Nat → Int32} : ∀ n : Nat, cntK f n = n ↔ ∀ p, p < n → ¬ f p < 0
  | 0 => ⟨fun _ p h => absurd h (Nat.not_lt_zero _), fun _ => rfl⟩
  | n + 1 => by
    have IH := cntK_full (f := f) n
    have hle := cntK_le f n
    have e : cntK f (n + 1) = if f n < 0 then cntK f n else cntK f n + 1 := rfl
    rw [e]
    constructor
    · intro h p hp
      by_cases c : f n < 0
      · rw [if_pos c] at h; omega
      · rw [if_neg c] at h
        by_cases ep : p = n
        · rw [ep]; exact c
        · exact IH.mp (by omega) p (by omega)
    · intro h
      rw [if_neg (h n (by omega)), IH.mpr (fun p hp => h p (by omega))]
theorem cntK_pos {f : Nat → Int32} : ∀ n : Nat, (∃ p, p < n ∧ ¬ f p < 0) → 1 ≤ cntK f n
  | 0, ⟨p, h, _⟩ => absurd h (Nat.not_lt_zero _)
  | n + 1, ⟨p, h, hp⟩ => by
    have e : cntK f (n + 1) = if f n < 0 then cntK f n else cntK f n + 1 := rfl
    rw [e]
    by_cases ep : p = n
    · rw [← ep, if_neg hp]; omega
    · have := cntK_pos (f := f) n ⟨p, by omega, hp⟩
      split <;> omega
theorem key_neg {x : Int32} (h : x = -1 ∨ ∃ y, y < 512 ∧ x = nI y) : x < 0 ↔ x = -1 := by
  rcases h with h | ⟨y, hy, h⟩
  · rw [h]; exact ⟨fun _ => rfl, fun _ => by decide⟩
  · rw [h]; exact ⟨fun q => absurd q (nI_pos (by omega)), fun q => ((nI_neg1 (by omega)).mp q).elim⟩
theorem nI_nneg {y : Nat} (hy : y < 512) : ¬ nI y < 0 := nI_pos (by omega)
theorem nI_nm1 {y : Nat} (hy : y < 512) : nI y ≠ -1 := fun q => (nI_neg1 (by omega)).mp q
theorem loc3 {q : MS} {i y : Nat} {s : AS} (h : Rel q i s) (hw : s_way s = 3) (hy : y < 512) : mLoc q i (nI y) = if nI y ∈ s_0 s then some (0, (s_0 s).idxOf (nI y)) else none := by
  obtain ⟨-, hk, -, hmk, hh, -, -, hu, -⟩ := h.r3 hw
  obtain ⟨hC, hA, -⟩ := h
  obtain ⟨a1, a2, a3, -⟩ := (AI3 hw).mp hA
  have hq : m_ways q i = 3 := by rw [← hC.1]; exact hw
  have hf : mFind q i 0 (nI y) = kPl (s_0 s) (nI y) := by
    unfold mFind mLen
    rw [if_pos hq, ← hC.2.1, ← hk]
    exact lastIx_kPl (fun a b ha hb e1 e2 => hu a b ha hb (e1.trans e2.symm) (by rw [e1]; exact nI_nm1 hy))
  have hl : (s_0 s).length < 2 ^ 31 := by omega
  by_cases hm : nI y ∈ s_0 s
  · rw [if_pos hm, loc_at (l := 0) (by rw [ls_1 (by omega)]; omega) (by rw [hf, kPl_neg hl]; exact fun z => z hm) (fun j hj => absurd hj (Nat.not_lt_zero _)), hf, kPl_cl hl hm]
  · rw [if_neg hm]
    refine loc_no ?_
    rw [ls_1 (by omega)]
    exact lt1 (by rw [hf, kPl_neg hl]; exact hm)
/-- the places behind a change at one of them -/
theorem clk_set {q q2 : MS} {i k : Nat} {x : Int32} {s : AS} (h : Rel q i s) (hw : s_way s = 3) (hk1 : k < s_cp s) (hx : x = -1 ∨ ∃ y, y < 512 ∧ x = nI y) (hnew : x ≠ -1 → x ∉ s_0 s) (hq : m_keys q2 = upd (m_keys q) (560 * i + k) x) : (∀ p, p < s_cp s → mRow q2 i 0 p = upd (mRow q i 0) k x p) ∧ kl (mRow q2 i 0) (s_cp s) = (s_0 s).set k x ∧ cntK (mRow q2 i 0) (s_cp s) + (if mRow q i 0 k < 0 then 0 else 1) = s_q s + (if x < 0 then 0 else 1) ∧ (∀ p, p < s_cp s → mRow q2 i 0 p = -1 ∨ ∃ x, x < 512 ∧ mRow q2 i 0 p = nI x) ∧ (∀ a b, a < s_cp s → b < s_cp s → mRow q2 i 0 a = mRow q2 i 0 b → mRow q2 i 0 a ≠ -1 → a = b) := by
  obtain ⟨-, hk, -, hmk, hh, hqc, hf, hu, -⟩ := h.r3 hw
  obtain ⟨hC, hA, -⟩ := h
  obtain ⟨a1, a2, a3, -⟩ := (AI3 hw).mp hA
  have hr : ∀ p, p < s_cp s → mRow q2 i 0 p = upd (mRow q i 0) k x p := by
    intro p hp
    show m_keys q2 (140 * (4 * i + 0) + p) = upd (mRow q i 0) k x p
    rw [hq]
    by_cases e : p = k
    · rw [e, pk_us, show 140 * (4 * i + 0) + k = 560 * i + k from by omega, pk_us]
    · rw [pk_un e, pk_un (by omega)]; rfl
  have hin : ∀ p, p < s_cp s → mRow q i 0 p ∈ s_0 s := fun p hp => by rw [← hk]; exact kl_memz.mpr ⟨p, hp, rfl⟩
  refine ⟨hr, ?_, ?_, ?_, ?_⟩
  · rw [← hk, ← kl_upd]
    refine kl_ext (fun j hj => ?_) (kl_len _ _)
    rw [kl_get, if_pos hj, hr j hj]
  · rw [cntK_congr (s_cp s) hr, hqc]
    exact cntK_upd (s_cp s) hk1
  · intro p hp
    rw [hr p hp]
    by_cases e : p = k
    · rw [e, pk_us]; exact hx
    · rw [pk_un e]; exact hf p hp
  · intro a b ha hb e hne
    rw [hr a ha, hr b hb] at e
    rw [hr a ha] at hne
    by_cases ea : a = k <;> by_cases eb : b = k
    · omega
    · rw [ea, pk_us] at hne
      rw [ea, pk_us, pk_un eb] at e
      exact absurd (e ▸ hin b hb) (hnew hne)
    · rw [eb, pk_us, pk_un ea] at e
      rw [pk_un ea] at hne
      exact absurd (e ▸ hin a ha) (hnew (e ▸ hne))
    · rw [pk_un ea, pk_un eb] at e
      rw [pk_un ea] at hne
      exact hu a b ha hb e hne
theorem use3 {q : MS} {i y : Nat} {s : AS} (h : Rel q i s) (hw : s_way s = 3) (hy : y < 512) (hm : nI y ∈ s_0 s) : Rel (M_touch q i 0 y ((s_0 s).idxOf (nI y))) i (aUse s y) := by
  obtain ⟨-, hk, hz, hmk, hh, hqc, hf, hu, hfm⟩ := h.r3 hw
  obtain ⟨hC, hA, -⟩ := h
  have hA3 := (AI3 hw).mp hA
  have hq : m_ways q i = 3 := by rw [← hC.1]; exact hw
  have eu : aUse s y = mkA 3 (s_cp s) (s_vals s) (s_hi s) (s_mi s) (s_we s) (s_0 s) (s_1 s) (s_2 s) (s_3 s) (s_p s) (s_q s) (upd (s_f s) ((s_0 s).idxOf (nI y)) (nI 1)) := by unfold aUse; rw [hw] <;> rfl
  have em : M_touch q i 0 y ((s_0 s).idxOf (nI y)) = M_mark (M_stamp q i y) (64 * i + (s_0 s).idxOf (nI y)) := by
    unfold M_touch
    rw [if_pos hq]
  have hat : (s_0 s).idxOf (nI y) < s_cp s ∧ mRow q i 0 ((s_0 s).idxOf (nI y)) = nI y := by
    have := kl_idx (f := mRow q i 0) (n := s_cp s) (x := nI y) (by rw [hk]; exact hm)
    rwa [hk] at this
  rw [eu, em]
  refine ⟨RC_of hC rfl rfl rfl rfl rfl hC.2.2.2.2.2 hw.symm rfl rfl rfl rfl, (AI3 (by rfl)).mpr hA3, Or.inr (Or.inr (Or.inl ⟨rfl, hk, hz, ?_, hh, hqc, hf, hu, ?_⟩))⟩
  · intro p hp
    show upd (m_marks q) (64 * i + (s_0 s).idxOf (nI y)) (nI 1) (64 * i + p) = upd (s_f s) ((s_0 s).idxOf (nI y)) (nI 1) p
    by_cases e : p = (s_0 s).idxOf (nI y)
    · rw [e, pk_us, pk_us]
    · rw [pk_un (by omega), pk_un e]; exact hmk p hp
  · intro p hp e
    show upd (s_f s) ((s_0 s).idxOf (nI y)) (nI 1) p = 0
    rw [pk_un]
    · exact hfm p hp e
    · intro z
      rw [z] at e
      exact nI_nm1 hy (hat.2.symm.trans e)
theorem drop3 {q : MS} {i y : Nat} {s : AS} (h : Rel q i s) (hw : s_way s = 3) (hy : y < 512) (hm : nI y ∈ s_0 s) : Rel (M_unclk q i ((s_0 s).idxOf (nI y))) i (aDrop s y) := by
  have h0 := h
  obtain ⟨-, hk, hz, hmk, hh, hqc, hf, hu, hfm⟩ := h.r3 hw
  obtain ⟨hC, hA, -⟩ := h
  obtain ⟨a1, a2, a3, a4, a5, a6⟩ := (AI3 hw).mp hA
  have ea : aDrop s y = mkA 3 (s_cp s) (s_vals s) (s_hi s) (s_mi s) (s_we s) ((s_0 s).set ((s_0 s).idxOf (nI y)) (-1)) (s_1 s) (s_2 s) (s_3 s) (s_p s) (s_q s - 1) (upd (s_f s) ((s_0 s).idxOf (nI y)) (nI 0)) := by unfold aDrop; rw [hw] <;> rfl
  have hat : (s_0 s).idxOf (nI y) < s_cp s ∧ mRow q i 0 ((s_0 s).idxOf (nI y)) = nI y := by
    have := kl_idx (f := mRow q i 0) (n := s_cp s) (x := nI y) (by rw [hk]; exact hm)
    rwa [hk] at this
  obtain ⟨c1, c2, c3, c4, c5⟩ := clk_set (q2 := M_unclk q i ((s_0 s).idxOf (nI y))) h0 hw hat.1 (Or.inl rfl) (fun z => absurd rfl z) rfl
  rw [hat.2, if_neg (nI_nneg hy), if_pos (by decide)] at c3
  rw [ea]
  refine ⟨RC_of hC rfl rfl rfl rfl rfl hC.2.2.2.2.2 hw.symm rfl rfl rfl rfl, (AI3 (by rfl)).mpr ⟨a1, a2, ?_, a4, ?_, ?_⟩, Or.inr (Or.inr (Or.inl ⟨rfl, c2, hz, ?_, hh, ?_, c4, c5, ?_⟩))⟩
  · show ((s_0 s).set ((s_0 s).idxOf (nI y)) (-1)).length = s_cp s
    rw [List.length_set]; exact a3
  · show s_q s - 1 ≤ s_cp s
    omega
  · intro x hx hne
    show 1 ≤ s_q s - 1
    have hx : x ∈ (s_0 s).set ((s_0 s).idxOf (nI y)) (-1) := hx
    rw [← c2] at hx
    obtain ⟨p, p1, p2⟩ := kl_memz.mp hx
    have := cntK_pos (f := mRow (M_unclk q i ((s_0 s).idxOf (nI y))) i 0) (s_cp s) ⟨p, p1, fun z => by
      rw [key_neg (c4 p p1), p2] at z; exact hne z⟩
    omega
  · intro p hp
    show upd (m_marks q) (64 * i + (s_0 s).idxOf (nI y)) (nI 0) (64 * i + p) = upd (s_f s) ((s_0 s).idxOf (nI y)) (nI 0) p
    by_cases e : p = (s_0 s).idxOf (nI y)
    · rw [e, pk_us, pk_us]
    · rw [pk_un (by omega), pk_un e]; exact hmk p hp
  · show s_q s - 1 = _
    show s_q s - 1 = cntK (mRow (M_unclk q i ((s_0 s).idxOf (nI y))) i 0) (s_cp s)
    omega
  · intro p hp e
    have e2 := c1 p hp
    show upd (s_f s) ((s_0 s).idxOf (nI y)) (nI 0) p = 0
    by_cases ep : p = (s_0 s).idxOf (nI y)
    · rw [ep, pk_us]; rfl
    · rw [pk_un ep]
      rw [pk_un ep] at e2
      exact hfm p hp (e2.symm.trans e)
theorem adm3 {q : MS} {i y : Nat} {s : AS} (h : Rel q i s) (hw : s_way s = 3) (hy : y < 512) (hm : nI y ∉ s_0 s) : mCNw9 q i = (aAdm s y).1 ∧ Rel (M_cN q i y) i (aWent (aAdm s y).2 (aAdm s y).1) ∧ Fr q (M_cN q i y) i := by
  have h0 := h
  have hpl := clk_place h hw
  obtain ⟨-, hk, hz, hmk, hh, hqc, hf, hu, hfm⟩ := h.r3 hw
  obtain ⟨hC, hA, -⟩ := h
  obtain ⟨a1, a2, a3, a4, a5, a6⟩ := (AI3 hw).mp hA
  have hq : m_ways q i = 3 := by rw [← hC.1]; exact hw
  have hcp : m_caps q i = s_cp s := hC.2.1.symm
  have eW : mCNw9 q i = mCCw (M_tick q) i := by
    unfold mCNw9 mCNw
    rw [if_neg (show ¬ m_ways (M_tick q) i < 3 by show ¬ m_ways q i < 3; omega), if_pos (show m_ways (M_tick q) i = 3 from hq)]
  have eN : M_cN q i y = M_new (M_comeClock (M_tick q) i (nI y)) i y := by
    unfold M_cN M_come1
    rw [if_neg (show ¬ m_ways (M_tick q) i < 3 by show ¬ m_ways q i < 3; omega), if_pos (show m_ways (M_tick q) i = 3 from hq)]
  have hFr : mFree (M_tick q) i = firstO (fun j => mRow q i 0 j = -1) (s_cp s) := by
    show firstO (fun j => mRow q i 0 j < 0) (m_caps q i) = _
    rw [hcp]
    exact firstO_congr (fun j hj => key_neg (hf j hj))
  have hmem : (-1 : Int32) ∈ s_0 s ↔ ∃ p, p < s_cp s ∧ mRow q i 0 p = -1 := by rw [← hk]; exact kl_memz
  rcases firstO_cases (fun j => mRow q i 0 j = -1) (s_cp s) with ⟨hno, hn⟩ | ⟨k, hso, hk1, hk2, hk3⟩
  · rw [hno] at hFr
    have hnm : (-1 : Int32) ∉ s_0 s := fun z => by
      obtain ⟨p, p1, p2⟩ := hmem.mp z
      exact hn p p1 p2
    have ea : aAdm s y = ((s_0 s).getD (cSw (s_cp s) (s_cp s) (s_f s) (s_p s)).2 0, mkA 3 (s_cp s) (s_vals s) (s_hi s) (s_mi s) (s_we s) ((s_0 s).set (cSw (s_cp s) (s_cp s) (s_f s) (s_p s)).2 (nI y)) (s_1 s) (s_2 s) (s_3 s) (cNx (s_cp s) (cSw (s_cp s) (s_cp s) (s_f s) (s_p s)).2) (s_q s) (cSw (s_cp s) (s_cp s) (s_f s) (s_p s)).1) := by
      unfold aAdm
      rw [hw]
      show (if (-1 : Int32) ∈ s_0 s then _ else _) = _
      rw [if_neg hnm]
    obtain ⟨p1, -, p3⟩ := hpl
    have hlt : mCP q i < s_cp s := by rw [← p1]; exact cSw_lt _ _ _ a4
    rw [p1] at ea
    have eM : M_comeClock (M_tick q) i (nI y) = M_ccGo (M_tick q) i (nI y) := by unfold M_comeClock; rw [hFr]
    have eC : mCCw (M_tick q) i = mRow q i 0 (mCP q i) := by unfold mCCw; rw [hFr]; rfl
    have eg : (s_0 s).getD (mCP q i) 0 = mRow q i 0 (mCP q i) := by rw [← hk]; exact kl_getD hlt
    have hg1 : mRow q i 0 (mCP q i) ≠ -1 := hn _ hlt
    obtain ⟨c1, c2, c3, c4, c5⟩ := clk_set (q2 := M_new (M_ccGo (M_tick q) i (nI y)) i y) (x := nI y) h0 hw hlt (Or.inr ⟨y, hy, rfl⟩) (fun _ => hm) rfl
    rw [if_neg (fun z => hg1 ((key_neg (hf _ hlt)).mp z)), if_neg (nI_nneg hy)] at c3
    rw [eW, eN, eC, eM, ea]
    refine ⟨eg.symm, ⟨RC_of hC rfl rfl rfl rfl rfl ?_ hw.symm rfl rfl rfl rfl, (AI3 (by rfl)).mpr ⟨a1, a2, ?_, ?_, a5, ?_⟩, Or.inr (Or.inr (Or.inl ⟨rfl, c2, hz, ?_, ?_, ?_, c4, c5, ?_⟩))⟩, ?_⟩
    · show upd (m_gone q) i (m_gone q i + nI 1) i = if (s_0 s).getD (mCP q i) 0 = -1 then s_we s else s_we s + nI 1
      rw [pk_us, eg, if_neg hg1, hC.2.2.2.2.2]
    · show ((s_0 s).set (mCP q i) (nI y)).length = s_cp s
      rw [List.length_set]; exact a3
    · show cNx (s_cp s) (mCP q i) < s_cp s
      exact cNx_lt hlt
    · intro x hx hne
      show 1 ≤ s_q s
      exact hqc ▸ cntK_pos (f := mRow q i 0) (s_cp s) ⟨mCP q i, hlt, fun z => hg1 ((key_neg (hf _ hlt)).mp z)⟩
    · intro p hp
      rw [show s_f _ = (cSw (s_cp s) (s_cp s) (s_f s) (s_p s)).1 from rfl, p3 p hp]
      rfl
    · show va_up (m_hands q) i ((mCP q i + 1) % m_caps q i) i = cNx (s_cp s) (mCP q i)
      rw [va_up_self, cNx_mod hlt, hcp]
    · show s_q s = _
      show s_q s = cntK (mRow (M_new (M_ccGo (M_tick q) i (nI y)) i y) i 0) (s_cp s)
      omega
    · intro p hp e
      have e2 := c1 p hp
      exfalso
      by_cases ep : p = mCP q i
      · rw [ep, pk_us] at e2
        rw [ep, e2] at e
        exact nI_nm1 hy e
      · rw [pk_un ep] at e2
        exact hn p hp (e2.symm.trans e)
    · exact (Fr_tick q i).trans ((Fr_ccGo (q := M_tick q) _ (by show 1 ≤ m_caps q i; omega) (by show m_caps q i ≤ 64; omega) (by show mCP q i < 64; omega)).trans (Fr_new hy))
  · rw [hso] at hFr
    have hme : (-1 : Int32) ∈ s_0 s := hmem.mpr ⟨k, hk1, hk2⟩
    have hix : (s_0 s).idxOf (-1) = k := by
      rw [← hk]
      refine v_idxOf (by rw [kl_get, if_pos hk1, hk2]) (fun j hj => ?_)
      rw [kl_get, if_pos (by omega)]
      exact fun z => hk3 j hj (Option.some.inj z)
    have ea : aAdm s y = (-1, mkA 3 (s_cp s) (s_vals s) (s_hi s) (s_mi s) (s_we s) ((s_0 s).set k (nI y)) (s_1 s) (s_2 s) (s_3 s) (s_p s) (s_q s + 1) (s_f s)) := by
      unfold aAdm
      rw [hw]
      show (if (-1 : Int32) ∈ s_0 s then _ else _) = _
      rw [if_pos hme, hix]
    have eM : M_comeClock (M_tick q) i (nI y) = M_ccFree (M_tick q) i k (nI y) := by unfold M_comeClock; rw [hFr]
    have eC : mCCw (M_tick q) i = -1 := by unfold mCCw; rw [hFr]
    obtain ⟨c1, c2, c3, c4, c5⟩ := clk_set (q2 := M_new (M_ccFree (M_tick q) i k (nI y)) i y) (x := nI y) h0 hw hk1 (Or.inr ⟨y, hy, rfl⟩) (fun _ => hm) rfl
    rw [hk2, if_pos (by decide), if_neg (nI_nneg hy)] at c3
    have hle := cntK_le (mRow (M_new (M_ccFree (M_tick q) i k (nI y)) i y) i 0) (s_cp s)
    rw [eW, eN, eC, eM, ea]
    refine ⟨rfl, ⟨RC_of hC rfl rfl rfl rfl rfl ?_ hw.symm rfl rfl rfl rfl, (AI3 (by rfl)).mpr ⟨a1, a2, ?_, a4, ?_, ?_⟩, Or.inr (Or.inr (Or.inl ⟨rfl, c2, hz, ?_, hh, ?_, c4, c5, ?_⟩))⟩, ?_⟩
    · show m_gone q i = if (-1 : Int32) = -1 then s_we s else s_we s + nI 1
      rw [if_pos rfl, hC.2.2.2.2.2]
    · show ((s_0 s).set k (nI y)).length = s_cp s
      rw [List.length_set]; exact a3
    · show s_q s + 1 ≤ s_cp s
      omega
    · intro x hx hne
      show 1 ≤ s_q s + 1
      omega
    · intro p hp
      show upd (m_marks q) (64 * i + k) (nI 0) (64 * i + p) = s_f s p
      by_cases e : p = k
      · rw [e, pk_us, hfm k hk1 hk2]; rfl
      · rw [pk_un (by omega)]; exact hmk p hp
    · show s_q s + 1 = cntK (mRow (M_new (M_ccFree (M_tick q) i k (nI y)) i y) i 0) (s_cp s)
      omega
    · intro p hp e
      have e2 := c1 p hp
      show s_f s p = 0
      by_cases ep : p = k
      · rw [ep, pk_us] at e2
        rw [ep, e2] at e
        exact absurd e (nI_nm1 hy)
      · rw [pk_un ep] at e2
        exact hfm p hp (e2.symm.trans e)
    · exact (Fr_tick q i).trans ((Fr_ccFree (q := M_tick q) _ (by omega)).trans (Fr_new hy))

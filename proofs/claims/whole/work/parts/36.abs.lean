/-! a shelf of any way as one value; what a caller may know of its methods -/
abbrev AS : Type := (((Nat × Nat) × (Nat → Int32)) × (Int32 × Int32 × Int32)) × (((List Int32 × List Int32) × (List Int32 × List Int32)) × ((Nat × Nat) × (Nat → Int32)))
abbrev mkA (way cp : Nat) (vals : Nat → Int32) (hi mi we : Int32) (L0 L1 L2 L3 : List Int32) (p q : Nat) (f : Nat → Int32) : AS := ((((way, cp), vals), (hi, mi, we)), (((L0, L1), (L2, L3)), ((p, q), f)))
def s_way (s : AS) : Nat := s.1.1.1.1
def s_cp (s : AS) : Nat := s.1.1.1.2
def s_vals (s : AS) : Nat → Int32 := s.1.1.2
def s_hi (s : AS) : Int32 := s.1.2.1
def s_mi (s : AS) : Int32 := s.1.2.2.1
def s_we (s : AS) : Int32 := s.1.2.2.2
def s_0 (s : AS) : List Int32 := s.2.1.1.1
def s_1 (s : AS) : List Int32 := s.2.1.1.2
def s_2 (s : AS) : List Int32 := s.2.1.2.1
def s_3 (s : AS) : List Int32 := s.2.1.2.2
def s_p (s : AS) : Nat := s.2.2.1.1
def s_q (s : AS) : Nat := s.2.2.1.2
def s_f (s : AS) : Nat → Int32 := s.2.2.2
def aHeld (s : AS) : List Int32 := match s_way s with
  | 4 => s_0 s ++ s_1 s
  | 5 => s_0 s ++ s_1 s
  | _ => s_0 s
def aGhost (s : AS) : List Int32 := match s_way s with
  | 4 => s_2 s
  | 5 => s_2 s ++ s_3 s
  | _ => []
def aStand (s : AS) (x : Int32) : Nat := lStand (aHeld s) (aGhost s) x
/-- a held key is used -/
def aUse (s : AS) (y : Nat) : AS := match s_way s with
  | 0 => s
  | 1 => mkA 1 (s_cp s) (s_vals s) (s_hi s) (s_mi s) (s_we s) ((s_0 s).erase (nI y) ++ [nI y]) (s_1 s) (s_2 s) (s_3 s) (s_p s) (s_q s) (s_f s)
  | 2 => mkA 2 (s_cp s) (s_vals s) (s_hi s) (s_mi s) (s_we s) (oIns (upd (s_f s) y (s_f s y + nI 1)) ((s_0 s).erase (nI y)) y) (s_1 s) (s_2 s) (s_3 s) (s_p s) (s_q s) (upd (s_f s) y (s_f s y + nI 1))
  | 3 => mkA 3 (s_cp s) (s_vals s) (s_hi s) (s_mi s) (s_we s) (s_0 s) (s_1 s) (s_2 s) (s_3 s) (s_p s) (s_q s) (upd (s_f s) ((s_0 s).idxOf (nI y)) (nI 1))
  | 4 => mkA 4 (s_cp s) (s_vals s) (s_hi s) (s_mi s) (s_we s) (s_0 s) (qUse (s_1 s) (nI y)) (s_2 s) (s_3 s) (s_p s) (s_q s) (s_f s)
  | _ => mkA (s_way s) (s_cp s) (s_vals s) (s_hi s) (s_mi s) (s_we s) ((s_0 s).erase (nI y)) ((s_1 s).erase (nI y) ++ [nI y]) (s_2 s) (s_3 s) (s_p s) (s_q s) (s_f s)
/-- a key that isn't held comes: who goes, and the shelf behind it -/
def aAdm (s : AS) (y : Nat) : Int32 × AS := match s_way s with
  | 0 => (fGo (s_cp s) (s_0 s), mkA 0 (s_cp s) (s_vals s) (s_hi s) (s_mi s) (s_we s) (fRest (s_cp s) (s_0 s) ++ [nI y]) (s_1 s) (s_2 s) (s_3 s) (s_p s) (s_q s) (s_f s))
  | 1 => (fGo (s_cp s) (s_0 s), mkA 1 (s_cp s) (s_vals s) (s_hi s) (s_mi s) (s_we s) (fRest (s_cp s) (s_0 s) ++ [nI y]) (s_1 s) (s_2 s) (s_3 s) (s_p s) (s_q s) (s_f s))
  | 2 => (fGo (s_cp s) (s_0 s), mkA 2 (s_cp s) (s_vals s) (s_hi s) (s_mi s) (s_we s) (oIns (upd (s_f s) y (nI 1)) (fRest (s_cp s) (s_0 s)) y) (s_1 s) (s_2 s) (s_3 s) (s_p s) (s_q s) (upd (s_f s) y (nI 1)))
  | 3 => if (-1 : Int32) ∈ s_0 s then (-1, mkA 3 (s_cp s) (s_vals s) (s_hi s) (s_mi s) (s_we s) ((s_0 s).set ((s_0 s).idxOf (-1)) (nI y)) (s_1 s) (s_2 s) (s_3 s) (s_p s) (s_q s + 1) (s_f s))
    else ((s_0 s).getD (cSw (s_cp s) (s_cp s) (s_f s) (s_p s)).2 0, mkA 3 (s_cp s) (s_vals s) (s_hi s) (s_mi s) (s_we s) ((s_0 s).set (cSw (s_cp s) (s_cp s) (s_f s) (s_p s)).2 (nI y)) (s_1 s) (s_2 s) (s_3 s) (cNx (s_cp s) (cSw (s_cp s) (s_cp s) (s_f s) (s_p s)).2) (s_q s) (cSw (s_cp s) (s_cp s) (s_f s) (s_p s)).1)
  | 4 => ((qAdm (s_cp s) (s_p s) (s_q s) (s_0 s) (s_1 s) (s_2 s) (nI y)).1, mkA 4 (s_cp s) (s_vals s) (s_hi s) (s_mi s) (s_we s) (qAdm (s_cp s) (s_p s) (s_q s) (s_0 s) (s_1 s) (s_2 s) (nI y)).2.1 (qAdm (s_cp s) (s_p s) (s_q s) (s_0 s) (s_1 s) (s_2 s) (nI y)).2.2.1 (qAdm (s_cp s) (s_p s) (s_q s) (s_0 s) (s_1 s) (s_2 s) (nI y)).2.2.2 (s_3 s) (s_p s) (s_q s) (s_f s))
  | _ => ((lAdm (s_cp s) (s_p s) (nI y) (s_0 s) (s_1 s) (s_2 s) (s_3 s)).1, mkA (s_way s) (s_cp s) (s_vals s) (s_hi s) (s_mi s) (s_we s) (lAdm (s_cp s) (s_p s) (nI y) (s_0 s) (s_1 s) (s_2 s) (s_3 s)).2.1 (lAdm (s_cp s) (s_p s) (nI y) (s_0 s) (s_1 s) (s_2 s) (s_3 s)).2.2.1 (lAdm (s_cp s) (s_p s) (nI y) (s_0 s) (s_1 s) (s_2 s) (s_3 s)).2.2.2.1 (lAdm (s_cp s) (s_p s) (nI y) (s_0 s) (s_1 s) (s_2 s) (s_3 s)).2.2.2.2 (lTg (s_cp s) (s_p s) (nI y) (s_2 s) (s_3 s)) (s_q s) (s_f s))
/-- counters and values -/
def aHit (s : AS) : AS := mkA (s_way s) (s_cp s) (s_vals s) (s_hi s + nI 1) (s_mi s) (s_we s) (s_0 s) (s_1 s) (s_2 s) (s_3 s) (s_p s) (s_q s) (s_f s)
def aMiss (s : AS) : AS := mkA (s_way s) (s_cp s) (s_vals s) (s_hi s) (s_mi s + nI 1) (s_we s) (s_0 s) (s_1 s) (s_2 s) (s_3 s) (s_p s) (s_q s) (s_f s)
def aWent (s : AS) (g : Int32) : AS := mkA (s_way s) (s_cp s) (s_vals s) (s_hi s) (s_mi s) (if g = -1 then s_we s else s_we s + nI 1) (s_0 s) (s_1 s) (s_2 s) (s_3 s) (s_p s) (s_q s) (s_f s)
def aVal (s : AS) (y : Nat) (v : Int32) : AS := mkA (s_way s) (s_cp s) (upd (s_vals s) y v) (s_hi s) (s_mi s) (s_we s) (s_0 s) (s_1 s) (s_2 s) (s_3 s) (s_p s) (s_q s) (s_f s)
def aFetch (s : AS) (y : Nat) : AS := if nI y ∈ aHeld s then aUse (aHit s) y else aMiss s
def aStore (s : AS) (y : Nat) (v : Int32) : Int32 × AS := if nI y ∈ aHeld s then (-1, aUse (aVal s y v) y) else ((aAdm (aVal s y v) y).1, aWent (aAdm (aVal s y v) y).2 (aAdm (aVal s y v) y).1)
def aDrop (s : AS) (y : Nat) : AS := match s_way s with
  | 3 => mkA 3 (s_cp s) (s_vals s) (s_hi s) (s_mi s) (s_we s) ((s_0 s).set ((s_0 s).idxOf (nI y)) (-1)) (s_1 s) (s_2 s) (s_3 s) (s_p s) (s_q s - 1) (upd (s_f s) ((s_0 s).idxOf (nI y)) (nI 0))
  | 4 => mkA 4 (s_cp s) (s_vals s) (s_hi s) (s_mi s) (s_we s) ((s_0 s).erase (nI y)) ((s_1 s).erase (nI y)) ((s_2 s).erase (nI y)) (s_3 s) (s_p s) (s_q s) (s_f s)
  | 5 => mkA 5 (s_cp s) (s_vals s) (s_hi s) (s_mi s) (s_we s) ((s_0 s).erase (nI y)) ((s_1 s).erase (nI y)) ((s_2 s).erase (nI y)) ((s_3 s).erase (nI y)) (s_p s) (s_q s) (s_f s)
  | _ => mkA (s_way s) (s_cp s) (s_vals s) (s_hi s) (s_mi s) (s_we s) ((s_0 s).erase (nI y)) (s_1 s) (s_2 s) (s_3 s) (s_p s) (s_q s) (s_f s)
def aNext (s : AS) : Int32 := match s_way s with
  | 3 => if s_cp s ≤ s_q s then (s_0 s).getD (cFd (s_cp s) (s_f s) (s_cp s) (s_p s)) 0 else -1
  | 4 => qNext (s_cp s) (s_p s) (s_0 s) (s_1 s)
  | 5 => lNext (s_cp s) (s_p s) (s_0 s) (s_1 s)
  | _ => fGo (s_cp s) (s_0 s)
def aCnt (s : AS) : Nat := match s_way s with
  | 4 => 3
  | 5 => 4
  | _ => 1
def aLst (s : AS) : Nat → List Int32
  | 0 => s_0 s
  | 1 => s_1 s
  | 2 => s_2 s
  | _ => s_3 s
def aTold (s : AS) (k : Nat) : Int32 := match s_way s with
  | 3 => lTold 3 (s_cp s) (s_q s) 0 (s_hi s) (s_mi s) (s_we s) (s_p s) k
  | 4 => lTold 4 (s_cp s) ((s_0 s).length + (s_1 s).length) (s_2 s).length (s_hi s) (s_mi s) (s_we s) 0 k
  | 5 => lTold 5 (s_cp s) ((s_0 s).length + (s_1 s).length) ((s_2 s).length + (s_3 s).length) (s_hi s) (s_mi s) (s_we s) (s_p s) k
  | w => lTold w (s_cp s) (s_0 s).length 0 (s_hi s) (s_mi s) (s_we s) 0 k
/-- what the methods ask of a shelf -/
def AI (s : AS) : Prop := 1 ≤ s_cp s ∧ s_cp s ≤ 64 ∧ match s_way s with
  | 2 => (s_0 s).length ≤ s_cp s ∧ okL (s_0 s)
  | 3 => (s_0 s).length = s_cp s ∧ s_p s < s_cp s ∧ s_q s ≤ s_cp s ∧ ∀ x ∈ s_0 s, x ≠ -1 → 1 ≤ s_q s
  | 4 => (s_0 s).length + (s_1 s).length ≤ s_cp s ∧ (s_2 s).length ≤ s_q s ∧ s_q s ≤ 64 ∧ 1 ≤ s_q s ∧ s_p s ≤ 64
  | 5 => (s_0 s).length + (s_1 s).length ≤ s_cp s ∧ (s_0 s).length + (s_2 s).length ≤ s_cp s ∧ (s_2 s).length + (s_3 s).length ≤ s_cp s ∧ s_p s ≤ 64
  | _ => (s_0 s).length ≤ s_cp s
theorem kl_upd {P : Nat → Int32} {cp i : Nat} {x : Int32} : kl (upd P i x) cp = (kl P cp).set i x := by
  refine kl_ext (fun j hj => ?_) (by rw [List.length_set, kl_len])
  rw [List.getElem?_set, kl_len, kl_get, if_pos hj]
  unfold upd
  by_cases h : j = i
  · subst h; simp [hj]
  · rw [if_neg (fun e => h e.symm), if_neg h]
theorem kl_gd {P : Nat → Int32} {cp i : Nat} (h : i < cp) : P i = (kl P cp).getD i 0 := (kl_getD h).symm
/-- the world of a shelf -/
def Rep (ci cz ck : ClassId) (s : AS) (a : Nat → Nat) (w : va_W) : Prop :=
  (s_way s = 0 ∧ ∃ (K0 : Nat → Int32) (n0 : Nat), w = wX1 ci ck a (s_cp s) (s_vals s) (s_hi s) (s_mi s) (s_we s) K0 n0 ∧ kl K0 n0 = s_0 s) ∨
  (s_way s = 1 ∧ ∃ (K0 : Nat → Int32) (n0 : Nat), w = wX3 ci ck a (s_cp s) (s_vals s) (s_hi s) (s_mi s) (s_we s) K0 n0 ∧ kl K0 n0 = s_0 s) ∨
  (s_way s = 2 ∧ ∃ (K0 : Nat → Int32) (n0 : Nat), w = wX6 ci ck a (s_cp s) (s_vals s) (s_hi s) (s_mi s) (s_we s) K0 n0 (s_f s) ∧ kl K0 n0 = s_0 s) ∨
  (s_way s = 3 ∧ ∃ P : Nat → Int32, w = wX0 ci cz a (s_cp s) (s_vals s) (s_hi s) (s_mi s) (s_we s) P (s_f s) (s_p s) (s_q s) ∧ kl P (s_cp s) = s_0 s) ∨
  (s_way s = 4 ∧ ∃ (K0 : Nat → Int32) (n0 : Nat) (K1 : Nat → Int32) (n1 : Nat) (K2 : Nat → Int32) (n2 : Nat), w = wX7 ci ck a (s_cp s) (s_vals s) (s_hi s) (s_mi s) (s_we s) K0 n0 K1 n1 K2 n2 (s_p s) (s_q s) ∧ kl K0 n0 = s_0 s ∧ kl K1 n1 = s_1 s ∧ kl K2 n2 = s_2 s) ∨
  (s_way s = 5 ∧ ∃ (K0 : Nat → Int32) (n0 : Nat) (K1 : Nat → Int32) (n1 : Nat) (K2 : Nat → Int32) (n2 : Nat) (K3 : Nat → Int32) (n3 : Nat), w = wX5 ci ck a (s_cp s) (s_vals s) (s_hi s) (s_mi s) (s_we s) K0 n0 K1 n1 K2 n2 K3 n3 (s_p s) ∧ kl K0 n0 = s_0 s ∧ kl K1 n1 = s_1 s ∧ kl K2 n2 = s_2 s ∧ kl K3 n3 = s_3 s)
set_option maxHeartbeats 1000000 in
theorem sh_fetch (lc : Launch) (D : va_G) (ci cz ck csh cj : ClassId) (s : AS) (a : Nat → Nat) (w : va_W) (y : Nat) (hy : y < 512) (hR : Rep ci cz ck s a w) (hI : AI s) : Ctr lc D (v_ty ci cz ck csh cj) yX8_fetch (Cond.code yX8_fetch cX8_fetch 2 (some .boolean) :: vG) { frames := 4, cells := 0, slots := 0, locals := 91 } [.ref (a 0), .int (nI y)] w 0 0 (fun v w2 => v = some (.int (bb (nI y ∈ aHeld s))) ∧ Rep ci cz ck (aFetch s y) a w2) := by
  obtain ⟨⟨⟨⟨way, cp⟩, vals⟩, hi, mi, we⟩, ⟨⟨L0, L1⟩, L2, L3⟩, ⟨p1, p2⟩, f⟩ := s
  rcases hR with ⟨hw, K0, n0, rfl, hk0⟩ | ⟨hw, K0, n0, rfl, hk0⟩ | ⟨hw, K0, n0, rfl, hk0⟩ | ⟨hw, P, rfl, hk⟩ | ⟨hw, K0, n0, K1, n1, K2, n2, rfl, hk0, hk1, hk2⟩ | ⟨hw, K0, n0, K1, n1, K2, n2, K3, n3, rfl, hk0, hk1, hk2, hk3⟩
  · have hw : way = 0 := hw
    subst hw
    obtain ⟨hc1, hc2, hi9⟩ := hI
    have hc1 : 1 ≤ cp := hc1
    have hc2 : cp ≤ 64 := hc2
    have hk0 : kl K0 n0 = L0 := hk0
    subst hk0
    have hi9 : (kl K0 n0).length ≤ cp := hi9
    rw [kl_len] at hi9
    by_cases hm : nI y ∈ (kl K0 n0)
    · refine Ctr_post (sX1_fetch_hit lc D ci cz ck csh cj a cp vals hi mi we K0 n0 y (by omega) (by omega) hy hm ) ?_
      rintro v w2 ⟨rfl, rfl⟩
      have e : aFetch (mkA 0 cp vals hi mi we (kl K0 n0) L1 L2 L3 p1 p2 f) y = aUse (aHit (mkA 0 cp vals hi mi we (kl K0 n0) L1 L2 L3 p1 p2 f)) y := if_pos hm
      rw [e]
      exact ⟨by rw [bb_t (show nI y ∈ aHeld (mkA 0 cp vals hi mi we (kl K0 n0) L1 L2 L3 p1 p2 f) from hm)], (Or.inl ⟨rfl, K0, n0, rfl, rfl⟩)⟩
    · refine Ctr_post (sX1_fetch_miss lc D ci cz ck csh cj a cp vals hi mi we K0 n0 y (by omega) (by omega) hy hm) ?_
      rintro v w2 ⟨rfl, rfl⟩
      have e : aFetch (mkA 0 cp vals hi mi we (kl K0 n0) L1 L2 L3 p1 p2 f) y = aMiss (mkA 0 cp vals hi mi we (kl K0 n0) L1 L2 L3 p1 p2 f) := if_neg hm
      rw [e]
      exact ⟨by rw [bb_f (show ¬ nI y ∈ aHeld (mkA 0 cp vals hi mi we (kl K0 n0) L1 L2 L3 p1 p2 f) from hm)], (Or.inl ⟨rfl, K0, n0, rfl, rfl⟩)⟩
  · have hw : way = 1 := hw
    subst hw
    obtain ⟨hc1, hc2, hi9⟩ := hI
    have hc1 : 1 ≤ cp := hc1
    have hc2 : cp ≤ 64 := hc2
    have hk0 : kl K0 n0 = L0 := hk0
    subst hk0
    have hi9 : (kl K0 n0).length ≤ cp := hi9
    rw [kl_len] at hi9
    by_cases hm : nI y ∈ (kl K0 n0)
    · refine Ctr_post (sX3_fetch_hit lc D ci cz ck csh cj a cp vals hi mi we K0 n0 y (by omega) (by omega) hy hm ) ?_
      rintro v w2 ⟨J0, m0, rfl, rfl, hf0, hf1⟩
      have e : aFetch (mkA 1 cp vals hi mi we (kl K0 n0) L1 L2 L3 p1 p2 f) y = aUse (aHit (mkA 1 cp vals hi mi we (kl K0 n0) L1 L2 L3 p1 p2 f)) y := if_pos hm
      rw [e]
      exact ⟨by rw [bb_t (show nI y ∈ aHeld (mkA 1 cp vals hi mi we (kl K0 n0) L1 L2 L3 p1 p2 f) from hm)], (Or.inr (Or.inl ⟨rfl, J0, m0, rfl, hf1⟩))⟩
    · refine Ctr_post (sX3_fetch_miss lc D ci cz ck csh cj a cp vals hi mi we K0 n0 y (by omega) (by omega) hy hm) ?_
      rintro v w2 ⟨rfl, rfl⟩
      have e : aFetch (mkA 1 cp vals hi mi we (kl K0 n0) L1 L2 L3 p1 p2 f) y = aMiss (mkA 1 cp vals hi mi we (kl K0 n0) L1 L2 L3 p1 p2 f) := if_neg hm
      rw [e]
      exact ⟨by rw [bb_f (show ¬ nI y ∈ aHeld (mkA 1 cp vals hi mi we (kl K0 n0) L1 L2 L3 p1 p2 f) from hm)], (Or.inr (Or.inl ⟨rfl, K0, n0, rfl, rfl⟩))⟩
  · have hw : way = 2 := hw
    subst hw
    obtain ⟨hc1, hc2, hi9⟩ := hI
    have hc1 : 1 ≤ cp := hc1
    have hc2 : cp ≤ 64 := hc2
    have hk0 : kl K0 n0 = L0 := hk0
    subst hk0
    have hi9 : (kl K0 n0).length ≤ cp ∧ okL (kl K0 n0) := hi9
    rw [kl_len] at hi9
    obtain ⟨hi9, hok⟩ := hi9
    by_cases hm : nI y ∈ (kl K0 n0)
    · refine Ctr_post (sX6_fetch_hit lc D ci cz ck csh cj a cp vals hi mi we K0 n0 f y (by omega) (by omega) hy hm hok) ?_
      rintro v w2 ⟨J0, m0, rfl, rfl, hf0, hf1⟩
      have e : aFetch (mkA 2 cp vals hi mi we (kl K0 n0) L1 L2 L3 p1 p2 f) y = aUse (aHit (mkA 2 cp vals hi mi we (kl K0 n0) L1 L2 L3 p1 p2 f)) y := if_pos hm
      rw [e]
      exact ⟨by rw [bb_t (show nI y ∈ aHeld (mkA 2 cp vals hi mi we (kl K0 n0) L1 L2 L3 p1 p2 f) from hm)], (Or.inr (Or.inr (Or.inl ⟨rfl, J0, m0, rfl, hf1⟩)))⟩
    · refine Ctr_post (sX6_fetch_miss lc D ci cz ck csh cj a cp vals hi mi we K0 n0 f y (by omega) (by omega) hy hm) ?_
      rintro v w2 ⟨rfl, rfl⟩
      have e : aFetch (mkA 2 cp vals hi mi we (kl K0 n0) L1 L2 L3 p1 p2 f) y = aMiss (mkA 2 cp vals hi mi we (kl K0 n0) L1 L2 L3 p1 p2 f) := if_neg hm
      rw [e]
      exact ⟨by rw [bb_f (show ¬ nI y ∈ aHeld (mkA 2 cp vals hi mi we (kl K0 n0) L1 L2 L3 p1 p2 f) from hm)], (Or.inr (Or.inr (Or.inl ⟨rfl, K0, n0, rfl, rfl⟩)))⟩
  · have hw : way = 3 := hw
    subst hw
    obtain ⟨hc1, hc2, hi9⟩ := hI
    have hc1 : 1 ≤ cp := hc1
    have hc2 : cp ≤ 64 := hc2
    have hk : kl P cp = L0 := hk
    subst hk
    have hi9 : (kl P cp).length = cp ∧ p1 < cp ∧ p2 ≤ cp ∧ ∀ x ∈ kl P cp, x ≠ -1 → 1 ≤ p2 := hi9
    obtain ⟨-, hp1, hp2, hp3⟩ := hi9
    by_cases hm : nI y ∈ (kl P cp)
    · refine Ctr_post (sX0_fetch_hit lc D ci cz ck csh cj a cp vals hi mi we P f p1 p2 y (by omega) (by omega) (by omega) hy hm ) ?_
      rintro v w2 ⟨rfl, rfl⟩
      have e : aFetch (mkA 3 cp vals hi mi we (kl P cp) L1 L2 L3 p1 p2 f) y = aUse (aHit (mkA 3 cp vals hi mi we (kl P cp) L1 L2 L3 p1 p2 f)) y := if_pos hm
      rw [e]
      exact ⟨by rw [bb_t (show nI y ∈ aHeld (mkA 3 cp vals hi mi we (kl P cp) L1 L2 L3 p1 p2 f) from hm)], (Or.inr (Or.inr (Or.inr (Or.inl ⟨rfl, P, rfl, rfl⟩))))⟩
    · refine Ctr_post (sX0_fetch_miss lc D ci cz ck csh cj a cp vals hi mi we P f p1 p2 y (by omega) (by omega) (by omega) hy hm) ?_
      rintro v w2 ⟨rfl, rfl⟩
      have e : aFetch (mkA 3 cp vals hi mi we (kl P cp) L1 L2 L3 p1 p2 f) y = aMiss (mkA 3 cp vals hi mi we (kl P cp) L1 L2 L3 p1 p2 f) := if_neg hm
      rw [e]
      exact ⟨by rw [bb_f (show ¬ nI y ∈ aHeld (mkA 3 cp vals hi mi we (kl P cp) L1 L2 L3 p1 p2 f) from hm)], (Or.inr (Or.inr (Or.inr (Or.inl ⟨rfl, P, rfl, rfl⟩))))⟩
  · have hw : way = 4 := hw
    subst hw
    obtain ⟨hc1, hc2, hi9⟩ := hI
    have hc1 : 1 ≤ cp := hc1
    have hc2 : cp ≤ 64 := hc2
    have hk0 : kl K0 n0 = L0 := hk0
    subst hk0
    have hk1 : kl K1 n1 = L1 := hk1
    subst hk1
    have hk2 : kl K2 n2 = L2 := hk2
    subst hk2
    have hi9 : (kl K0 n0).length + (kl K1 n1).length ≤ cp ∧ (kl K2 n2).length ≤ p2 ∧ p2 ≤ 64 ∧ 1 ≤ p2 ∧ p1 ≤ 64 := hi9
    rw [kl_len, kl_len, kl_len] at hi9
    obtain ⟨h01, hg, hg64, hg1, hil⟩ := hi9
    by_cases hm : nI y ∈ (kl K0 n0 ++ kl K1 n1)
    · refine Ctr_post (sX7_fetch_hit lc D ci cz ck csh cj a cp vals hi mi we K0 n0 K1 n1 K2 n2 p1 p2 y (by omega) (by omega) (by omega) (by omega) (by omega) hy hm ) ?_
      rintro v w2 ⟨J1, m1, rfl, rfl, hf0, hf1⟩
      have e : aFetch (mkA 4 cp vals hi mi we (kl K0 n0) (kl K1 n1) (kl K2 n2) L3 p1 p2 f) y = aUse (aHit (mkA 4 cp vals hi mi we (kl K0 n0) (kl K1 n1) (kl K2 n2) L3 p1 p2 f)) y := if_pos hm
      rw [e]
      exact ⟨by rw [bb_t (show nI y ∈ aHeld (mkA 4 cp vals hi mi we (kl K0 n0) (kl K1 n1) (kl K2 n2) L3 p1 p2 f) from hm)], (Or.inr (Or.inr (Or.inr (Or.inr (Or.inl ⟨rfl, K0, n0, J1, m1, K2, n2, rfl, rfl, hf1, rfl⟩)))))⟩
    · refine Ctr_post (sX7_fetch_miss lc D ci cz ck csh cj a cp vals hi mi we K0 n0 K1 n1 K2 n2 p1 p2 y (by omega) (by omega) (by omega) (by omega) (by omega) hy hm) ?_
      rintro v w2 ⟨rfl, rfl⟩
      have e : aFetch (mkA 4 cp vals hi mi we (kl K0 n0) (kl K1 n1) (kl K2 n2) L3 p1 p2 f) y = aMiss (mkA 4 cp vals hi mi we (kl K0 n0) (kl K1 n1) (kl K2 n2) L3 p1 p2 f) := if_neg hm
      rw [e]
      exact ⟨by rw [bb_f (show ¬ nI y ∈ aHeld (mkA 4 cp vals hi mi we (kl K0 n0) (kl K1 n1) (kl K2 n2) L3 p1 p2 f) from hm)], (Or.inr (Or.inr (Or.inr (Or.inr (Or.inl ⟨rfl, K0, n0, K1, n1, K2, n2, rfl, rfl, rfl, rfl⟩)))))⟩
  · have hw : way = 5 := hw
    subst hw
    obtain ⟨hc1, hc2, hi9⟩ := hI
    have hc1 : 1 ≤ cp := hc1
    have hc2 : cp ≤ 64 := hc2
    have hk0 : kl K0 n0 = L0 := hk0
    subst hk0
    have hk1 : kl K1 n1 = L1 := hk1
    subst hk1
    have hk2 : kl K2 n2 = L2 := hk2
    subst hk2
    have hk3 : kl K3 n3 = L3 := hk3
    subst hk3
    have hi9 : (kl K0 n0).length + (kl K1 n1).length ≤ cp ∧ (kl K0 n0).length + (kl K2 n2).length ≤ cp ∧ (kl K2 n2).length + (kl K3 n3).length ≤ cp ∧ p1 ≤ 64 := hi9
    rw [kl_len, kl_len, kl_len, kl_len] at hi9
    obtain ⟨h01, h02, h23, htg⟩ := hi9
    by_cases hm : nI y ∈ (kl K0 n0 ++ kl K1 n1)
    · refine Ctr_post (sX5_fetch_hit lc D ci cz ck csh cj a cp vals hi mi we K0 n0 K1 n1 K2 n2 K3 n3 p1 y (by omega) (by omega) (by omega) (by omega) (by omega) hy hm (by omega)) ?_
      rintro v w2 ⟨J0, m0, J1, m1, rfl, rfl, hf0, hf1, hf2, hf3⟩
      have e : aFetch (mkA 5 cp vals hi mi we (kl K0 n0) (kl K1 n1) (kl K2 n2) (kl K3 n3) p1 p2 f) y = aUse (aHit (mkA 5 cp vals hi mi we (kl K0 n0) (kl K1 n1) (kl K2 n2) (kl K3 n3) p1 p2 f)) y := if_pos hm
      rw [e]
      exact ⟨by rw [bb_t (show nI y ∈ aHeld (mkA 5 cp vals hi mi we (kl K0 n0) (kl K1 n1) (kl K2 n2) (kl K3 n3) p1 p2 f) from hm)], (Or.inr (Or.inr (Or.inr (Or.inr (Or.inr ⟨rfl, J0, m0, J1, m1, K2, n2, K3, n3, rfl, hf2, hf3, rfl, rfl⟩)))))⟩
    · refine Ctr_post (sX5_fetch_miss lc D ci cz ck csh cj a cp vals hi mi we K0 n0 K1 n1 K2 n2 K3 n3 p1 y (by omega) (by omega) (by omega) (by omega) (by omega) hy hm) ?_
      rintro v w2 ⟨rfl, rfl⟩
      have e : aFetch (mkA 5 cp vals hi mi we (kl K0 n0) (kl K1 n1) (kl K2 n2) (kl K3 n3) p1 p2 f) y = aMiss (mkA 5 cp vals hi mi we (kl K0 n0) (kl K1 n1) (kl K2 n2) (kl K3 n3) p1 p2 f) := if_neg hm
      rw [e]
      exact ⟨by rw [bb_f (show ¬ nI y ∈ aHeld (mkA 5 cp vals hi mi we (kl K0 n0) (kl K1 n1) (kl K2 n2) (kl K3 n3) p1 p2 f) from hm)], (Or.inr (Or.inr (Or.inr (Or.inr (Or.inr ⟨rfl, K0, n0, K1, n1, K2, n2, K3, n3, rfl, rfl, rfl, rfl, rfl⟩)))))⟩
set_option maxHeartbeats 1000000 in
theorem sh_store (lc : Launch) (D : va_G) (ci cz ck csh cj : ClassId) (s : AS) (a : Nat → Nat) (w : va_W) (y : Nat) (vl : Int32) (hy : y < 512) (hR : Rep ci cz ck s a w) (hI : AI s) : Ctr lc D (v_ty ci cz ck csh cj) yX8_store (Cond.code yX8_store cX8_store 4 (some .int) :: vG) { frames := 5, cells := 0, slots := 0, locals := 116 } [.ref (a 0), .int (nI y), .int vl] w 0 0 (fun v w2 => v = some (.int (aStore s y vl).1) ∧ Rep ci cz ck (aStore s y vl).2 a w2) := by
  obtain ⟨⟨⟨⟨way, cp⟩, vals⟩, hi, mi, we⟩, ⟨⟨L0, L1⟩, L2, L3⟩, ⟨p1, p2⟩, f⟩ := s
  rcases hR with ⟨hw, K0, n0, rfl, hk0⟩ | ⟨hw, K0, n0, rfl, hk0⟩ | ⟨hw, K0, n0, rfl, hk0⟩ | ⟨hw, P, rfl, hk⟩ | ⟨hw, K0, n0, K1, n1, K2, n2, rfl, hk0, hk1, hk2⟩ | ⟨hw, K0, n0, K1, n1, K2, n2, K3, n3, rfl, hk0, hk1, hk2, hk3⟩
  · have hw : way = 0 := hw
    subst hw
    obtain ⟨hc1, hc2, hi9⟩ := hI
    have hc1 : 1 ≤ cp := hc1
    have hc2 : cp ≤ 64 := hc2
    have hk0 : kl K0 n0 = L0 := hk0
    subst hk0
    have hi9 : (kl K0 n0).length ≤ cp := hi9
    rw [kl_len] at hi9
    by_cases hm : nI y ∈ (kl K0 n0)
    · refine Ctr_post (sX1_store_held lc D ci cz ck csh cj a cp vals hi mi we K0 n0 y vl (by omega) (by omega) hy hm ) ?_
      rintro v w2 ⟨rfl, rfl⟩
      have e : aStore (mkA 0 cp vals hi mi we (kl K0 n0) L1 L2 L3 p1 p2 f) y vl = (-1, aUse (aVal (mkA 0 cp vals hi mi we (kl K0 n0) L1 L2 L3 p1 p2 f) y vl) y) := if_pos hm
      rw [e]
      exact ⟨rfl, (Or.inl ⟨rfl, K0, n0, rfl, rfl⟩)⟩
    · refine Ctr_post (sX1_store_new lc D ci cz ck csh cj a cp vals hi mi we K0 n0 y vl (by omega) (by omega) hy hm (by omega)) ?_
      rintro v w2 ⟨J0, m0, rfl, rfl, hf0, hf1⟩
      have e : aStore (mkA 0 cp vals hi mi we (kl K0 n0) L1 L2 L3 p1 p2 f) y vl = ((aAdm (aVal (mkA 0 cp vals hi mi we (kl K0 n0) L1 L2 L3 p1 p2 f) y vl) y).1, aWent (aAdm (aVal (mkA 0 cp vals hi mi we (kl K0 n0) L1 L2 L3 p1 p2 f) y vl) y).2 (aAdm (aVal (mkA 0 cp vals hi mi we (kl K0 n0) L1 L2 L3 p1 p2 f) y vl) y).1) := if_neg hm
      rw [e]
      exact ⟨rfl, (Or.inl ⟨rfl, J0, m0, rfl, hf1⟩)⟩
  · have hw : way = 1 := hw
    subst hw
    obtain ⟨hc1, hc2, hi9⟩ := hI
    have hc1 : 1 ≤ cp := hc1
    have hc2 : cp ≤ 64 := hc2
    have hk0 : kl K0 n0 = L0 := hk0
    subst hk0
    have hi9 : (kl K0 n0).length ≤ cp := hi9
    rw [kl_len] at hi9
    by_cases hm : nI y ∈ (kl K0 n0)
    · refine Ctr_post (sX3_store_held lc D ci cz ck csh cj a cp vals hi mi we K0 n0 y vl (by omega) (by omega) hy hm ) ?_
      rintro v w2 ⟨J0, m0, rfl, rfl, hf0, hf1⟩
      have e : aStore (mkA 1 cp vals hi mi we (kl K0 n0) L1 L2 L3 p1 p2 f) y vl = (-1, aUse (aVal (mkA 1 cp vals hi mi we (kl K0 n0) L1 L2 L3 p1 p2 f) y vl) y) := if_pos hm
      rw [e]
      exact ⟨rfl, (Or.inr (Or.inl ⟨rfl, J0, m0, rfl, hf1⟩))⟩
    · refine Ctr_post (sX3_store_new lc D ci cz ck csh cj a cp vals hi mi we K0 n0 y vl (by omega) (by omega) hy hm (by omega)) ?_
      rintro v w2 ⟨J0, m0, rfl, rfl, hf0, hf1⟩
      have e : aStore (mkA 1 cp vals hi mi we (kl K0 n0) L1 L2 L3 p1 p2 f) y vl = ((aAdm (aVal (mkA 1 cp vals hi mi we (kl K0 n0) L1 L2 L3 p1 p2 f) y vl) y).1, aWent (aAdm (aVal (mkA 1 cp vals hi mi we (kl K0 n0) L1 L2 L3 p1 p2 f) y vl) y).2 (aAdm (aVal (mkA 1 cp vals hi mi we (kl K0 n0) L1 L2 L3 p1 p2 f) y vl) y).1) := if_neg hm
      rw [e]
      exact ⟨rfl, (Or.inr (Or.inl ⟨rfl, J0, m0, rfl, hf1⟩))⟩
  · have hw : way = 2 := hw
    subst hw
    obtain ⟨hc1, hc2, hi9⟩ := hI
    have hc1 : 1 ≤ cp := hc1
    have hc2 : cp ≤ 64 := hc2
    have hk0 : kl K0 n0 = L0 := hk0
    subst hk0
    have hi9 : (kl K0 n0).length ≤ cp ∧ okL (kl K0 n0) := hi9
    rw [kl_len] at hi9
    obtain ⟨hi9, hok⟩ := hi9
    by_cases hm : nI y ∈ (kl K0 n0)
    · refine Ctr_post (sX6_store_held lc D ci cz ck csh cj a cp vals hi mi we K0 n0 f y vl (by omega) (by omega) hy hm hok) ?_
      rintro v w2 ⟨J0, m0, rfl, rfl, hf0, hf1⟩
      have e : aStore (mkA 2 cp vals hi mi we (kl K0 n0) L1 L2 L3 p1 p2 f) y vl = (-1, aUse (aVal (mkA 2 cp vals hi mi we (kl K0 n0) L1 L2 L3 p1 p2 f) y vl) y) := if_pos hm
      rw [e]
      exact ⟨rfl, (Or.inr (Or.inr (Or.inl ⟨rfl, J0, m0, rfl, hf1⟩)))⟩
    · refine Ctr_post (sX6_store_new lc D ci cz ck csh cj a cp vals hi mi we K0 n0 f y vl (by omega) (by omega) hy hm (by omega) hok) ?_
      rintro v w2 ⟨J0, m0, rfl, rfl, hf0, hf1⟩
      have e : aStore (mkA 2 cp vals hi mi we (kl K0 n0) L1 L2 L3 p1 p2 f) y vl = ((aAdm (aVal (mkA 2 cp vals hi mi we (kl K0 n0) L1 L2 L3 p1 p2 f) y vl) y).1, aWent (aAdm (aVal (mkA 2 cp vals hi mi we (kl K0 n0) L1 L2 L3 p1 p2 f) y vl) y).2 (aAdm (aVal (mkA 2 cp vals hi mi we (kl K0 n0) L1 L2 L3 p1 p2 f) y vl) y).1) := if_neg hm
      rw [e]
      exact ⟨rfl, (Or.inr (Or.inr (Or.inl ⟨rfl, J0, m0, rfl, hf1⟩)))⟩
  · have hw : way = 3 := hw
    subst hw
    obtain ⟨hc1, hc2, hi9⟩ := hI
    have hc1 : 1 ≤ cp := hc1
    have hc2 : cp ≤ 64 := hc2
    have hk : kl P cp = L0 := hk
    subst hk
    have hi9 : (kl P cp).length = cp ∧ p1 < cp ∧ p2 ≤ cp ∧ ∀ x ∈ kl P cp, x ≠ -1 → 1 ≤ p2 := hi9
    obtain ⟨-, hp1, hp2, hp3⟩ := hi9
    by_cases hm : nI y ∈ (kl P cp)
    · refine Ctr_post (sX0_store_held lc D ci cz ck csh cj a cp vals hi mi we P f p1 p2 y vl (by omega) (by omega) (by omega) hy hm ) ?_
      rintro v w2 ⟨rfl, rfl⟩
      have e : aStore (mkA 3 cp vals hi mi we (kl P cp) L1 L2 L3 p1 p2 f) y vl = (-1, aUse (aVal (mkA 3 cp vals hi mi we (kl P cp) L1 L2 L3 p1 p2 f) y vl) y) := if_pos hm
      rw [e]
      exact ⟨rfl, (Or.inr (Or.inr (Or.inr (Or.inl ⟨rfl, P, rfl, rfl⟩))))⟩
    · refine Ctr_post (sX0_store_new lc D ci cz ck csh cj a cp vals hi mi we P f p1 p2 y vl (by omega) (by omega) (by omega) hy hm ) ?_
      rintro v w2 ⟨rfl, rfl⟩
      have e : aStore (mkA 3 cp vals hi mi we (kl P cp) L1 L2 L3 p1 p2 f) y vl = ((aAdm (aVal (mkA 3 cp vals hi mi we (kl P cp) L1 L2 L3 p1 p2 f) y vl) y).1, aWent (aAdm (aVal (mkA 3 cp vals hi mi we (kl P cp) L1 L2 L3 p1 p2 f) y vl) y).2 (aAdm (aVal (mkA 3 cp vals hi mi we (kl P cp) L1 L2 L3 p1 p2 f) y vl) y).1) := if_neg hm
      rw [e]
      have hsw := cSw_lt cp f p1 hp1 (cp := cp)
      by_cases hfr : (-1 : Int32) ∈ kl P cp
      · have e1 : cAdm cp P f p1 p2 (nI y) = (-1, upd P (cIx P cp (-1)) (nI y), f, p1, p2 + 1) := if_pos hfr
        have e2 : aAdm (aVal (mkA 3 cp vals hi mi we (kl P cp) L1 L2 L3 p1 p2 f) y vl) y = (-1, mkA 3 cp (upd vals y vl) hi mi we ((kl P cp).set ((kl P cp).idxOf (-1)) (nI y)) L1 L2 L3 p1 (p2 + 1) f) := if_pos hfr
        rw [e1, e2]
        exact ⟨rfl, (Or.inr (Or.inr (Or.inr (Or.inl ⟨rfl, upd P (cIx P cp (-1)) (nI y), rfl, kl_upd⟩))))⟩
      · have e1 : cAdm cp P f p1 p2 (nI y) = (P (cSw cp cp f p1).2, upd P (cSw cp cp f p1).2 (nI y), (cSw cp cp f p1).1, cNx cp (cSw cp cp f p1).2, p2) := if_neg hfr
        have e2 : aAdm (aVal (mkA 3 cp vals hi mi we (kl P cp) L1 L2 L3 p1 p2 f) y vl) y = ((kl P cp).getD (cSw cp cp f p1).2 0, mkA 3 cp (upd vals y vl) hi mi we ((kl P cp).set (cSw cp cp f p1).2 (nI y)) L1 L2 L3 (cNx cp (cSw cp cp f p1).2) p2 (cSw cp cp f p1).1) := if_neg hfr
        rw [e1, e2, ← kl_gd hsw]
        exact ⟨rfl, (Or.inr (Or.inr (Or.inr (Or.inl ⟨rfl, upd P (cSw cp cp f p1).2 (nI y), rfl, kl_upd⟩))))⟩
  · have hw : way = 4 := hw
    subst hw
    obtain ⟨hc1, hc2, hi9⟩ := hI
    have hc1 : 1 ≤ cp := hc1
    have hc2 : cp ≤ 64 := hc2
    have hk0 : kl K0 n0 = L0 := hk0
    subst hk0
    have hk1 : kl K1 n1 = L1 := hk1
    subst hk1
    have hk2 : kl K2 n2 = L2 := hk2
    subst hk2
    have hi9 : (kl K0 n0).length + (kl K1 n1).length ≤ cp ∧ (kl K2 n2).length ≤ p2 ∧ p2 ≤ 64 ∧ 1 ≤ p2 ∧ p1 ≤ 64 := hi9
    rw [kl_len, kl_len, kl_len] at hi9
    obtain ⟨h01, hg, hg64, hg1, hil⟩ := hi9
    by_cases hm : nI y ∈ (kl K0 n0 ++ kl K1 n1)
    · refine Ctr_post (sX7_store_held lc D ci cz ck csh cj a cp vals hi mi we K0 n0 K1 n1 K2 n2 p1 p2 y vl (by omega) (by omega) (by omega) (by omega) (by omega) hy hm ) ?_
      rintro v w2 ⟨J1, m1, rfl, rfl, hf0, hf1⟩
      have e : aStore (mkA 4 cp vals hi mi we (kl K0 n0) (kl K1 n1) (kl K2 n2) L3 p1 p2 f) y vl = (-1, aUse (aVal (mkA 4 cp vals hi mi we (kl K0 n0) (kl K1 n1) (kl K2 n2) L3 p1 p2 f) y vl) y) := if_pos hm
      rw [e]
      exact ⟨rfl, (Or.inr (Or.inr (Or.inr (Or.inr (Or.inl ⟨rfl, K0, n0, J1, m1, K2, n2, rfl, rfl, hf1, rfl⟩)))))⟩
    · refine Ctr_post (sX7_store_new lc D ci cz ck csh cj a cp vals hi mi we K0 n0 K1 n1 K2 n2 p1 p2 y vl (by omega) (by omega) (by omega) (by omega) (by omega) hy hm (by omega) (by omega) (by omega) (by omega)) ?_
      rintro v w2 ⟨J0, m0, J1, m1, J2, m2, rfl, rfl, hf0, hf1, hf2, hf3, hf4⟩
      have e : aStore (mkA 4 cp vals hi mi we (kl K0 n0) (kl K1 n1) (kl K2 n2) L3 p1 p2 f) y vl = ((aAdm (aVal (mkA 4 cp vals hi mi we (kl K0 n0) (kl K1 n1) (kl K2 n2) L3 p1 p2 f) y vl) y).1, aWent (aAdm (aVal (mkA 4 cp vals hi mi we (kl K0 n0) (kl K1 n1) (kl K2 n2) L3 p1 p2 f) y vl) y).2 (aAdm (aVal (mkA 4 cp vals hi mi we (kl K0 n0) (kl K1 n1) (kl K2 n2) L3 p1 p2 f) y vl) y).1) := if_neg hm
      rw [e]
      exact ⟨rfl, (Or.inr (Or.inr (Or.inr (Or.inr (Or.inl ⟨rfl, J0, m0, J1, m1, J2, m2, rfl, hf2, hf3, hf4⟩)))))⟩
  · have hw : way = 5 := hw
    subst hw
    obtain ⟨hc1, hc2, hi9⟩ := hI
    have hc1 : 1 ≤ cp := hc1
    have hc2 : cp ≤ 64 := hc2
    have hk0 : kl K0 n0 = L0 := hk0
    subst hk0
    have hk1 : kl K1 n1 = L1 := hk1
    subst hk1
    have hk2 : kl K2 n2 = L2 := hk2
    subst hk2
    have hk3 : kl K3 n3 = L3 := hk3
    subst hk3
    have hi9 : (kl K0 n0).length + (kl K1 n1).length ≤ cp ∧ (kl K0 n0).length + (kl K2 n2).length ≤ cp ∧ (kl K2 n2).length + (kl K3 n3).length ≤ cp ∧ p1 ≤ 64 := hi9
    rw [kl_len, kl_len, kl_len, kl_len] at hi9
    obtain ⟨h01, h02, h23, htg⟩ := hi9
    by_cases hm : nI y ∈ (kl K0 n0 ++ kl K1 n1)
    · refine Ctr_post (sX5_store_held lc D ci cz ck csh cj a cp vals hi mi we K0 n0 K1 n1 K2 n2 K3 n3 p1 y vl (by omega) (by omega) (by omega) (by omega) (by omega) hy hm (by omega)) ?_
      rintro v w2 ⟨J0, m0, J1, m1, rfl, rfl, hf0, hf1, hf2, hf3⟩
      have e : aStore (mkA 5 cp vals hi mi we (kl K0 n0) (kl K1 n1) (kl K2 n2) (kl K3 n3) p1 p2 f) y vl = (-1, aUse (aVal (mkA 5 cp vals hi mi we (kl K0 n0) (kl K1 n1) (kl K2 n2) (kl K3 n3) p1 p2 f) y vl) y) := if_pos hm
      rw [e]
      exact ⟨rfl, (Or.inr (Or.inr (Or.inr (Or.inr (Or.inr ⟨rfl, J0, m0, J1, m1, K2, n2, K3, n3, rfl, hf2, hf3, rfl, rfl⟩)))))⟩
    · refine Ctr_post (sX5_store_new lc D ci cz ck csh cj a cp vals hi mi we K0 n0 K1 n1 K2 n2 K3 n3 p1 y vl (by omega) (by omega) (by omega) (by omega) (by omega) hy hm (by omega) (by omega) (by omega) (by omega) (by omega)) ?_
      rintro v w2 ⟨J0, m0, J1, m1, J2, m2, J3, m3, rfl, rfl, hf0, hf1, hf2, hf3, hf4, hf5, hf6, hf7⟩
      have e : aStore (mkA 5 cp vals hi mi we (kl K0 n0) (kl K1 n1) (kl K2 n2) (kl K3 n3) p1 p2 f) y vl = ((aAdm (aVal (mkA 5 cp vals hi mi we (kl K0 n0) (kl K1 n1) (kl K2 n2) (kl K3 n3) p1 p2 f) y vl) y).1, aWent (aAdm (aVal (mkA 5 cp vals hi mi we (kl K0 n0) (kl K1 n1) (kl K2 n2) (kl K3 n3) p1 p2 f) y vl) y).2 (aAdm (aVal (mkA 5 cp vals hi mi we (kl K0 n0) (kl K1 n1) (kl K2 n2) (kl K3 n3) p1 p2 f) y vl) y).1) := if_neg hm
      rw [e]
      exact ⟨rfl, (Or.inr (Or.inr (Or.inr (Or.inr (Or.inr ⟨rfl, J0, m0, J1, m1, J2, m2, J3, m3, rfl, hf4, hf5, hf6, hf7⟩)))))⟩
set_option maxHeartbeats 1000000 in
theorem sh_valueOf (lc : Launch) (D : va_G) (ci cz ck csh cj : ClassId) (s : AS) (a : Nat → Nat) (w : va_W) (y : Nat) (hy : y < 512) (hR : Rep ci cz ck s a w) (hI : AI s) : Ctr lc D (v_ty ci cz ck csh cj) yX8_valueOf (Cond.code yX8_valueOf cX8_valueOf 2 (some .int) :: vG) { frames := 0, cells := 0, slots := 0, locals := 0 } [.ref (a 0), .int (nI y)] w 0 0 (fun v w2 => v = some (.int (s_vals s y)) ∧ Rep ci cz ck s a w2) := by
  obtain ⟨⟨⟨⟨way, cp⟩, vals⟩, hi, mi, we⟩, ⟨⟨L0, L1⟩, L2, L3⟩, ⟨p1, p2⟩, f⟩ := s
  rcases hR with ⟨hw, K0, n0, rfl, hk0⟩ | ⟨hw, K0, n0, rfl, hk0⟩ | ⟨hw, K0, n0, rfl, hk0⟩ | ⟨hw, P, rfl, hk⟩ | ⟨hw, K0, n0, K1, n1, K2, n2, rfl, hk0, hk1, hk2⟩ | ⟨hw, K0, n0, K1, n1, K2, n2, K3, n3, rfl, hk0, hk1, hk2, hk3⟩
  · have hw : way = 0 := hw
    subst hw
    obtain ⟨hc1, hc2, hi9⟩ := hI
    have hc1 : 1 ≤ cp := hc1
    have hc2 : cp ≤ 64 := hc2
    have hk0 : kl K0 n0 = L0 := hk0
    subst hk0
    have hi9 : (kl K0 n0).length ≤ cp := hi9
    rw [kl_len] at hi9
    refine Ctr_post (sX1_valueOf lc D ci cz ck csh cj a cp vals hi mi we K0 n0 y hy) ?_
    rintro v w2 ⟨rfl, rfl⟩
    exact ⟨rfl, (Or.inl ⟨rfl, K0, n0, rfl, rfl⟩)⟩
  · have hw : way = 1 := hw
    subst hw
    obtain ⟨hc1, hc2, hi9⟩ := hI
    have hc1 : 1 ≤ cp := hc1
    have hc2 : cp ≤ 64 := hc2
    have hk0 : kl K0 n0 = L0 := hk0
    subst hk0
    have hi9 : (kl K0 n0).length ≤ cp := hi9
    rw [kl_len] at hi9
    refine Ctr_post (sX3_valueOf lc D ci cz ck csh cj a cp vals hi mi we K0 n0 y hy) ?_
    rintro v w2 ⟨rfl, rfl⟩
    exact ⟨rfl, (Or.inr (Or.inl ⟨rfl, K0, n0, rfl, rfl⟩))⟩
  · have hw : way = 2 := hw
    subst hw
    obtain ⟨hc1, hc2, hi9⟩ := hI
    have hc1 : 1 ≤ cp := hc1
    have hc2 : cp ≤ 64 := hc2
    have hk0 : kl K0 n0 = L0 := hk0
    subst hk0
    have hi9 : (kl K0 n0).length ≤ cp ∧ okL (kl K0 n0) := hi9
    rw [kl_len] at hi9
    obtain ⟨hi9, hok⟩ := hi9
    refine Ctr_post (sX6_valueOf lc D ci cz ck csh cj a cp vals hi mi we K0 n0 f y hy) ?_
    rintro v w2 ⟨rfl, rfl⟩
    exact ⟨rfl, (Or.inr (Or.inr (Or.inl ⟨rfl, K0, n0, rfl, rfl⟩)))⟩
  · have hw : way = 3 := hw
    subst hw
    obtain ⟨hc1, hc2, hi9⟩ := hI
    have hc1 : 1 ≤ cp := hc1
    have hc2 : cp ≤ 64 := hc2
    have hk : kl P cp = L0 := hk
    subst hk
    have hi9 : (kl P cp).length = cp ∧ p1 < cp ∧ p2 ≤ cp ∧ ∀ x ∈ kl P cp, x ≠ -1 → 1 ≤ p2 := hi9
    obtain ⟨-, hp1, hp2, hp3⟩ := hi9
    refine Ctr_post (sX0_valueOf lc D ci cz ck csh cj a cp vals hi mi we P f p1 p2 y hy) ?_
    rintro v w2 ⟨rfl, rfl⟩
    exact ⟨rfl, (Or.inr (Or.inr (Or.inr (Or.inl ⟨rfl, P, rfl, rfl⟩))))⟩
  · have hw : way = 4 := hw
    subst hw
    obtain ⟨hc1, hc2, hi9⟩ := hI
    have hc1 : 1 ≤ cp := hc1
    have hc2 : cp ≤ 64 := hc2
    have hk0 : kl K0 n0 = L0 := hk0
    subst hk0
    have hk1 : kl K1 n1 = L1 := hk1
    subst hk1
    have hk2 : kl K2 n2 = L2 := hk2
    subst hk2
    have hi9 : (kl K0 n0).length + (kl K1 n1).length ≤ cp ∧ (kl K2 n2).length ≤ p2 ∧ p2 ≤ 64 ∧ 1 ≤ p2 ∧ p1 ≤ 64 := hi9
    rw [kl_len, kl_len, kl_len] at hi9
    obtain ⟨h01, hg, hg64, hg1, hil⟩ := hi9
    refine Ctr_post (sX7_valueOf lc D ci cz ck csh cj a cp vals hi mi we K0 n0 K1 n1 K2 n2 p1 p2 y hy) ?_
    rintro v w2 ⟨rfl, rfl⟩
    exact ⟨rfl, (Or.inr (Or.inr (Or.inr (Or.inr (Or.inl ⟨rfl, K0, n0, K1, n1, K2, n2, rfl, rfl, rfl, rfl⟩)))))⟩
  · have hw : way = 5 := hw
    subst hw
    obtain ⟨hc1, hc2, hi9⟩ := hI
    have hc1 : 1 ≤ cp := hc1
    have hc2 : cp ≤ 64 := hc2
    have hk0 : kl K0 n0 = L0 := hk0
    subst hk0
    have hk1 : kl K1 n1 = L1 := hk1
    subst hk1
    have hk2 : kl K2 n2 = L2 := hk2
    subst hk2
    have hk3 : kl K3 n3 = L3 := hk3
    subst hk3
    have hi9 : (kl K0 n0).length + (kl K1 n1).length ≤ cp ∧ (kl K0 n0).length + (kl K2 n2).length ≤ cp ∧ (kl K2 n2).length + (kl K3 n3).length ≤ cp ∧ p1 ≤ 64 := hi9
    rw [kl_len, kl_len, kl_len, kl_len] at hi9
    obtain ⟨h01, h02, h23, htg⟩ := hi9
    refine Ctr_post (sX5_valueOf lc D ci cz ck csh cj a cp vals hi mi we K0 n0 K1 n1 K2 n2 K3 n3 p1 y hy) ?_
    rintro v w2 ⟨rfl, rfl⟩
    exact ⟨rfl, (Or.inr (Or.inr (Or.inr (Or.inr (Or.inr ⟨rfl, K0, n0, K1, n1, K2, n2, K3, n3, rfl, rfl, rfl, rfl, rfl⟩)))))⟩
set_option maxHeartbeats 1000000 in
theorem sh_tell (lc : Launch) (D : va_G) (ci cz ck csh cj : ClassId) (s : AS) (a : Nat → Nat) (w : va_W) (k : Nat) (hk9 : k ≤ 7) (hR : Rep ci cz ck s a w) (hI : AI s) : Ctr lc D (v_ty ci cz ck csh cj) yX8_tell (Cond.code yX8_tell cX8_tell 2 (some .int) :: vG) { frames := 2, cells := 0, slots := 0, locals := 42 } [.ref (a 0), .int (nI k)] w 0 0 (fun v w2 => v = some (.int (aTold s k)) ∧ Rep ci cz ck s a w2) := by
  obtain ⟨⟨⟨⟨way, cp⟩, vals⟩, hi, mi, we⟩, ⟨⟨L0, L1⟩, L2, L3⟩, ⟨p1, p2⟩, f⟩ := s
  rcases hR with ⟨hw, K0, n0, rfl, hk0⟩ | ⟨hw, K0, n0, rfl, hk0⟩ | ⟨hw, K0, n0, rfl, hk0⟩ | ⟨hw, P, rfl, hk⟩ | ⟨hw, K0, n0, K1, n1, K2, n2, rfl, hk0, hk1, hk2⟩ | ⟨hw, K0, n0, K1, n1, K2, n2, K3, n3, rfl, hk0, hk1, hk2, hk3⟩
  · have hw : way = 0 := hw
    subst hw
    obtain ⟨hc1, hc2, hi9⟩ := hI
    have hc1 : 1 ≤ cp := hc1
    have hc2 : cp ≤ 64 := hc2
    have hk0 : kl K0 n0 = L0 := hk0
    subst hk0
    have hi9 : (kl K0 n0).length ≤ cp := hi9
    rw [kl_len] at hi9
    refine Ctr_post (sX1_tell lc D ci cz ck csh cj a cp vals hi mi we K0 n0 k hk9) ?_
    rintro v w2 ⟨rfl, rfl⟩
    have e : aTold (mkA 0 cp vals hi mi we (kl K0 n0) L1 L2 L3 p1 p2 f) k = lTold 0 cp n0 0 hi mi we 0 k := by show lTold 0 cp (kl K0 n0).length 0 hi mi we 0 k = _; rw [kl_len]
    rw [e]
    exact ⟨rfl, (Or.inl ⟨rfl, K0, n0, rfl, rfl⟩)⟩
  · have hw : way = 1 := hw
    subst hw
    obtain ⟨hc1, hc2, hi9⟩ := hI
    have hc1 : 1 ≤ cp := hc1
    have hc2 : cp ≤ 64 := hc2
    have hk0 : kl K0 n0 = L0 := hk0
    subst hk0
    have hi9 : (kl K0 n0).length ≤ cp := hi9
    rw [kl_len] at hi9
    refine Ctr_post (sX3_tell lc D ci cz ck csh cj a cp vals hi mi we K0 n0 k hk9) ?_
    rintro v w2 ⟨rfl, rfl⟩
    have e : aTold (mkA 1 cp vals hi mi we (kl K0 n0) L1 L2 L3 p1 p2 f) k = lTold 1 cp n0 0 hi mi we 0 k := by show lTold 1 cp (kl K0 n0).length 0 hi mi we 0 k = _; rw [kl_len]
    rw [e]
    exact ⟨rfl, (Or.inr (Or.inl ⟨rfl, K0, n0, rfl, rfl⟩))⟩
  · have hw : way = 2 := hw
    subst hw
    obtain ⟨hc1, hc2, hi9⟩ := hI
    have hc1 : 1 ≤ cp := hc1
    have hc2 : cp ≤ 64 := hc2
    have hk0 : kl K0 n0 = L0 := hk0
    subst hk0
    have hi9 : (kl K0 n0).length ≤ cp ∧ okL (kl K0 n0) := hi9
    rw [kl_len] at hi9
    obtain ⟨hi9, hok⟩ := hi9
    refine Ctr_post (sX6_tell lc D ci cz ck csh cj a cp vals hi mi we K0 n0 f k hk9) ?_
    rintro v w2 ⟨rfl, rfl⟩
    have e : aTold (mkA 2 cp vals hi mi we (kl K0 n0) L1 L2 L3 p1 p2 f) k = lTold 2 cp n0 0 hi mi we 0 k := by show lTold 2 cp (kl K0 n0).length 0 hi mi we 0 k = _; rw [kl_len]
    rw [e]
    exact ⟨rfl, (Or.inr (Or.inr (Or.inl ⟨rfl, K0, n0, rfl, rfl⟩)))⟩
  · have hw : way = 3 := hw
    subst hw
    obtain ⟨hc1, hc2, hi9⟩ := hI
    have hc1 : 1 ≤ cp := hc1
    have hc2 : cp ≤ 64 := hc2
    have hk : kl P cp = L0 := hk
    subst hk
    have hi9 : (kl P cp).length = cp ∧ p1 < cp ∧ p2 ≤ cp ∧ ∀ x ∈ kl P cp, x ≠ -1 → 1 ≤ p2 := hi9
    obtain ⟨-, hp1, hp2, hp3⟩ := hi9
    refine Ctr_post (sX0_tell lc D ci cz ck csh cj a cp vals hi mi we P f p1 p2 k hk9) ?_
    rintro v w2 ⟨rfl, rfl⟩
    have e : aTold (mkA 3 cp vals hi mi we (kl P cp) L1 L2 L3 p1 p2 f) k = lTold 3 cp p2 0 hi mi we p1 k := rfl
    rw [e]
    exact ⟨rfl, (Or.inr (Or.inr (Or.inr (Or.inl ⟨rfl, P, rfl, rfl⟩))))⟩
  · have hw : way = 4 := hw
    subst hw
    obtain ⟨hc1, hc2, hi9⟩ := hI
    have hc1 : 1 ≤ cp := hc1
    have hc2 : cp ≤ 64 := hc2
    have hk0 : kl K0 n0 = L0 := hk0
    subst hk0
    have hk1 : kl K1 n1 = L1 := hk1
    subst hk1
    have hk2 : kl K2 n2 = L2 := hk2
    subst hk2
    have hi9 : (kl K0 n0).length + (kl K1 n1).length ≤ cp ∧ (kl K2 n2).length ≤ p2 ∧ p2 ≤ 64 ∧ 1 ≤ p2 ∧ p1 ≤ 64 := hi9
    rw [kl_len, kl_len, kl_len] at hi9
    obtain ⟨h01, hg, hg64, hg1, hil⟩ := hi9
    refine Ctr_post (sX7_tell lc D ci cz ck csh cj a cp vals hi mi we K0 n0 K1 n1 K2 n2 p1 p2 k hk9) ?_
    rintro v w2 ⟨rfl, rfl⟩
    have e : aTold (mkA 4 cp vals hi mi we (kl K0 n0) (kl K1 n1) (kl K2 n2) L3 p1 p2 f) k = lTold 4 cp (n0 + n1) n2 hi mi we 0 k := by show lTold 4 cp ((kl K0 n0).length + (kl K1 n1).length) (kl K2 n2).length hi mi we 0 k = _; rw [kl_len, kl_len, kl_len]
    rw [e]
    exact ⟨rfl, (Or.inr (Or.inr (Or.inr (Or.inr (Or.inl ⟨rfl, K0, n0, K1, n1, K2, n2, rfl, rfl, rfl, rfl⟩)))))⟩
  · have hw : way = 5 := hw
    subst hw
    obtain ⟨hc1, hc2, hi9⟩ := hI
    have hc1 : 1 ≤ cp := hc1
    have hc2 : cp ≤ 64 := hc2
    have hk0 : kl K0 n0 = L0 := hk0
    subst hk0
    have hk1 : kl K1 n1 = L1 := hk1
    subst hk1
    have hk2 : kl K2 n2 = L2 := hk2
    subst hk2
    have hk3 : kl K3 n3 = L3 := hk3
    subst hk3
    have hi9 : (kl K0 n0).length + (kl K1 n1).length ≤ cp ∧ (kl K0 n0).length + (kl K2 n2).length ≤ cp ∧ (kl K2 n2).length + (kl K3 n3).length ≤ cp ∧ p1 ≤ 64 := hi9
    rw [kl_len, kl_len, kl_len, kl_len] at hi9
    obtain ⟨h01, h02, h23, htg⟩ := hi9
    refine Ctr_post (sX5_tell lc D ci cz ck csh cj a cp vals hi mi we K0 n0 K1 n1 K2 n2 K3 n3 p1 k hk9) ?_
    rintro v w2 ⟨rfl, rfl⟩
    have e : aTold (mkA 5 cp vals hi mi we (kl K0 n0) (kl K1 n1) (kl K2 n2) (kl K3 n3) p1 p2 f) k = lTold 5 cp (n0 + n1) (n2 + n3) hi mi we p1 k := by show lTold 5 cp ((kl K0 n0).length + (kl K1 n1).length) ((kl K2 n2).length + (kl K3 n3).length) hi mi we p1 k = _; rw [kl_len, kl_len, kl_len, kl_len]
    rw [e]
    exact ⟨rfl, (Or.inr (Or.inr (Or.inr (Or.inr (Or.inr ⟨rfl, K0, n0, K1, n1, K2, n2, K3, n3, rfl, rfl, rfl, rfl, rfl⟩)))))⟩

/-! the things and rights that the script's cells make -/
theorem nI_divL {a b : Nat} (ha : a < 2 ^ 31) (hb : b < 1000000) (h0 : 0 < b) : nI a / nI b = nI (a / b) := by
  have hq : a / b ≤ a := Nat.div_le_self _ _
  apply Int32.toInt_inj.mp
  rw [Int32.toInt_div, nI_toInt ha, nI_toInt (by omega), nI_toInt (by omega)]
  have e : ((a : Int).tdiv (b : Int)) = ((a / b : Nat) : Int) := by
    rw [Int.tdiv_eq_ediv_of_nonneg (by omega)]
    exact (Int.natCast_ediv a b).symm
  rw [e]
  generalize a / b = z at hq
  exact Int.bmod_eq_of_le (by omega) (by omega)
theorem irm_nIL {a b : Nat} (ha : a < 2 ^ 31) (hb : b < 1000000) (h0 : 0 < b) : irm (nI a) (nI b) = nI (a % b) := by
  unfold irm
  have h1 : a / b * b ≤ a := Nat.div_mul_le_self a b
  rw [nI_divL ha hb h0, nI_mul, nI_sub h1]
  congr 1
  have := Nat.div_add_mod' a b
  omega
theorem masked (v : Int32) : ∃ u, v &&& 2147483647 = nI u ∧ u < 2 ^ 31 := by
  obtain ⟨h1, -⟩ := nI_ofV (v &&& 2147483647)
  refine ⟨_, h1, ?_⟩
  rw [Int32.toBitVec_and, BitVec.toNat_and]
  have : (2147483647 : Int32).toBitVec.toNat = 2147483647 := by decide
  rw [this]
  exact Nat.lt_of_le_of_lt Nat.and_le_right (by omega)
theorem low_c (v : Int32) {m : Nat} (hm : m < 1000) (h0 : 0 < m) : ∃ r, m_L_low v (nI m) = some (nI r) ∧ r < m := by
  obtain ⟨u, h1, h2⟩ := masked v
  refine ⟨u % m, ?_, Nat.mod_lt _ h0⟩
  unfold m_L_low
  rw [h1, irm_nIL h2 (by omega) h0]
  exact gd_t (decide_eq_true (by rw [show (0 : Int32) = nI 0 from rfl, neq (by omega) (by omega)]; omega)) _
section BU
variable {S : Hs} {n : Nat} {K : Kd} {Z : Rt} {L : Nat} {xs : Nat → Int32}
theorem cell_c (hL : L ≤ 260) {k : Nat} (hk : k < 1000) : ∃ v, m_L_cell L xs (nI k) S = some v := by
  unfold m_L_cell m_L_cell_J19
  by_cases h : L ≤ k
  · exact ⟨_, by rw [if_pos (show Int32.ofNat L ≤ nI k from (nle (by omega) (by omega)).mpr h)]⟩
  · refine ⟨xs (nI k).toNatClampNeg, ?_⟩
    rw [if_neg (show ¬ Int32.ofNat L ≤ nI k from fun q => h ((nle (by omega) (by omega)).mp q)), gd_t (inb_nI (by omega) (by omega))]
def Zn : Rt := fun _ _ _ => false
theorem Clo_Zn (A : Nat → Bool) : Clo A Zn = Zn := by
  refine (Clo_eq (Sub.rf _) (Clo_sub _ _) fun x k y q => ?_).symm
  obtain ⟨-, ⟨-, f, q, -⟩ | ⟨p, -, q, -⟩⟩ := q <;> cases q
theorem cnt_Zn : cnt Zn = 0 := fb_ct_zero.mpr fun i _ => rfl
/-- one thing -/
theorem build12 {i : Nat} (h : CP S (i, K, Zn) []) (hi : i < n) (hn : n < 7) (v4 : Int32) : ∃ U K', m_L_build_L12 L xs (nI n) v4 (nI 1) (nI i) S = some (.inl (nI 1, nI (i + 1), U)) ∧ CP U (i + 1, K', Zn) [] := by
  have e1 : ¬ nI n ≤ nI i := by rw [nle (by omega) (by omega)]; omega
  have e2 : ¬ nI 1 = (0 : Int32) := by decide
  obtain ⟨r, r1, r2⟩ := low_c (v4 >>> (((3 : Int32) * nI i) &&& 31)) (show 5 < 1000 by omega) (show 0 < 5 by omega)
  have r1' : m_L_low (v4 >>> (((3 : Int32) * nI i) &&& 31)) 5 = some (nI r) := r1
  have add : ∀ b : Bool, ∃ U K', m_L_build_J42 L xs (nI n) v4 (nI i) (bi b) S = some (.inl (nI 1, nI (i + 1), U)) ∧ CP U (i + 1, K', Zn) [] := by
    intro b
    obtain ⟨S1, a1, a2⟩ := addThing_c h (by omega) (by simp) b
    have a3 := a2.nil
    obtain ⟨t, t1, t2⟩ := low_c (v4 >>> (((3 : Int32) * nI i + 1) &&& 31)) (show 6 < 1000 by omega) (show 0 < 6 by omega)
    have t1' : m_L_low (v4 >>> (((3 : Int32) * nI i + 1) &&& 31)) 6 = some (nI t) := t1
    unfold m_L_build_J42 m_L_build_J55
    rw [a1, bndX_l, if_pos rfl, t1', Option.bind_some]
    have hi1 : nI i + 1 = nI (i + 1) := nI_add _ _
    by_cases ht : t = 0
    · subst ht
      obtain ⟨S2, b1, b2⟩ := thing_class a3.rs (show i < i + 1 by omega) (show 0 < 7 by omega)
      have hv : thv (i + 1) (adK i K b) Zn i 0 = bi (decide (adK i K b i ≠ 0)) := rfl
      rw [hv] at b1
      have b1' : m_X5_thing (nI i) 0 S1 = some (.inl (bi (decide (adK i K b i ≠ 0))), S2) := b1
      have a4 := a3.kp b2
      rw [if_pos (show nI 0 = (0 : Int32) from rfl), b1', bndX_l]
      by_cases hp : adK i K b i = 0
      · refine ⟨S2, _, ?_, a4⟩
        unfold m_L_build_J114
        rw [decide_eq_false (show ¬ adK i K b i ≠ 0 by simp [hp]), if_neg (show ¬ bi false = (1 : Int32) by decide), hi1]
        rfl
      · obtain ⟨S3, c1, c2⟩ := wake_c a4 (by simp) (show i < i + 1 by omega) hp false
        rw [Clo_Zn, cnt_Zn] at c1
        have c1' : m_X5_wake (nI i) 0 S2 = some (.inl (nI 0), S3) := c1
        obtain ⟨S4, d1, d2⟩ := thing_class c2.rs (show i < i + 1 by omega) (show 1 < 7 by omega)
        have hv2 : thv (i + 1) (wkK (adK i K b) i false) Zn i 1 = nI 0 := by
          unfold thv wkK
          rw [if_neg (by omega), if_pos rfl, if_pos rfl]
          rfl
        rw [hv2] at d1
        have d1' : m_X5_thing (nI i) 1 S3 = some (.inl (nI 0), S4) := d1
        refine ⟨S4, _, ?_, (c2.kp d2).nil⟩
        unfold m_L_build_J113 m_L_build_J114
        rw [decide_eq_true (show adK i K b i ≠ 0 from hp), if_pos (show bi true = (1 : Int32) from rfl), if_neg (show ¬ (1 : Int32) = 0 by decide), c1', bndX_l, if_pos (show nI 0 = (0 : Int32) from rfl), d1', bndX_l, if_pos (show nI 0 = (0 : Int32) from rfl), hi1]
        rfl
    · refine ⟨S1, _, ?_, a3⟩
      unfold m_L_build_J114
      rw [if_neg (show ¬ nI t = (0 : Int32) by rw [show (0 : Int32) = nI 0 from rfl, neq (by omega) (by omega)]; exact ht), hi1]
      rfl
  unfold m_L_build_L12
  rw [if_neg e1, if_neg e2, r1', Option.bind_some]
  by_cases hr : nI r ≤ (0 : Int32)
  · rw [if_pos hr]
    exact add false
  · rw [if_neg hr]
    exact add true
theorem cnt_up {x k y : Nat} (hx : x < 7) (hk : k < 4) (hy : y < 7) : cnt (upR Z x k y true) ≤ cnt Z + 1 := by
  cases hz : Z x k y
  · rw [cnt_ins hx hk hy hz]
    exact Nat.le_refl _
  · have : upR Z x k y true = Z := by
      funext a c d
      unfold upR
      by_cases e : a = x ∧ c = k ∧ d = y
      · rw [if_pos e, e.1, e.2.1, e.2.2, hz]
      · rw [if_neg e]
    rw [this]
    omega
/-- one right -/
theorem build209 {i m : Nat} (h : CP S (n, K, Z) []) (hc : cnt Z ≤ i) (hi : i < 11) {x y k : Nat} (hx : x < n) (hy : y < n) (hk : k < 4) : ∃ U Z', m_L_build_J209 L xs (nI n) (nI 1) (nI m) (nI i) (nI x) (nI y) (nI k) S = some (.inl (nI 1, nI (i + 1), U)) ∧ CP U (n, K, Z') [] ∧ cnt Z' ≤ i + 1 := by
  have hn := h.rs.1
  have hi1 : nI i + 1 = nI (i + 1) := nI_add _ _
  unfold m_L_build_J209
  by_cases hne : x = y
  · refine ⟨S, Z, ?_, h, by omega⟩
    unfold m_L_build_J284
    rw [if_pos (by rw [hne]), hi1]
  · obtain ⟨w, S1, a1, a2, a3⟩ := rights_c h.rs hx hy hne false
    have a1' : m_X5_rights (nI x) (nI y) 0 S = some (.inl w, S1) := a1
    have h1 := h.kp a2
    obtain ⟨S2, b1, b2⟩ := set_c h1 (by simp) hx hk hy hne true (fun _ => Or.inr (by omega))
    have b1' : m_X5_set (nI x) (nI k) (nI y) 1 S1 = some (.inl (bi (Z x k y)), S2) := b1
    obtain ⟨w2, S3, c1, c2, c3⟩ := rights_c b2.rs hx hy hne false
    have c1' : m_X5_rights (nI x) (nI y) 0 S2 = some (.inl w2, S3) := c1
    have g : (w >>> (nI k &&& 31)) &&& 1 = bi (Z x k y) := by
      have := and1 w (show k < 32 by omega)
      rw [a3 k (by omega), decide_eq_true hk, Bool.true_and] at this
      exact this
    have hw2 : w2 = w ||| (1 <<< (nI k &&& 31)) := b_ext fun j hj => by
      rw [bt_set w (show k < 32 by omega) hj, c3 j hj, a3 j hj]
      show (decide (j < 4) && upR Z x k y true x j y) = (decide (j < 4) && Z x j y || decide (j = k))
      unfold upR
      by_cases e : j = k
      · subst e
        rw [if_pos ⟨rfl, rfl, rfl⟩, decide_eq_true hk]
        simp
      · rw [if_neg (fun q => e q.2.1), decide_eq_false e, Bool.or_false]
    refine ⟨S3, upR Z x k y true, ?_, (b2.kp c2).nil, Nat.le_trans (cnt_up (by omega) hk (by omega)) (by omega)⟩
    have hfin : m_L_build_J256 L xs (nI n) (nI m) (nI i) (nI x) (nI y) (nI k) w (bi (Z x k y)) (bi (Z x k y)) S2 = some (.inl (nI 1, nI (i + 1), S3)) := by
      unfold m_L_build_J256 m_L_build_J283 m_L_build_J284
      rw [if_pos rfl, c1', bndX_l, if_pos hw2, hi1]
      rfl
    rw [if_neg (by rw [neq (by omega) (by omega)]; exact hne), a1', bndX_l, b1', bndX_l, g]
    cases hz : Z x k y
    · rw [hz] at hfin
      rw [if_neg (show ¬ bi false = (1 : Int32) by decide)]
      exact hfin
    · rw [hz] at hfin
      rw [if_pos (show bi true = (1 : Int32) from rfl)]
      exact hfin
theorem build137 {i m : Nat} (hL : L ≤ 260) (h : CP S (n, K, Z) []) (hn0 : 0 < n) (hc : cnt Z ≤ i) (hi : i < m) (hm : m ≤ 11) : ∃ U Z', m_L_build_L137 L xs (nI n) (nI m) (nI 1) (nI i) S = some (.inl (nI 1, nI (i + 1), U)) ∧ CP U (n, K, Z') [] ∧ cnt Z' ≤ i + 1 := by
  have hn := h.rs.1
  have e1 : ¬ nI m ≤ nI i := by rw [nle (by omega) (by omega)]; omega
  obtain ⟨v, v1⟩ := cell_c (S := S) (xs := xs) hL (show 4 + i < 1000 by omega)
  have v1' : m_L_cell L xs (4 + nI i) S = some v := by
    rw [show (4 : Int32) + nI i = nI (4 + i) from nI_add _ _]
    exact v1
  obtain ⟨x, x1, x2⟩ := low_c v (show n < 1000 by omega) hn0
  obtain ⟨y, y1, y2⟩ := low_c (v >>> ((4 : Int32) &&& 31)) (show n < 1000 by omega) hn0
  obtain ⟨t, t1, t2⟩ := low_c (v >>> ((8 : Int32) &&& 31)) (show 3 < 1000 by omega) (by omega)
  obtain ⟨p, p1, p2⟩ := low_c (v >>> ((11 : Int32) &&& 31)) (show 4 < 1000 by omega) (by omega)
  obtain ⟨q, q1, q2⟩ := low_c (v >>> ((11 : Int32) &&& 31)) (show 2 < 1000 by omega) (by omega)
  have t1' : m_L_low (v >>> ((8 : Int32) &&& 31)) 3 = some (nI t) := t1
  have p1' : m_L_low (v >>> ((11 : Int32) &&& 31)) 4 = some (nI p) := p1
  have q1' : m_L_low (v >>> ((11 : Int32) &&& 31)) 2 = some (nI q) := q1
  unfold m_L_build_L137
  rw [if_neg e1, if_neg (show ¬ nI 1 = (0 : Int32) by decide), v1', Option.bind_some, x1, Option.bind_some, y1, Option.bind_some, t1', Option.bind_some]
  by_cases ht : nI t ≤ (0 : Int32)
  · rw [if_pos ht, p1', Option.bind_some]
    exact build209 h hc (by omega) x2 y2 p2
  · rw [if_neg ht, q1', Option.bind_some]
    exact build209 h hc (by omega) x2 y2 (by omega)
theorem build_law (hL : L ≤ 260) (h : CP S (0, K, Zn) []) (hn0 : 0 < n) (hn : n < 7) : ∃ U K' Z', m_L_build L xs (nI n) S = some (nI 1, U) ∧ CP U (n, K', Z') [] ∧ cnt Z' ≤ 11 := by
  obtain ⟨v, v1⟩ := cell_c (S := S) (xs := xs) hL (show 1 < 1000 by omega)
  have v1' : m_L_cell L xs 1 S = some v := v1
  obtain ⟨rr, l1, U, K', rfl, l2⟩ := loopO_inv (f := fun q : Int32 × Int32 × Hs => m_L_build_L12 L xs (nI n) v q.1 q.2.1 q.2.2)
    (fun i q => i ≤ n ∧ ∃ U K', q = (nI 1, nI i, U) ∧ CP U (i, K', Zn) [])
    (fun rr => ∃ U K', rr = (nI 1, U) ∧ CP U (n, K', Zn) []) n (fun i q hq => by
      obtain ⟨hi, U, K', rfl, b1⟩ := hq
      by_cases hin : i < n
      · obtain ⟨U2, K2, c1, c2⟩ := build12 (L := L) (xs := xs) b1 hin hn v
        exact Or.inl ⟨hin, _, c1, by omega, U2, K2, rfl, c2⟩
      · obtain rfl : i = n := by omega
        refine Or.inr ⟨(nI 1, U), ?_, U, K', rfl, b1⟩
        simp only [m_L_build_L12]
        rw [if_pos (by rw [nle (by omega) (by omega)]; omega)]) (x := (1, 0, S)) ⟨Nat.zero_le _, S, K, rfl, h⟩
  obtain ⟨u, u1⟩ := cell_c (S := U) (xs := xs) hL (show 2 < 1000 by omega)
  have u1' : m_L_cell L xs 2 U = some u := u1
  obtain ⟨m, m1, m2⟩ := low_c u (show 9 < 1000 by omega) (by omega)
  have m1' : m_L_low u 9 = some (nI m) := m1
  obtain ⟨rr, o1, U2, Z', rfl, o2, o3⟩ := loopO_inv (f := fun q : Int32 × Int32 × Hs => m_L_build_L137 L xs (nI n) (nI (3 + m)) q.1 q.2.1 q.2.2)
    (fun i q => i ≤ 3 + m ∧ ∃ U Z', q = (nI 1, nI i, U) ∧ CP U (n, K', Z') [] ∧ cnt Z' ≤ i)
    (fun rr => ∃ U Z', rr = (nI 1, U) ∧ CP U (n, K', Z') [] ∧ cnt Z' ≤ 11) (3 + m) (fun i q hq => by
      obtain ⟨hi, V, Z', rfl, b1, b2⟩ := hq
      by_cases hin : i < 3 + m
      · obtain ⟨V2, Z2, c1, c2, c3⟩ := build137 (xs := xs) hL b1 hn0 b2 hin (by omega)
        exact Or.inl ⟨hin, _, c1, by omega, V2, Z2, rfl, c2, c3⟩
      · obtain rfl : i = 3 + m := by omega
        refine Or.inr ⟨(nI 1, V), ?_, V, Z', rfl, b1, by omega⟩
        simp only [m_L_build_L137]
        rw [if_pos (by rw [nle (by omega) (by omega)]; omega)]) (x := (nI 1, 0, U)) ⟨Nat.zero_le _, U, Zn, rfl, l2, by rw [cnt_Zn]; omega⟩
  refine ⟨U2, K', Z', ?_, o2, o3⟩
  unfold m_L_build m_L_build_J120 m_L_build_J290
  rw [v1', Option.bind_some, l1, Option.bind_some, u1', Option.bind_some, m1', Option.bind_some, bnd_eq, show (3 : Int32) + nI m = nI (3 + m) from nI_add _ _]
  dsimp only
  rw [o1, Option.bind_some]
  exact gd_t (show decide (nI 1 = (0 : Int32) ∨ nI 1 = 1) = true by decide) _
end BU

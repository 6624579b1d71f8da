/-! Integer.bitCount: how many bits are set -/
theorem land16 (a b r s : Nat) (hr : r < 16) (hs : s < 16) : (16 * a + r) &&& (16 * b + s) = 16 * (a &&& b) + (r &&& s) := by
  have hrs : r &&& s < 2 ^ 4 := Nat.and_lt_two_pow r hs
  apply Nat.eq_of_testBit_eq
  intro i
  rw [Nat.testBit_and, show 16 * a + r = 2 ^ 4 * a + r from rfl, show 16 * b + s = 2 ^ 4 * b + s from rfl, show 16 * (a &&& b) + (r &&& s) = 2 ^ 4 * (a &&& b) + (r &&& s) from rfl, Nat.testBit_two_pow_mul_add _ hr, Nat.testBit_two_pow_mul_add _ hs, Nat.testBit_two_pow_mul_add _ hrs]
  by_cases h : i < 4
  · rw [if_pos h, if_pos h, if_pos h, Nat.testBit_and]
  · rw [if_neg h, if_neg h, if_neg h, Nat.testBit_and]
def e1 (r : Nat) : Nat := r - (r / 2 &&& 5)
def pc4 (r : Nat) : Nat := (e1 r &&& 3) + (e1 r / 4 &&& 3)
def rep (m : Nat) : Nat → Nat
  | 0 => 0
  | k + 1 => 16 * rep m k + m
def x1 (k n : Nat) : Nat := n - (n / 2 &&& rep 5 k)
def x2 (k n : Nat) : Nat := (n &&& rep 3 k) + (n / 4 &&& rep 3 k)
/-- the sum of the digits' counts, each in its place -/
def pcs : Nat → Nat → Nat
  | 0, _ => 0
  | k + 1, n => 16 * pcs k (n / 16) + pc4 (n % 16)
theorem e1_fin : ∀ b, b < 2 → ∀ r, r < 16 → ((8 * b + r / 2) &&& 5) = (r / 2 &&& 5) ∧ (r / 2 &&& 5) ≤ r ∧ e1 r < 16 := by decide +kernel
theorem e2_fin : ∀ b, b < 4 → ∀ e, e < 16 → ((4 * b + e / 4) &&& 3) = (e / 4 &&& 3) := by decide +kernel
theorem pc4_fin : ∀ r, r < 16 → pc4 r = fb_ct (fun i => r.testBit i) 4 ∧ pc4 r ≤ 4 := by decide +kernel
theorem x1_step (k n : Nat) : x1 (k + 1) n = 16 * x1 k (n / 16) + e1 (n % 16) ∧ (n / 16 / 2 &&& rep 5 k) ≤ n / 16 := by
  have hq : (n / 16 / 2 &&& rep 5 k) ≤ n / 16 := Nat.le_trans Nat.and_le_left (by omega)
  refine ⟨?_, hq⟩
  obtain ⟨h1, h2, h3⟩ := e1_fin (n / 16 % 2) (by omega) (n % 16) (by omega)
  have hn : n / 2 = 16 * (n / 16 / 2) + (8 * (n / 16 % 2) + n % 16 / 2) := by omega
  unfold x1 e1
  rw [hn]
  show n - (_ &&& (16 * rep 5 k + 5)) = _
  rw [land16 _ _ _ _ (by omega) (by omega), h1]
  omega
theorem x2_step (k a e : Nat) (he : e < 16) : x2 (k + 1) (16 * a + e) = 16 * x2 k a + ((e &&& 3) + (e / 4 &&& 3)) := by
  have h1 := e2_fin (a % 4) (by omega) e he
  have hn : (16 * a + e) / 4 = 16 * (a / 4) + (4 * (a % 4) + e / 4) := by omega
  unfold x2
  rw [hn]
  show (_ &&& (16 * rep 3 k + 3)) + (_ &&& (16 * rep 3 k + 3)) = _
  rw [land16 _ _ _ _ he (by omega), land16 _ _ _ _ (by omega) (by omega), h1]
  omega
theorem x12 : ∀ k n, x2 k (x1 k n) = pcs k n
  | 0, n => by simp [x2, rep, pcs]
  | k + 1, n => by
    obtain ⟨-, -, h3⟩ := e1_fin 0 (by omega) (n % 16) (by omega)
    rw [(x1_step k n).1, x2_step k _ _ h3, x12 k]
    rfl
theorem pcs_ct : ∀ k n, ∃ c : Nat → Nat, (∀ i, c i ≤ 4) ∧ pcs k n = (fb_sm (fun i => 16 ^ i * c i) k) ∧ fb_ct (fun i => n.testBit i) (4 * k) = fb_sm c k
  | 0, n => ⟨fun _ => 0, fun _ => Nat.zero_le _, rfl, rfl⟩
  | k + 1, n => by
    obtain ⟨c, h1, h2, h3⟩ := pcs_ct k (n / 16)
    obtain ⟨p1, p2⟩ := pc4_fin (n % 16) (by omega)
    refine ⟨fun i => if i = 0 then pc4 (n % 16) else c (i - 1), fun i => ?_, ?_, ?_⟩
    · by_cases hi : i = 0
      · simp only [hi, if_true]; exact p2
      · simp only [hi, if_false]; exact h1 _
    · show 16 * pcs k (n / 16) + pc4 (n % 16) = _
      rw [h2, show k + 1 = 1 + k by omega, fb_sm_split]
      have : ∀ m, 16 * fb_sm (fun i => 16 ^ i * c i) m = fb_sm (fun i => 16 ^ (1 + i) * (if 1 + i = 0 then pc4 (n % 16) else c (1 + i - 1))) m := by
        intro m
        induction m with
        | zero => rfl
        | succ m ih =>
          rw [fb_sm_succ, fb_sm_succ, Nat.mul_add, ih, if_neg (by omega), show 1 + m - 1 = m by omega, Nat.pow_add, Nat.pow_one, Nat.mul_assoc]
      rw [this]
      simp [fb_sm]
      omega
    · rw [show 4 * (k + 1) = 4 + 4 * k by omega, fb_ct_split, show k + 1 = 1 + k by omega, fb_sm_split]
      have e0 : fb_ct (fun i => n.testBit i) 4 = pc4 (n % 16) := by
        rw [p1]
        refine fb_ct_cong fun i hi => ?_
        rw [show n % 16 = n % 2 ^ 4 from rfl, Nat.testBit_mod_two_pow]
        simp [hi]
      have e1' : fb_ct (fun i => n.testBit (4 + i)) (4 * k) = fb_sm c k := by
        rw [← h3]
        refine fb_ct_cong fun i hi => ?_
        rw [show n / 16 = n / 2 ^ 4 from rfl, Nat.testBit_div_two_pow]
        congr 1
        omega
      rw [e0, e1']
      have : fb_sm (fun i => if 1 + i = 0 then pc4 (n % 16) else c (1 + i - 1)) k = fb_sm c k := fb_sm_cong fun i hi => by rw [if_neg (by omega), show 1 + i - 1 = i by omega]
      rw [this]
      simp [fb_sm]
theorem fin_sum (c0 c1 c2 c3 c4 c5 c6 c7 : Nat) (h0 : c0 ≤ 4) (h1 : c1 ≤ 4) (h2 : c2 ≤ 4) (h3 : c3 ≤ 4) (h4 : c4 ≤ 4) (h5 : c5 ≤ 4) (h6 : c6 ≤ 4) (h7 : c7 ≤ 4) (x : Nat) (hx : x = c0 + 16 * (c1 + 16 * (c2 + 16 * (c3 + 16 * (c4 + 16 * (c5 + 16 * (c6 + 16 * c7))))))) :
    (x + x / 16 &&& 252645135) = (c0 + c1) + 256 * (c2 + c3) + 65536 * (c4 + c5) + 16777216 * (c6 + c7) := by
  have e : x + x / 16 = 16 * (16 * (16 * (16 * (16 * (16 * (16 * c7 + (c6 + c7)) + (c5 + c6)) + (c4 + c5)) + (c3 + c4)) + (c2 + c3)) + (c1 + c2)) + (c0 + c1) := by omega
  have m : 252645135 = 16 * (16 * (16 * (16 * (16 * (16 * (16 * 0 + 15) + 0) + 15) + 0) + 15) + 0) + 15 := rfl
  have f15 : ∀ a, a < 16 → (a &&& 15) = a := by decide +kernel
  rw [e, m, land16 _ _ _ _ (by omega) (by omega), land16 _ _ _ _ (by omega) (by omega), land16 _ _ _ _ (by omega) (by omega), land16 _ _ _ _ (by omega) (by omega), land16 _ _ _ _ (by omega) (by omega), land16 _ _ _ _ (by omega) (by omega), land16 _ _ _ _ (by omega) (by omega), f15 _ (by omega), f15 _ (by omega), f15 _ (by omega), f15 _ (by omega)]
  simp only [Nat.and_zero]
  omega
theorem nI_and (a b : Nat) : nI a &&& nI b = nI (a &&& b) := by
  apply Int32.toBitVec_inj.mp
  show BitVec.ofNat 32 a &&& BitVec.ofNat 32 b = BitVec.ofNat 32 (a &&& b)
  apply BitVec.eq_of_getLsbD_eq
  intro i hi
  rw [BitVec.getLsbD_and, BitVec.getLsbD_ofNat, BitVec.getLsbD_ofNat, BitVec.getLsbD_ofNat, Nat.testBit_and]
  simp [hi]
theorem nI_sub {a b : Nat} (h : b ≤ a) : nI a - nI b = nI (a - b) := by
  have h1 : nI (a - b) + nI b = nI a := by rw [nI_add, Nat.sub_add_cancel h]
  rw [← h1, Int32.add_sub_cancel]
theorem nI_ofV (v : Int32) : v = nI v.toBitVec.toNat ∧ v.toBitVec.toNat < 2 ^ 32 := ⟨Int32.toBitVec_inj.mp (by show _ = BitVec.ofNat 32 _; simp), v.toBitVec.isLt⟩
theorem bt_nI (n : Nat) {i : Nat} (hi : i < 32) : bt (nI n) i = n.testBit i := by
  show (BitVec.ofNat 32 n).getLsbD i = _
  rw [BitVec.getLsbD_ofNat]
  simp [hi]
theorem ushr_nI {n k : Nat} (hn : n < 2 ^ 32) (hk : k < 32) : iushr (nI n) (nI k) = nI (n / 2 ^ k) := by
  apply b_ext
  intro i hi
  unfold iushr
  rw [b_ushr k hk, bt_nI _ hi, Nat.testBit_div_two_pow]
  by_cases h : k + i < 32
  · rw [bt_nI _ h, Nat.add_comm]
  · rw [b_big (by omega), Nat.testBit_lt_two_pow]
    exact Nat.lt_of_lt_of_le hn (Nat.pow_le_pow_right (by decide) (by omega))
theorem fin_lt (s0 s1 s2 s3 : Nat) (h0 : s0 ≤ 8) (h1 : s1 ≤ 8) (h2 : s2 ≤ 8) (h3 : s3 ≤ 8) (y : Nat) (hy : y = s0 + 256 * s1 + 65536 * s2 + 16777216 * s3) : y < 2 ^ 32 ∧ y + y / 256 < 2 ^ 32 := by omega
theorem fin_mod (s0 s1 s2 s3 : Nat) (h0 : s0 ≤ 8) (h1 : s1 ≤ 8) (h2 : s2 ≤ 8) (h3 : s3 ≤ 8) (y : Nat) (hy : y = s0 + 256 * s1 + 65536 * s2 + 16777216 * s3) (t : Nat) (ht : t = s0 + s1 + s2 + s3) : (y + y / 256 + (y + y / 256) / 65536) % 2 ^ 6 = t := by
  have d1 : y / 256 = s1 + 256 * s2 + 65536 * s3 := by omega
  have d2 : (y + y / 256) / 65536 = s2 + s3 + 256 * s3 := by rw [d1]; omega
  rw [d2, d1]
  omega
/-- Integer.bitCount -/
theorem bitCount_ok (v : Int32) : m_J6_bitCount_0f7a4 v = some (nI (fb_ct (bt v) 32)) := by
  obtain ⟨hv, hn⟩ := nI_ofV v
  generalize v.toBitVec.toNat = n at hv hn
  subst hv
  have hct : fb_ct (bt (nI n)) 32 = fb_ct (fun i => n.testBit i) 32 := fb_ct_cong fun i hi => bt_nI n hi
  obtain ⟨c, h1, h2, h3⟩ := pcs_ct 8 n
  have r5 : rep 5 8 = 1431655765 := by decide +kernel
  have r3 : rep 3 8 = 858993459 := by decide +kernel
  have a1 : n - (n / 2 &&& 1431655765) = x1 8 n := by unfold x1; rw [r5]
  have l1 : (n / 2 &&& 1431655765) ≤ n := Nat.le_trans Nat.and_le_left (Nat.div_le_self _ _)
  have b1 : x1 8 n < 2 ^ 32 := Nat.lt_of_le_of_lt (Nat.sub_le _ _) hn
  have a2 : (x1 8 n &&& 858993459) + (x1 8 n / 4 &&& 858993459) = pcs 8 n := by rw [← x12 8 n]; unfold x2; rw [r3]
  have hx : pcs 8 n = c 0 + 16 * (c 1 + 16 * (c 2 + 16 * (c 3 + 16 * (c 4 + 16 * (c 5 + 16 * (c 6 + 16 * c 7)))))) := by
    rw [h2]
    simp only [fb_sm]
    omega
  have f := fin_sum (c 0) (c 1) (c 2) (c 3) (c 4) (c 5) (c 6) (c 7) (h1 0) (h1 1) (h1 2) (h1 3) (h1 4) (h1 5) (h1 6) (h1 7) (pcs 8 n) hx
  have hs : fb_sm c 8 = c 0 + c 1 + c 2 + c 3 + c 4 + c 5 + c 6 + c 7 := by simp only [fb_sm]; omega
  have g0 := h1 0
  have g1 := h1 1
  have g2 := h1 2
  have g3 := h1 3
  have g4 := h1 4
  have g5 := h1 5
  have g6 := h1 6
  have g7 := h1 7
  have bp : pcs 8 n < 2 ^ 32 := by omega
  have k1 : iushr (nI n) 1 = nI (n / 2) := ushr_nI (k := 1) hn (by decide)
  have k2 : iushr (nI (x1 8 n)) 2 = nI (x1 8 n / 4) := ushr_nI (k := 2) b1 (by decide)
  have k3 : iushr (nI (pcs 8 n)) 4 = nI (pcs 8 n / 16) := ushr_nI (k := 4) bp (by decide)
  have n5 : (1431655765 : Int32) = nI 1431655765 := by decide +kernel
  have n3 : (858993459 : Int32) = nI 858993459 := by decide +kernel
  have nF : (252645135 : Int32) = nI 252645135 := by decide +kernel
  have n63 : (63 : Int32) = nI 63 := by decide +kernel
  have s1 : nI n - (iushr (nI n) 1 &&& 1431655765) = nI (x1 8 n) := by rw [k1, n5, nI_and, nI_sub l1, a1]
  have s2 : (nI (x1 8 n) &&& 858993459) + (iushr (nI (x1 8 n)) 2 &&& 858993459) = nI (pcs 8 n) := by rw [k2, n3, nI_and, nI_and, nI_add, a2]
  generalize hy : c 0 + c 1 + 256 * (c 2 + c 3) + 65536 * (c 4 + c 5) + 16777216 * (c 6 + c 7) = y at f
  have s3 : nI (pcs 8 n) + iushr (nI (pcs 8 n)) 4 &&& 252645135 = nI y := by rw [k3, nF, nI_add, nI_and, f]
  have q0 : c 0 + c 1 ≤ 8 := Nat.add_le_add g0 g1
  have q1 : c 2 + c 3 ≤ 8 := Nat.add_le_add g2 g3
  have q2 : c 4 + c 5 ≤ 8 := Nat.add_le_add g4 g5
  have q3 : c 6 + c 7 ≤ 8 := Nat.add_le_add g6 g7
  have hlt := fin_lt _ _ _ _ q0 q1 q2 q3 y hy.symm
  have by1 : y < 2 ^ 32 := hlt.1
  have k4 : iushr (nI y) 8 = nI (y / 256) := ushr_nI (k := 8) by1 (by decide)
  have by2 : y + y / 256 < 2 ^ 32 := hlt.2
  have k5 : iushr (nI (y + y / 256)) 16 = nI ((y + y / 256) / 65536) := ushr_nI (k := 16) by2 (by decide)
  have hfin : y + y / 256 + (y + y / 256) / 65536 &&& 63 = fb_sm c 8 := by
    rw [show 63 = 2 ^ 6 - 1 from rfl, Nat.and_two_pow_sub_one_eq_mod, hs]
    exact fin_mod (c 0 + c 1) (c 2 + c 3) (c 4 + c 5) (c 6 + c 7) q0 q1 q2 q3 y hy.symm _ (by simp only [Nat.add_assoc])
  have h32 : fb_ct (fun i => n.testBit i) 32 = fb_sm c 8 := h3
  unfold m_J6_bitCount_0f7a4
  rw [bnd_eq, s1, bnd_eq, s2, bnd_eq, s3, bnd_eq, k4, nI_add, bnd_eq, k5, nI_add, n63, nI_and, hfin, hct, h32]

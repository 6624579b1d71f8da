theorem wC_inj {D : va_G} {ad : Nat → Nat} {cy : Nat → ClassId} {Lx : Nat × (Nat → Int32)} {A : Nat → Prop} {S : Hs} (hD : va_D A (wC (D, ad, cy, Lx) S)) : Inj (D, ad, cy, Lx) ∧ ∀ i d, lay i = some d → A (ad i) := by
  refine ⟨fun i j d d' h1 h2 he => ?_, fun i d h => ?_⟩
  · have h := hD.1 (pl i) (pl j) _ _ (wC_get (D, ad, cy, Lx) S h1) (wC_get (D, ad, cy, Lx) S h2) he
    rw [← (lay_pl h1).2, ← (lay_pl h2).2, h]
  · exact hD.2 (pl i) _ (wC_get (D, ad, cy, Lx) S h)
set_option maxRecDepth 100000 in
set_option maxHeartbeats 4000000 in
/-- the law from its entry, over what its text says behind the constructor -/
theorem law_whole {p : Program} {e : Env} {s : State} {m : MethodId} {below : List Frame} {meth : Method} {c : Code} (l : Launch) {b L : Nat} {xs : Nat → Int32} (C0 : lw_At p s m meth c b L xs) (S' : Hs) (hm : m_L_law L xs hs0 = some (1, S')) :
    W p l e room_1 s m #[Value.ref b] below meth c s.heap [] 0 0 (lw_Z below #[Value.ref b] s) (entryFrame m ([Value.ref b] : List Value).toArray 8) := by
  obtain ⟨hx, hb, hr, hml, hown, hts, hX, hbl, hlocks, hgv⟩ := id C0
  obtain ⟨c0, iS0, hKn0⟩ := u_known (C := RX0) (T := TX0) (N := 3) (n := 3) hts (fun w hw => tblG_in w (inF0 w hw)) (hts _ (tblG_in _ tw192))
  obtain ⟨c1, iS1, hKn1⟩ := u_known (C := RX1) (T := TX1) (N := 1) (n := 1) hts (fun w hw => tblG_in w (inF1 w hw)) (hts _ (tblG_in _ tw189))
  obtain ⟨c2, iS2, hKn2⟩ := u_known (C := RX2) (T := TX2) (N := 7) (n := 7) hts (fun w hw => tblG_in w (inF2 w hw)) (hts _ (tblG_in _ tw186))
  obtain ⟨c3, iS3, hKn3⟩ := u_known (C := RX3) (T := TX3) (N := 4) (n := 4) hts (fun w hw => tblG_in w (inF3 w hw)) (hts _ (tblG_in _ tw8))
  obtain ⟨c4, iS4, hKn4⟩ := u_known (C := RX4) (T := TX4) (N := 2) (n := 2) hts (fun w hw => tblG_in w (inF4 w hw)) (hts _ (tblG_in _ tw175))
  obtain ⟨c5, iS5, hKn5⟩ := u_known (C := RX5) (T := TX5) (N := 11) (n := 11) hts (fun w hw => tblG_in w (inF5 w hw)) (hts _ (tblG_in _ tw372))
  obtain ⟨D, hKc⟩ : ∃ D : va_G, ∀ (k : Nat) (q : vw_C), vwCl[k]? = some q → u_Kn s q.1 q.2.1 q.2.2 (D.1 k) (D.2 k) := by
    refine ⟨(fun k => if k = 0 then c0 else if k = 1 then c1 else if k = 2 then c2 else if k = 3 then c3 else if k = 4 then c4 else c5, fun k => if k = 0 then iS0 else if k = 1 then iS1 else if k = 2 then iS2 else if k = 3 then iS3 else if k = 4 then iS4 else iS5), ?_⟩
    intro k q hq
    match k, hq with
    | 0, hq => cases hq; exact hKn0
    | 1, hq => cases hq; exact hKn1
    | 2, hq => cases hq; exact hKn2
    | 3, hq => cases hq; exact hKn3
    | 4, hq => cases hq; exact hKn4
    | 5, hq => cases hq; exact hKn5
    | k + 6, hq => simp [vwCl] at hq
  obtain ⟨cy, hKy⟩ := st_tys hts hKc
  have hT := st_TB hts
  have hAb : ¬ (fun q : Nat => s.heap.size ≤ q) b := Nat.not_le.mpr hbl
  have F : FI p s m meth c cL_law RL 8 D cy (fun q => s.heap.size ≤ q) := ⟨hx, hb, hml, hown, hT, hKy, fun _ h => h, hlocks, va_AO.of (hts (.arrayOver (.object "AccessSpread$State")) (by decide +kernel))⟩
  rw [lg_entry_eq]
  have hl := lv_entry ([.ref b]) (n := 8) (Nat.le_of_ble_eq_true rfl)
  refine law_enter (L, xs) F (fun ad h100 => ?_) s.heap [] _ hl (fun k q h => by simp at h) ⟨fun i j p q h => by simp at h, fun k q h => by simp at h⟩ va_S.rf
  intro H locs ls hl hP hD hS
  obtain ⟨hg, hAd⟩ := wC_inj hD
  have hSF : SF (D, ad, cy, L, xs) (fun q => s.heap.size ≤ q) s := by
    unfold SF
    show va_X (ad 100) L xs s s.heap ∧ ad 100 < s.heap.size ∧ ¬ s.heap.size ≤ ad 100
    rw [h100]
    exact ⟨hX, hbl, hAb⟩
  have Fj : Fx p s m meth c cL_law RL 8 ret (D, ad, cy, L, xs) (fun q => s.heap.size ≤ q) := ⟨hx, hb, hml, hown, hT, hKy, ⟨hg, hAd⟩, fun _ h => h, hr, hlocks, hSF⟩
  have hl' : lv_has ls 8 [(0, .ref (((D, ad, cy, L, xs) : GG).2.1 100)), (1, .ref (((D, ad, cy, L, xs) : GG).2.1 0))] := by
    show lv_has ls 8 [(0, .ref (ad 100)), (1, .ref (ad 0))]
    rw [h100]
    exact hl
  refine law_body hg Fj L xs rfl ⟨Nat.le_of_ble_eq_true rfl, Nat.le_of_ble_eq_true rfl⟩ ?_ hs0 S' hm H locs ls hl' hP hS
  intro pc lv S hd H locs ls hl hP hS
  refine va_forget (fun q hq => hS.2.2 q hq) ?_
  refine W.widen (k := 600086) (n := 7301442) (Nat.le_of_ble_eq_true rfl) (Nat.le_of_ble_eq_true rfl) ?_
  exact lw_ret Fj.1 Fj.2.1 Fj.rt Fj.locks hd

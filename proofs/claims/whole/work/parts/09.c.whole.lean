theorem wC_inj {D : va_G} {ad : Nat → Nat} {cy : Nat → ClassId} {A : Nat → Prop} {S : Hs} (hD : va_D A (wC (D, ad, cy) S)) : Inj (D, ad, cy) ∧ ∀ i, i < 73 → A (ad i) := by
  have at' : ∀ i, i < 73 → ∃ d, (wC (D, ad, cy) S)[i]? = some (ad i, celV (D, ad, cy) S i d) := by
    intro i hi
    obtain ⟨d, hd⟩ : ∃ d, lay[i]? = some d := ⟨_, List.getElem?_eq_getElem (by rw [lay_len]; exact hi)⟩
    exact ⟨d, wC_get (D, ad, cy) S hd⟩
  refine ⟨fun i j hi hj he => ?_, fun i hi => ?_⟩
  · obtain ⟨d, h1⟩ := at' i hi
    obtain ⟨d', h2⟩ := at' j hj
    exact hD.1 i j _ _ h1 h2 he
  · obtain ⟨d, h1⟩ := at' i hi
    exact hD.2 i _ h1
set_option maxRecDepth 100000 in
set_option maxHeartbeats 4000000 in
/-- the law from its entry, over what the turns keep -/
theorem law_whole {p : Program} {e : Env} {s : State} {m : MethodId} {below : List Frame} {meth : Method} {c : Code} (l : Launch) (hflags : l.flags = flags0) {b L : Nat} {xs : Nat → Int32} (hL : L ≤ 3072) (C0 : lw_At p s m meth c b L xs) (Rel : Hs → Prop) (hR0 : Rel hs0) (hstep : ∀ (k : Nat) (S : Hs), Rel S → 6 * k + 6 ≤ L → ∃ S', m_L_turn L xs (nI (6 * k)) S = some (.inl (nI (6 * k + 6), S')) ∧ Rel S') :
    W p l e room_1 s m #[Value.ref b] below meth c s.heap [] 0 0 (lw_Z below #[Value.ref b] s) (entryFrame m ([Value.ref b] : List Value).toArray 7) := by
  obtain ⟨hx, hb, hr, hml, hown, hts, hX, hbl, hlocks, hgv⟩ := id C0
  have hst : l.stackTraces = false := by unfold Launch.stackTraces; rw [hflags]; decide +kernel
  obtain ⟨c0, iS0, hKn0⟩ := u_known (C := RX0) (T := TX0) (N := 3) (n := 3) hts (fun w hw => tblG_in w (inF0 w hw)) (hts _ (tblG_in _ tw329))
  obtain ⟨c1, iS1, hKn1⟩ := u_known (C := RX1) (T := TX1) (N := 1) (n := 1) hts (fun w hw => tblG_in w (inF1 w hw)) (hts _ (tblG_in _ tw326))
  obtain ⟨c2, iS2, hKn2⟩ := u_known (C := RX2) (T := TX2) (N := 7) (n := 7) hts (fun w hw => tblG_in w (inF2 w hw)) (hts _ (tblG_in _ tw323))
  obtain ⟨c3, iS3, hKn3⟩ := u_known (C := RX3) (T := TX3) (N := 4) (n := 4) hts (fun w hw => tblG_in w (inF3 w hw)) (hts _ (tblG_in _ tw8))
  obtain ⟨c4, iS4, hKn4⟩ := u_known (C := RX4) (T := TX4) (N := 2) (n := 2) hts (fun w hw => tblG_in w (inF4 w hw)) (hts _ (tblG_in _ tw313))
  obtain ⟨c5, iS5, hKn5⟩ := u_known (C := RX5) (T := TX5) (N := 11) (n := 11) hts (fun w hw => tblG_in w (inF5 w hw)) (hts _ (tblG_in _ tw837))
  obtain ⟨c6, iS6, hKn6⟩ := u_known (C := RX6) (T := TX6) (N := 20) (n := 20) hts (fun w hw => tblG_in w (inF6 w hw)) (hts _ (tblG_in _ tw839))
  obtain ⟨D, hKc⟩ : ∃ D : va_G, ∀ (k : Nat) (q : vw_C), vwCl[k]? = some q → u_Kn s q.1 q.2.1 q.2.2 (D.1 k) (D.2 k) := by
    refine ⟨(fun k => if k = 0 then c0 else if k = 1 then c1 else if k = 2 then c2 else if k = 3 then c3 else if k = 4 then c4 else if k = 5 then c5 else c6, fun k => if k = 0 then iS0 else if k = 1 then iS1 else if k = 2 then iS2 else if k = 3 then iS3 else if k = 4 then iS4 else if k = 5 then iS5 else iS6), ?_⟩
    intro k q hq
    match k, hq with
    | 0, hq => cases hq; exact hKn0
    | 1, hq => cases hq; exact hKn1
    | 2, hq => cases hq; exact hKn2
    | 3, hq => cases hq; exact hKn3
    | 4, hq => cases hq; exact hKn4
    | 5, hq => cases hq; exact hKn5
    | 6, hq => cases hq; exact hKn6
    | k + 7, hq => simp [vwCl] at hq
  obtain ⟨cy, hKy⟩ := st_tys hts hKc
  have hT := st_TB hts
  obtain ⟨sa, sv, hSF⟩ := st_SF hts hgv
  have F : FI p s m meth c cL_law RL 7 D cy (fun q => s.heap.size ≤ q) := ⟨hx, hb, hml, hown, hT, hKy, fun _ h => h, hlocks, va_AO.of (hts (.arrayOver (.object "AccessSpread$State")) (by decide +kernel))⟩
  rw [lg_entry_eq]
  have hl := lv_entry ([.ref b]) (n := 7) (Nat.le_of_ble_eq_true rfl)
  refine law_enter F (sa := sa) (sv := sv) (fun ad h100 h101 => ?_) s.heap [] _ hl (fun k q h => by simp at h) ⟨fun i j p q h => by simp at h, fun k q h => by simp at h⟩ va_S.rf
  intro H locs ls hl hP hD hS
  obtain ⟨hg, hAd⟩ := wC_inj hD
  have Fj : Fx p s m meth c cL_law RL 7 ret (D, ad, cy) (fun q => s.heap.size ≤ q) := ⟨hx, hb, hml, hown, hT, hKy, ⟨hg, hAd⟩, fun _ h => h, hr, hlocks, hSF (D, ad, cy) h100 h101⟩
  exact law_loop hst hg Fj ⟨hst, (table_eq _).symm, st_NC hgv⟩ hX hbl hL Rel hstep 513 0 hs0 (by omega) (by omega) hR0 H locs ls hl hP hS

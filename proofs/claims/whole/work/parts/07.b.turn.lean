def m_L_law_J2015 (L : Nat) (xs : Nat → Int32) (v4 : Int32) (S : Hs) : Option ((Int32 × Hs) ⊕ (Hs ⊕ (Int32 × Hs))) := some (.inl ((v4 + 6, S)))
def m_L_law_J217 (L : Nat) (xs : Nat → Int32) (v4 : Int32) (S : Hs) : Option ((Int32 × Hs) ⊕ (Hs ⊕ (Int32 × Hs))) := m_L_law_J2015 L xs v4 S
def m_L_law_J287 (L : Nat) (xs : Nat → Int32) (v4 : Int32) (S : Hs) : Option ((Int32 × Hs) ⊕ (Hs ⊕ (Int32 × Hs))) := m_L_law_J2015 L xs v4 S
def m_L_law_J343 (L : Nat) (xs : Nat → Int32) (v4 : Int32) (S : Hs) : Option ((Int32 × Hs) ⊕ (Hs ⊕ (Int32 × Hs))) := m_L_law_J2015 L xs v4 S
def m_L_law_J411 (L : Nat) (xs : Nat → Int32) (v4 : Int32) (S : Hs) : Option ((Int32 × Hs) ⊕ (Hs ⊕ (Int32 × Hs))) := m_L_law_J2015 L xs v4 S
def m_L_law_J507 (L : Nat) (xs : Nat → Int32) (v4 : Int32) (S : Hs) : Option ((Int32 × Hs) ⊕ (Hs ⊕ (Int32 × Hs))) := m_L_law_J2015 L xs v4 S
noncomputable def m_L_law_J474 (L : Nat) (xs : Nat → Int32) (v4 : Int32) (v5 : Int32) (w0 : Int32) (w1 : Int32) (w2 : Int32) (S : Hs) : Option ((Int32 × Hs) ⊕ (Hs ⊕ (Int32 × Hs))) := bndE (m_X6_rights w2 w1 w0 S) fun r474 S474 => ((m_X6_thrown  S474).bind fun r480 => (if r480 = v5 then (if v5 = 0 then (gd (inb 0 1) (if (lg_cmp (gO S474 (0 : Int32).toNatClampNeg) r474.toInt64) = 0 then (m_L_law_J507 L xs v4 S474) else (some (.inr (.inr ((0, S474))))))) else (m_L_law_J507 L xs v4 S474)) else (some (.inr (.inr ((0, S474)))))))
noncomputable def m_L_law_J441 (L : Nat) (xs : Nat → Int32) (v4 : Int32) (w0 : Int32) (w1 : Int32) (w2 : Int32) (S : Hs) : Option ((Int32 × Hs) ⊕ (Hs ⊕ (Int32 × Hs))) := bndE (m_L_rights w2 w1 w0 S) fun r442 S442 => (gd (inb (v4 + 1) L) (gd (inb (v4 + 2) L) (gd (inb (v4 + 3) L) (if (xs (v4 + 3).toNatClampNeg) = 0 then (m_L_law_J474 L xs v4 r442 0 (xs (v4 + 2).toNatClampNeg) (xs (v4 + 1).toNatClampNeg) S442) else (m_L_law_J474 L xs v4 r442 1 (xs (v4 + 2).toNatClampNeg) (xs (v4 + 1).toNatClampNeg) S442)))))
def m_L_law_J587 (L : Nat) (xs : Nat → Int32) (v4 : Int32) (S : Hs) : Option ((Int32 × Hs) ⊕ (Hs ⊕ (Int32 × Hs))) := m_L_law_J2015 L xs v4 S
def m_L_law_J667 (L : Nat) (xs : Nat → Int32) (v4 : Int32) (S : Hs) : Option ((Int32 × Hs) ⊕ (Hs ⊕ (Int32 × Hs))) := m_L_law_J2015 L xs v4 S
def m_L_law_J747 (L : Nat) (xs : Nat → Int32) (v4 : Int32) (S : Hs) : Option ((Int32 × Hs) ⊕ (Hs ⊕ (Int32 × Hs))) := m_L_law_J2015 L xs v4 S
def m_L_law_J819 (L : Nat) (xs : Nat → Int32) (v4 : Int32) (S : Hs) : Option ((Int32 × Hs) ⊕ (Hs ⊕ (Int32 × Hs))) := m_L_law_J2015 L xs v4 S
noncomputable def m_L_law_J786 (L : Nat) (xs : Nat → Int32) (v4 : Int32) (v5 : Int32) (w0 : Int32) (S : Hs) : Option ((Int32 × Hs) ⊕ (Hs ⊕ (Int32 × Hs))) := bndE (m_X6_addThing w0 S) fun r786 S786 => ((m_X6_thrown  S786).bind fun r792 => (if r792 = v5 then (if v5 = 0 then (gd (inb 0 1) (if (lg_cmp (gO S786 (0 : Int32).toNatClampNeg) r786.toInt64) = 0 then (m_L_law_J819 L xs v4 S786) else (some (.inr (.inr ((0, S786))))))) else (m_L_law_J819 L xs v4 S786)) else (some (.inr (.inr ((0, S786)))))))
noncomputable def m_L_law_J765 (L : Nat) (xs : Nat → Int32) (v4 : Int32) (w0 : Int32) (S : Hs) : Option ((Int32 × Hs) ⊕ (Hs ⊕ (Int32 × Hs))) := bndE (m_L_addThing w0 S) fun r766 S766 => (gd (inb (v4 + 1) L) (if (xs (v4 + 1).toNatClampNeg) = 0 then (m_L_law_J786 L xs v4 r766 0 S766) else (m_L_law_J786 L xs v4 r766 1 S766)))
def m_L_law_J875 (L : Nat) (xs : Nat → Int32) (v4 : Int32) (S : Hs) : Option ((Int32 × Hs) ⊕ (Hs ⊕ (Int32 × Hs))) := m_L_law_J2015 L xs v4 S
def m_L_law_J959 (L : Nat) (xs : Nat → Int32) (v4 : Int32) (S : Hs) : Option ((Int32 × Hs) ⊕ (Hs ⊕ (Int32 × Hs))) := m_L_law_J2015 L xs v4 S
noncomputable def m_L_law_J926 (L : Nat) (xs : Nat → Int32) (v4 : Int32) (v5 : Int32) (w0 : Int32) (w1 : Int32) (S : Hs) : Option ((Int32 × Hs) ⊕ (Hs ⊕ (Int32 × Hs))) := bndE (m_X6_wake w1 w0 S) fun r926 S926 => ((m_X6_thrown  S926).bind fun r932 => (if r932 = v5 then (if v5 = 0 then (gd (inb 0 1) (if (lg_cmp (gO S926 (0 : Int32).toNatClampNeg) r926.toInt64) = 0 then (m_L_law_J959 L xs v4 S926) else (some (.inr (.inr ((0, S926))))))) else (m_L_law_J959 L xs v4 S926)) else (some (.inr (.inr ((0, S926)))))))
noncomputable def m_L_law_J899 (L : Nat) (xs : Nat → Int32) (v4 : Int32) (w0 : Int32) (w1 : Int32) (S : Hs) : Option ((Int32 × Hs) ⊕ (Hs ⊕ (Int32 × Hs))) := bndE (m_L_wake w1 w0 S) fun r900 S900 => (gd (inb (v4 + 1) L) (gd (inb (v4 + 2) L) (if (xs (v4 + 2).toNatClampNeg) = 0 then (m_L_law_J926 L xs v4 r900 0 (xs (v4 + 1).toNatClampNeg) S900) else (m_L_law_J926 L xs v4 r900 1 (xs (v4 + 1).toNatClampNeg) S900))))
def m_L_law_J1074 (L : Nat) (xs : Nat → Int32) (v4 : Int32) (S : Hs) : Option ((Int32 × Hs) ⊕ (Hs ⊕ (Int32 × Hs))) := m_L_law_J2015 L xs v4 S
def m_L_law_J1068 (L : Nat) (xs : Nat → Int32) (v4 : Int32) (w0 : Int64) (w1 : Int64) (S : Hs) : Option ((Int32 × Hs) ⊕ (Hs ⊕ (Int32 × Hs))) := if (lg_cmp w1 w0) = 0 then (m_L_law_J1074 L xs v4 S) else (some (.inr (.inr ((0, S)))))
noncomputable def m_L_law_J1034 (L : Nat) (xs : Nat → Int32) (v4 : Int32) (v5 : Int32) (w0 : Int32) (w1 : Int32) (w2 : Int32) (w3 : Int32) (S : Hs) : Option ((Int32 × Hs) ⊕ (Hs ⊕ (Int32 × Hs))) := bndE (m_X6_set w3 w2 w1 w0 S) fun r1034 S1034 => ((m_X6_thrown  S1034).bind fun r1040 => (if r1040 = v5 then (if v5 = 0 then (gd (inb 0 1) (if r1034 = 0 then (m_L_law_J1068 L xs v4 0 (gO S1034 (0 : Int32).toNatClampNeg) S1034) else (m_L_law_J1068 L xs v4 1 (gO S1034 (0 : Int32).toNatClampNeg) S1034))) else (m_L_law_J1074 L xs v4 S1034)) else (some (.inr (.inr ((0, S1034)))))))
noncomputable def m_L_law_J995 (L : Nat) (xs : Nat → Int32) (v4 : Int32) (w0 : Int32) (w1 : Int32) (w2 : Int32) (w3 : Int32) (S : Hs) : Option ((Int32 × Hs) ⊕ (Hs ⊕ (Int32 × Hs))) := bndE (m_L_set w3 w2 w1 w0 S) fun r996 S996 => (gd (inb (v4 + 1) L) (gd (inb (v4 + 2) L) (gd (inb (v4 + 3) L) (gd (inb (v4 + 4) L) (if (xs (v4 + 4).toNatClampNeg) = 0 then (m_L_law_J1034 L xs v4 r996 0 (xs (v4 + 3).toNatClampNeg) (xs (v4 + 2).toNatClampNeg) (xs (v4 + 1).toNatClampNeg) S996) else (m_L_law_J1034 L xs v4 r996 1 (xs (v4 + 3).toNatClampNeg) (xs (v4 + 2).toNatClampNeg) (xs (v4 + 1).toNatClampNeg) S996))))))
def m_L_law_J1166 (L : Nat) (xs : Nat → Int32) (v4 : Int32) (S : Hs) : Option ((Int32 × Hs) ⊕ (Hs ⊕ (Int32 × Hs))) := m_L_law_J2015 L xs v4 S
def m_L_law_J1258 (L : Nat) (xs : Nat → Int32) (v4 : Int32) (S : Hs) : Option ((Int32 × Hs) ⊕ (Hs ⊕ (Int32 × Hs))) := m_L_law_J2015 L xs v4 S
def m_L_law_J1302 (L : Nat) (xs : Nat → Int32) (v4 : Int32) (S : Hs) : Option ((Int32 × Hs) ⊕ (Hs ⊕ (Int32 × Hs))) := m_L_law_J2015 L xs v4 S
def m_L_law_J1422 (L : Nat) (xs : Nat → Int32) (v4 : Int32) (S : Hs) : Option ((Int32 × Hs) ⊕ (Hs ⊕ (Int32 × Hs))) := m_L_law_J2015 L xs v4 S
def m_L_law_J1365 (L : Nat) (xs : Nat → Int32) (v4 : Int32) (v5 : Int32) (w0 : Int32) (S : Hs) : Option ((Int32 × Hs) ⊕ (Hs ⊕ (Int32 × Hs))) := gd (inb (v4 + 2) L) (gd (inb (v4 + 3) L) (gd (inb (v4 + 4) L) (gd (inb (v4 + 5) L) (bndE (m_X6_whyNot w0 (xs (v4 + 2).toNatClampNeg) (xs (v4 + 3).toNatClampNeg) (xs (v4 + 4).toNatClampNeg) (xs (v4 + 5).toNatClampNeg) S) fun r1389 S1389 => ((m_X6_thrown  S1389).bind fun r1395 => (if r1395 = v5 then (if v5 = 0 then (gd (inb 0 1) (if (lg_cmp (gO S1389 (0 : Int32).toNatClampNeg) r1389.toInt64) = 0 then (m_L_law_J1422 L xs v4 S1389) else (some (.inr (.inr ((0, S1389))))))) else (m_L_law_J1422 L xs v4 S1389)) else (some (.inr (.inr ((0, S1389)))))))))))
def m_L_law_J1320 (L : Nat) (xs : Nat → Int32) (v4 : Int32) (w0 : Int32) (S : Hs) : Option ((Int32 × Hs) ⊕ (Hs ⊕ (Int32 × Hs))) := gd (inb (v4 + 2) L) (gd (inb (v4 + 3) L) (gd (inb (v4 + 4) L) (gd (inb (v4 + 5) L) (bndE (m_L_whyNot w0 (xs (v4 + 2).toNatClampNeg) (xs (v4 + 3).toNatClampNeg) (xs (v4 + 4).toNatClampNeg) (xs (v4 + 5).toNatClampNeg) S) fun r1345 S1345 => (gd (inb (v4 + 1) L) (if (xs (v4 + 1).toNatClampNeg) = 0 then (m_L_law_J1365 L xs v4 r1345 0 S1345) else (m_L_law_J1365 L xs v4 r1345 1 S1345)))))))
def m_L_law_J1502 (L : Nat) (xs : Nat → Int32) (v4 : Int32) (S : Hs) : Option ((Int32 × Hs) ⊕ (Hs ⊕ (Int32 × Hs))) := m_L_law_J2015 L xs v4 S
def m_L_law_J1582 (L : Nat) (xs : Nat → Int32) (v4 : Int32) (S : Hs) : Option ((Int32 × Hs) ⊕ (Hs ⊕ (Int32 × Hs))) := m_L_law_J2015 L xs v4 S
def m_L_law_J1674 (L : Nat) (xs : Nat → Int32) (v4 : Int32) (S : Hs) : Option ((Int32 × Hs) ⊕ (Hs ⊕ (Int32 × Hs))) := m_L_law_J2015 L xs v4 S
def m_L_law_J1800 (L : Nat) (xs : Nat → Int32) (v4 : Int32) (S : Hs) : Option ((Int32 × Hs) ⊕ (Hs ⊕ (Int32 × Hs))) := m_L_law_J2015 L xs v4 S
def m_L_law_J1900 (L : Nat) (xs : Nat → Int32) (v4 : Int32) (S : Hs) : Option ((Int32 × Hs) ⊕ (Hs ⊕ (Int32 × Hs))) := m_L_law_J2015 L xs v4 S
def m_L_law_J1956 (L : Nat) (xs : Nat → Int32) (v4 : Int32) (S : Hs) : Option ((Int32 × Hs) ⊕ (Hs ⊕ (Int32 × Hs))) := m_L_law_J2015 L xs v4 S
def m_L_law_J2012 (L : Nat) (xs : Nat → Int32) (v4 : Int32) (S : Hs) : Option ((Int32 × Hs) ⊕ (Hs ⊕ (Int32 × Hs))) := m_L_law_J2015 L xs v4 S
noncomputable def m_L_turn (L : Nat) (xs : Nat → Int32) (v4 : Int32) (S : Hs) : Option ((Int32 × Hs) ⊕ (Hs ⊕ (Int32 × Hs))) := if ((Int32.ofNat L) - 6) < v4 then (some (.inr (.inl S))) else (gd (inb v4 L) (if ((xs v4.toNatClampNeg) &&& 31) = 0 then (gd (inb (v4 + 1) L) (bndE (m_L_append (xs (v4 + 1).toNatClampNeg) S) fun r172 S172 => (gd (inb (v4 + 1) L) (bndE (m_X6_append (xs (v4 + 1).toNatClampNeg) S172) fun r184 S184 => ((m_X6_thrown  S184).bind fun r190 => (if r190 = r172 then (if r172 = 0 then (gd (inb 0 1) (if (lg_cmp (gO S184 (0 : Int32).toNatClampNeg) r184.toInt64) = 0 then (m_L_law_J217 L xs v4 S184) else (some (.inr (.inr ((0, S184))))))) else (m_L_law_J217 L xs v4 S184)) else (some (.inr (.inr ((0, S184))))))))))) else (if ((xs v4.toNatClampNeg) &&& 31) = 1 then (bndE (m_X5_clearText  S) fun r221 S221 => (bndE (m_X6_clearText  S221) fun r225 S225 => (if r221 = r225 then (m_L_law_J2015 L xs v4 S225) else (some (.inr (.inr ((0, S225)))))))) else (if ((xs v4.toNatClampNeg) &&& 31) = 2 then (bndE (m_X5_errorPosition  S) fun r234 S234 => (bndE (m_X6_errorPosition  S234) fun r238 S238 => (if r234 = r238 then (m_L_law_J2015 L xs v4 S238) else (some (.inr (.inr ((0, S238)))))))) else (if ((xs v4.toNatClampNeg) &&& 31) = 3 then (bndE (m_L_load  S) fun r248 S248 => (bndE (m_X6_load  S248) fun r254 S254 => ((m_X6_thrown  S254).bind fun r260 => (if r260 = r248 then (if r248 = 0 then (gd (inb 0 1) (if (lg_cmp (gO S254 (0 : Int32).toNatClampNeg) r254.toInt64) = 0 then (m_L_law_J287 L xs v4 S254) else (some (.inr (.inr ((0, S254))))))) else (m_L_law_J287 L xs v4 S254)) else (some (.inr (.inr ((0, S254))))))))) else (if ((xs v4.toNatClampNeg) &&& 31) = 4 then (gd (inb (v4 + 1) L) (bndE (m_L_about (xs (v4 + 1).toNatClampNeg) S) fun r298 S298 => (gd (inb (v4 + 1) L) (bndE (m_X6_about (xs (v4 + 1).toNatClampNeg) S298) fun r310 S310 => ((m_X6_thrown  S310).bind fun r316 => (if r316 = r298 then (if r298 = 0 then (gd (inb 0 1) (if (lg_cmp (gO S310 (0 : Int32).toNatClampNeg) r310.toInt64) = 0 then (m_L_law_J343 L xs v4 S310) else (some (.inr (.inr ((0, S310))))))) else (m_L_law_J343 L xs v4 S310)) else (some (.inr (.inr ((0, S310))))))))))) else (if ((xs v4.toNatClampNeg) &&& 31) = 5 then (gd (inb (v4 + 1) L) (gd (inb (v4 + 2) L) (bndE (m_L_thing (xs (v4 + 1).toNatClampNeg) (xs (v4 + 2).toNatClampNeg) S) fun r360 S360 => (gd (inb (v4 + 1) L) (gd (inb (v4 + 2) L) (bndE (m_X6_thing (xs (v4 + 1).toNatClampNeg) (xs (v4 + 2).toNatClampNeg) S360) fun r378 S378 => ((m_X6_thrown  S378).bind fun r384 => (if r384 = r360 then (if r360 = 0 then (gd (inb 0 1) (if (lg_cmp (gO S378 (0 : Int32).toNatClampNeg) r378.toInt64) = 0 then (m_L_law_J411 L xs v4 S378) else (some (.inr (.inr ((0, S378))))))) else (m_L_law_J411 L xs v4 S378)) else (some (.inr (.inr ((0, S378))))))))))))) else (if ((xs v4.toNatClampNeg) &&& 31) = 6 then (gd (inb (v4 + 1) L) (gd (inb (v4 + 2) L) (gd (inb (v4 + 3) L) (if (xs (v4 + 3).toNatClampNeg) = 0 then (m_L_law_J441 L xs v4 0 (xs (v4 + 2).toNatClampNeg) (xs (v4 + 1).toNatClampNeg) S) else (m_L_law_J441 L xs v4 1 (xs (v4 + 2).toNatClampNeg) (xs (v4 + 1).toNatClampNeg) S))))) else (if ((xs v4.toNatClampNeg) &&& 31) = 7 then (gd (inb (v4 + 1) L) (gd (inb (v4 + 2) L) (gd (inb (v4 + 3) L) (bndE (m_L_round (xs (v4 + 1).toNatClampNeg) (xs (v4 + 2).toNatClampNeg) (xs (v4 + 3).toNatClampNeg) S) fun r530 S530 => (gd (inb (v4 + 1) L) (gd (inb (v4 + 2) L) (gd (inb (v4 + 3) L) (bndE (m_X6_round (xs (v4 + 1).toNatClampNeg) (xs (v4 + 2).toNatClampNeg) (xs (v4 + 3).toNatClampNeg) S530) fun r554 S554 => ((m_X6_thrown  S554).bind fun r560 => (if r560 = r530 then (if r530 = 0 then (gd (inb 0 1) (if (lg_cmp (gO S554 (0 : Int32).toNatClampNeg) r554.toInt64) = 0 then (m_L_law_J587 L xs v4 S554) else (some (.inr (.inr ((0, S554))))))) else (m_L_law_J587 L xs v4 S554)) else (some (.inr (.inr ((0, S554))))))))))))))) else (if ((xs v4.toNatClampNeg) &&& 31) = 8 then (gd (inb (v4 + 1) L) (gd (inb (v4 + 2) L) (gd (inb (v4 + 3) L) (bndE (m_L_way (xs (v4 + 1).toNatClampNeg) (xs (v4 + 2).toNatClampNeg) (xs (v4 + 3).toNatClampNeg) S) fun r610 S610 => (gd (inb (v4 + 1) L) (gd (inb (v4 + 2) L) (gd (inb (v4 + 3) L) (bndE (m_X6_way (xs (v4 + 1).toNatClampNeg) (xs (v4 + 2).toNatClampNeg) (xs (v4 + 3).toNatClampNeg) S610) fun r634 S634 => ((m_X6_thrown  S634).bind fun r640 => (if r640 = r610 then (if r610 = 0 then (gd (inb 0 1) (if (lg_cmp (gO S634 (0 : Int32).toNatClampNeg) r634.toInt64) = 0 then (m_L_law_J667 L xs v4 S634) else (some (.inr (.inr ((0, S634))))))) else (m_L_law_J667 L xs v4 S634)) else (some (.inr (.inr ((0, S634))))))))))))))) else (if ((xs v4.toNatClampNeg) &&& 31) = 9 then (gd (inb (v4 + 1) L) (gd (inb (v4 + 2) L) (gd (inb (v4 + 3) L) (bndE (m_L_proof (xs (v4 + 1).toNatClampNeg) (xs (v4 + 2).toNatClampNeg) (xs (v4 + 3).toNatClampNeg) S) fun r690 S690 => (gd (inb (v4 + 1) L) (gd (inb (v4 + 2) L) (gd (inb (v4 + 3) L) (bndE (m_X6_proof (xs (v4 + 1).toNatClampNeg) (xs (v4 + 2).toNatClampNeg) (xs (v4 + 3).toNatClampNeg) S690) fun r714 S714 => ((m_X6_thrown  S714).bind fun r720 => (if r720 = r690 then (if r690 = 0 then (gd (inb 0 1) (if (lg_cmp (gO S714 (0 : Int32).toNatClampNeg) r714.toInt64) = 0 then (m_L_law_J747 L xs v4 S714) else (some (.inr (.inr ((0, S714))))))) else (m_L_law_J747 L xs v4 S714)) else (some (.inr (.inr ((0, S714))))))))))))))) else (if ((xs v4.toNatClampNeg) &&& 31) = 10 then (gd (inb (v4 + 1) L) (if (xs (v4 + 1).toNatClampNeg) = 0 then (m_L_law_J765 L xs v4 0 S) else (m_L_law_J765 L xs v4 1 S))) else (if ((xs v4.toNatClampNeg) &&& 31) = 11 then (gd (inb (v4 + 1) L) (bndE (m_L_removeThing (xs (v4 + 1).toNatClampNeg) S) fun r830 S830 => (gd (inb (v4 + 1) L) (bndE (m_X6_removeThing (xs (v4 + 1).toNatClampNeg) S830) fun r842 S842 => ((m_X6_thrown  S842).bind fun r848 => (if r848 = r830 then (if r830 = 0 then (gd (inb 0 1) (if (lg_cmp (gO S842 (0 : Int32).toNatClampNeg) r842.toInt64) = 0 then (m_L_law_J875 L xs v4 S842) else (some (.inr (.inr ((0, S842))))))) else (m_L_law_J875 L xs v4 S842)) else (some (.inr (.inr ((0, S842))))))))))) else (if ((xs v4.toNatClampNeg) &&& 31) = 12 then (gd (inb (v4 + 1) L) (gd (inb (v4 + 2) L) (if (xs (v4 + 2).toNatClampNeg) = 0 then (m_L_law_J899 L xs v4 0 (xs (v4 + 1).toNatClampNeg) S) else (m_L_law_J899 L xs v4 1 (xs (v4 + 1).toNatClampNeg) S)))) else (if ((xs v4.toNatClampNeg) &&& 31) = 13 then (gd (inb (v4 + 1) L) (gd (inb (v4 + 2) L) (gd (inb (v4 + 3) L) (gd (inb (v4 + 4) L) (if (xs (v4 + 4).toNatClampNeg) = 0 then (m_L_law_J995 L xs v4 0 (xs (v4 + 3).toNatClampNeg) (xs (v4 + 2).toNatClampNeg) (xs (v4 + 1).toNatClampNeg) S) else (m_L_law_J995 L xs v4 1 (xs (v4 + 3).toNatClampNeg) (xs (v4 + 2).toNatClampNeg) (xs (v4 + 1).toNatClampNeg) S)))))) else (if ((xs v4.toNatClampNeg) &&& 31) = 14 then (gd (inb (v4 + 1) L) (gd (inb (v4 + 2) L) (gd (inb (v4 + 3) L) (gd (inb (v4 + 4) L) (bndE (m_L_take (xs (v4 + 1).toNatClampNeg) (xs (v4 + 2).toNatClampNeg) (xs (v4 + 3).toNatClampNeg) (xs (v4 + 4).toNatClampNeg) S) fun r1103 S1103 => (gd (inb (v4 + 1) L) (gd (inb (v4 + 2) L) (gd (inb (v4 + 3) L) (gd (inb (v4 + 4) L) (bndE (m_X6_take (xs (v4 + 1).toNatClampNeg) (xs (v4 + 2).toNatClampNeg) (xs (v4 + 3).toNatClampNeg) (xs (v4 + 4).toNatClampNeg) S1103) fun r1133 S1133 => ((m_X6_thrown  S1133).bind fun r1139 => (if r1139 = r1103 then (if r1103 = 0 then (gd (inb 0 1) (if (lg_cmp (gO S1133 (0 : Int32).toNatClampNeg) r1133.toInt64) = 0 then (m_L_law_J1166 L xs v4 S1133) else (some (.inr (.inr ((0, S1133))))))) else (m_L_law_J1166 L xs v4 S1133)) else (some (.inr (.inr ((0, S1133))))))))))))))))) else (if ((xs v4.toNatClampNeg) &&& 31) = 15 then (gd (inb (v4 + 1) L) (gd (inb (v4 + 2) L) (gd (inb (v4 + 3) L) (gd (inb (v4 + 4) L) (bndE (m_L_give (xs (v4 + 1).toNatClampNeg) (xs (v4 + 2).toNatClampNeg) (xs (v4 + 3).toNatClampNeg) (xs (v4 + 4).toNatClampNeg) S) fun r1195 S1195 => (gd (inb (v4 + 1) L) (gd (inb (v4 + 2) L) (gd (inb (v4 + 3) L) (gd (inb (v4 + 4) L) (bndE (m_X6_give (xs (v4 + 1).toNatClampNeg) (xs (v4 + 2).toNatClampNeg) (xs (v4 + 3).toNatClampNeg) (xs (v4 + 4).toNatClampNeg) S1195) fun r1225 S1225 => ((m_X6_thrown  S1225).bind fun r1231 => (if r1231 = r1195 then (if r1195 = 0 then (gd (inb 0 1) (if (lg_cmp (gO S1225 (0 : Int32).toNatClampNeg) r1225.toInt64) = 0 then (m_L_law_J1258 L xs v4 S1225) else (some (.inr (.inr ((0, S1225))))))) else (m_L_law_J1258 L xs v4 S1225)) else (some (.inr (.inr ((0, S1225))))))))))))))))) else (if ((xs v4.toNatClampNeg) &&& 31) = 16 then (bndE (m_L_undo  S) fun r1263 S1263 => (bndE (m_X6_undo  S1263) fun r1269 S1269 => ((m_X6_thrown  S1269).bind fun r1275 => (if r1275 = r1263 then (if r1263 = 0 then (gd (inb 0 1) (if (lg_cmp (gO S1269 (0 : Int32).toNatClampNeg) r1269.toInt64) = 0 then (m_L_law_J1302 L xs v4 S1269) else (some (.inr (.inr ((0, S1269))))))) else (m_L_law_J1302 L xs v4 S1269)) else (some (.inr (.inr ((0, S1269))))))))) else (if ((xs v4.toNatClampNeg) &&& 31) = 17 then (gd (inb (v4 + 1) L) (if (xs (v4 + 1).toNatClampNeg) = 0 then (m_L_law_J1320 L xs v4 0 S) else (m_L_law_J1320 L xs v4 1 S))) else (if ((xs v4.toNatClampNeg) &&& 31) = 18 then (gd (inb (v4 + 1) L) (gd (inb (v4 + 2) L) (gd (inb (v4 + 3) L) (bndE (m_L_needed (xs (v4 + 1).toNatClampNeg) (xs (v4 + 2).toNatClampNeg) (xs (v4 + 3).toNatClampNeg) S) fun r1445 S1445 => (gd (inb (v4 + 1) L) (gd (inb (v4 + 2) L) (gd (inb (v4 + 3) L) (bndE (m_X6_needed (xs (v4 + 1).toNatClampNeg) (xs (v4 + 2).toNatClampNeg) (xs (v4 + 3).toNatClampNeg) S1445) fun r1469 S1469 => ((m_X6_thrown  S1469).bind fun r1475 => (if r1475 = r1445 then (if r1445 = 0 then (gd (inb 0 1) (if (lg_cmp (gO S1469 (0 : Int32).toNatClampNeg) r1469.toInt64) = 0 then (m_L_law_J1502 L xs v4 S1469) else (some (.inr (.inr ((0, S1469))))))) else (m_L_law_J1502 L xs v4 S1469)) else (some (.inr (.inr ((0, S1469))))))))))))))) else (if ((xs v4.toNatClampNeg) &&& 31) = 19 then (gd (inb (v4 + 1) L) (gd (inb (v4 + 2) L) (gd (inb (v4 + 3) L) (bndE (m_L_cut (xs (v4 + 1).toNatClampNeg) (xs (v4 + 2).toNatClampNeg) (xs (v4 + 3).toNatClampNeg) S) fun r1525 S1525 => (gd (inb (v4 + 1) L) (gd (inb (v4 + 2) L) (gd (inb (v4 + 3) L) (bndE (m_X6_cut (xs (v4 + 1).toNatClampNeg) (xs (v4 + 2).toNatClampNeg) (xs (v4 + 3).toNatClampNeg) S1525) fun r1549 S1549 => ((m_X6_thrown  S1549).bind fun r1555 => (if r1555 = r1525 then (if r1525 = 0 then (gd (inb 0 1) (if (lg_cmp (gO S1549 (0 : Int32).toNatClampNeg) r1549.toInt64) = 0 then (m_L_law_J1582 L xs v4 S1549) else (some (.inr (.inr ((0, S1549))))))) else (m_L_law_J1582 L xs v4 S1549)) else (some (.inr (.inr ((0, S1549))))))))))))))) else (if ((xs v4.toNatClampNeg) &&& 31) = 20 then (gd (inb (v4 + 1) L) (gd (inb (v4 + 2) L) (gd (inb (v4 + 3) L) (gd (inb (v4 + 4) L) (bndE (m_L_cutAt (xs (v4 + 1).toNatClampNeg) (xs (v4 + 2).toNatClampNeg) (xs (v4 + 3).toNatClampNeg) (xs (v4 + 4).toNatClampNeg) S) fun r1611 S1611 => (gd (inb (v4 + 1) L) (gd (inb (v4 + 2) L) (gd (inb (v4 + 3) L) (gd (inb (v4 + 4) L) (bndE (m_X6_cutAt (xs (v4 + 1).toNatClampNeg) (xs (v4 + 2).toNatClampNeg) (xs (v4 + 3).toNatClampNeg) (xs (v4 + 4).toNatClampNeg) S1611) fun r1641 S1641 => ((m_X6_thrown  S1641).bind fun r1647 => (if r1647 = r1611 then (if r1611 = 0 then (gd (inb 0 1) (if (lg_cmp (gO S1641 (0 : Int32).toNatClampNeg) r1641.toInt64) = 0 then (m_L_law_J1674 L xs v4 S1641) else (some (.inr (.inr ((0, S1641))))))) else (m_L_law_J1674 L xs v4 S1641)) else (some (.inr (.inr ((0, S1641))))))))))))))))) else (if ((xs v4.toNatClampNeg) &&& 31) = 21 then (bndE (m_X5_sleeper  S) fun r1678 S1678 => (bndE (m_X6_sleeper  S1678) fun r1682 S1682 => (if r1678 = r1682 then (m_L_law_J2015 L xs v4 S1682) else (some (.inr (.inr ((0, S1682)))))))) else (if ((xs v4.toNatClampNeg) &&& 31) = 22 then (bndE (m_X5_danger  S) fun r1691 S1691 => (bndE (m_X6_danger  S1691) fun r1695 S1695 => (if r1691 = r1695 then (m_L_law_J2015 L xs v4 S1695) else (some (.inr (.inr ((0, S1695)))))))) else (if ((xs v4.toNatClampNeg) &&& 31) = 23 then (gd (inb (v4 + 1) L) (gd (inb (v4 + 2) L) (gd (inb (v4 + 3) L) (bndE (m_L_runScript (xs (v4 + 1).toNatClampNeg) ((lshl ((xs (v4 + 2).toNatClampNeg).toInt64) 32) ||| (((xs (v4 + 3).toNatClampNeg).toInt64) &&& 4294967295)) S) fun r1733 S1733 => (gd (inb (v4 + 1) L) (gd (inb (v4 + 2) L) (gd (inb (v4 + 3) L) (bndE (m_X6_runScript (xs (v4 + 1).toNatClampNeg) ((lshl ((xs (v4 + 2).toNatClampNeg).toInt64) 32) ||| (((xs (v4 + 3).toNatClampNeg).toInt64) &&& 4294967295)) S1733) fun r1767 S1767 => ((m_X6_thrown  S1767).bind fun r1773 => (if r1773 = r1733 then (if r1733 = 0 then (gd (inb 0 1) (if (lg_cmp (gO S1767 (0 : Int32).toNatClampNeg) r1767.toInt64) = 0 then (m_L_law_J1800 L xs v4 S1767) else (some (.inr (.inr ((0, S1767))))))) else (m_L_law_J1800 L xs v4 S1767)) else (some (.inr (.inr ((0, S1767))))))))))))))) else (if ((xs v4.toNatClampNeg) &&& 31) = 24 then (gd (inb (v4 + 1) L) (gd (inb (v4 + 2) L) (gd (inb (v4 + 3) L) (bndE (m_L_simulate ((lshl ((xs (v4 + 1).toNatClampNeg).toInt64) 32) ||| (((xs (v4 + 2).toNatClampNeg).toInt64) &&& 4294967295)) (xs (v4 + 3).toNatClampNeg) S) fun r1833 S1833 => (gd (inb (v4 + 1) L) (gd (inb (v4 + 2) L) (gd (inb (v4 + 3) L) (bndE (m_X6_simulate ((lshl ((xs (v4 + 1).toNatClampNeg).toInt64) 32) ||| (((xs (v4 + 2).toNatClampNeg).toInt64) &&& 4294967295)) (xs (v4 + 3).toNatClampNeg) S1833) fun r1867 S1867 => ((m_X6_thrown  S1867).bind fun r1873 => (if r1873 = r1833 then (if r1833 = 0 then (gd (inb 0 1) (if (lg_cmp (gO S1867 (0 : Int32).toNatClampNeg) r1867.toInt64) = 0 then (m_L_law_J1900 L xs v4 S1867) else (some (.inr (.inr ((0, S1867))))))) else (m_L_law_J1900 L xs v4 S1867)) else (some (.inr (.inr ((0, S1867))))))))))))))) else (if ((xs v4.toNatClampNeg) &&& 31) = 25 then (gd (inb (v4 + 1) L) (bndE (m_L_save (xs (v4 + 1).toNatClampNeg) S) fun r1911 S1911 => (gd (inb (v4 + 1) L) (bndE (m_X6_save (xs (v4 + 1).toNatClampNeg) S1911) fun r1923 S1923 => ((m_X6_thrown  S1923).bind fun r1929 => (if r1929 = r1911 then (if r1911 = 0 then (gd (inb 0 1) (if (lg_cmp (gO S1923 (0 : Int32).toNatClampNeg) r1923.toInt64) = 0 then (m_L_law_J1956 L xs v4 S1923) else (some (.inr (.inr ((0, S1923))))))) else (m_L_law_J1956 L xs v4 S1923)) else (some (.inr (.inr ((0, S1923))))))))))) else (if ((xs v4.toNatClampNeg) &&& 31) = 26 then (gd (inb (v4 + 1) L) (bndE (m_L_restore (xs (v4 + 1).toNatClampNeg) S) fun r1967 S1967 => (gd (inb (v4 + 1) L) (bndE (m_X6_restore (xs (v4 + 1).toNatClampNeg) S1967) fun r1979 S1979 => ((m_X6_thrown  S1979).bind fun r1985 => (if r1985 = r1967 then (if r1967 = 0 then (gd (inb 0 1) (if (lg_cmp (gO S1979 (0 : Int32).toNatClampNeg) r1979.toInt64) = 0 then (m_L_law_J2012 L xs v4 S1979) else (some (.inr (.inr ((0, S1979))))))) else (m_L_law_J2012 L xs v4 S1979)) else (some (.inr (.inr ((0, S1979))))))))))) else (m_L_law_J2015 L xs v4 S)))))))))))))))))))))))))))))
set_option maxRecDepth 100000 in
set_option maxHeartbeats 40000000 in
theorem law_turn {p : Program} {l : Launch} {e : Env} {s : State} {m : MethodId} {args : Array Value} {below : List Frame} {meth : Method} {c : Code} {g : GG} {A : Nat → Prop} {Q : State → Prop} {cc0 ss0 : Nat} {ret0 : Option FieldType} {b L : Nat} {xs : Nat → Int32} (hst : l.stackTraces = false) (hg : Inj g) (F : Fx p s m meth c cL_law RL 7 ret0 g A) {hh : List (Nat × Nat × Nat × Nat)} (FT : FT9 l s c A hh) (hX : va_X b L xs s s.heap) (hbl : b < s.heap.size) (hbA : ¬ A b) (hcc : cc0 + 1 ≤ 601024 ∧ ss0 + 6 ≤ 7293034) (v4 w : Int32) (S S' : Hs) (hm : m_L_turn L xs v4 S = some (.inl (w, S'))) (hk1 : J p l e room_1 s m args below meth c g A 7 Q (cc0 + 1) (ss0 + 6) 23 [(0, .ref b), (1, .ref (g.2.1 0)), (2, .ref (g.2.1 13)), (3, .ref (g.2.1 28)), (4, .int w)] [] S') : J p l e room_1 s m args below meth c g A 7 Q cc0 ss0 23 [(0, .ref b), (1, .ref (g.2.1 0)), (2, .ref (g.2.1 13)), (3, .ref (g.2.1 28)), (4, .int v4)] [] S := by
  unfold m_L_turn at hm
  have hj2015 : ∀ (v4 : Int32) (S : Hs), m_L_law_J2015 L xs v4 S = some ((.inl (w, S'))) → J p l e room_1 s m args below meth c g A 7 Q (cc0 + 1) (ss0 + 6) 2015 [(0, .ref b), (1, .ref (g.2.1 0)), (2, .ref (g.2.1 13)), (3, .ref (g.2.1 28)), (4, .int v4)] [] S := by
    intro v4 S hm
    unfold m_L_law_J2015 at hm
    refine j_iinc F (v := v4 + 6) (lv' := [(4, .int (v4 + 6)), (0, .ref b), (1, .ref (g.2.1 0)), (2, .ref (g.2.1 13)), (3, .ref (g.2.1 28))]) 4 dL_law_2015 rfl rfl (by decide) rfl ?_
    refine j_goto F (tgt := 23) dL_law_2018 (by decide) ?_
    cases hm
    refine j_sub [1, 2, 3, 4, 0] rfl ?_
    exact hk1
  have hj217 : ∀ (v4 : Int32) (S : Hs), m_L_law_J217 L xs v4 S = some ((.inl (w, S'))) → J p l e room_1 s m args below meth c g A 7 Q (cc0 + 1) (ss0 + 6) 217 [(0, .ref b), (1, .ref (g.2.1 0)), (2, .ref (g.2.1 13)), (3, .ref (g.2.1 28)), (4, .int v4)] [] S := by
    intro v4 S hm
    unfold m_L_law_J217 at hm
    refine j_goto F (tgt := 2015) dL_law_217 (by decide) ?_
    refine j_sub [0, 1, 2, 3, 4] rfl ?_
    exact hj2015 v4 S  hm
  have hj287 : ∀ (v4 : Int32) (S : Hs), m_L_law_J287 L xs v4 S = some ((.inl (w, S'))) → J p l e room_1 s m args below meth c g A 7 Q (cc0 + 1) (ss0 + 6) 287 [(0, .ref b), (1, .ref (g.2.1 0)), (2, .ref (g.2.1 13)), (3, .ref (g.2.1 28)), (4, .int v4)] [] S := by
    intro v4 S hm
    unfold m_L_law_J287 at hm
    refine j_goto F (tgt := 2015) dL_law_287 (by decide) ?_
    refine j_sub [0, 1, 2, 3, 4] rfl ?_
    exact hj2015 v4 S  hm
  have hj343 : ∀ (v4 : Int32) (S : Hs), m_L_law_J343 L xs v4 S = some ((.inl (w, S'))) → J p l e room_1 s m args below meth c g A 7 Q (cc0 + 1) (ss0 + 6) 343 [(0, .ref b), (1, .ref (g.2.1 0)), (2, .ref (g.2.1 13)), (3, .ref (g.2.1 28)), (4, .int v4)] [] S := by
    intro v4 S hm
    unfold m_L_law_J343 at hm
    refine j_goto F (tgt := 2015) dL_law_343 (by decide) ?_
    refine j_sub [0, 1, 2, 3, 4] rfl ?_
    exact hj2015 v4 S  hm
  have hj411 : ∀ (v4 : Int32) (S : Hs), m_L_law_J411 L xs v4 S = some ((.inl (w, S'))) → J p l e room_1 s m args below meth c g A 7 Q (cc0 + 1) (ss0 + 6) 411 [(0, .ref b), (1, .ref (g.2.1 0)), (2, .ref (g.2.1 13)), (3, .ref (g.2.1 28)), (4, .int v4)] [] S := by
    intro v4 S hm
    unfold m_L_law_J411 at hm
    refine j_goto F (tgt := 2015) dL_law_411 (by decide) ?_
    refine j_sub [0, 1, 2, 3, 4] rfl ?_
    exact hj2015 v4 S  hm
  have hj507 : ∀ (v4 : Int32) (S : Hs), m_L_law_J507 L xs v4 S = some ((.inl (w, S'))) → J p l e room_1 s m args below meth c g A 7 Q (cc0 + 1) (ss0 + 6) 507 [(0, .ref b), (1, .ref (g.2.1 0)), (2, .ref (g.2.1 13)), (3, .ref (g.2.1 28)), (4, .int v4)] [] S := by
    intro v4 S hm
    unfold m_L_law_J507 at hm
    refine j_goto F (tgt := 2015) dL_law_507 (by decide) ?_
    refine j_sub [0, 1, 2, 3, 4] rfl ?_
    exact hj2015 v4 S  hm
  have hj474 : ∀ (v4 : Int32) (v5 : Int32) (w0 : Int32) (w1 : Int32) (w2 : Int32) (S : Hs), m_L_law_J474 L xs v4 v5 w0 w1 w2 S = some ((.inl (w, S'))) → J p l e room_1 s m args below meth c g A 7 Q (cc0 + 1) (ss0 + 6) 474 [(0, .ref b), (1, .ref (g.2.1 0)), (2, .ref (g.2.1 13)), (3, .ref (g.2.1 28)), (4, .int v4), (5, .int v5)] [.int w0, .int w1, .int w2, .ref (g.2.1 13)] S := by
    intro v4 v5 w0 w1 w2 S hm
    unfold m_L_law_J474 at hm
    obtain ⟨r474, S474, hc474, hm⟩ := bndE_ok hm
    refine j_callV F (n := 3) (As := [.int w2, .int w1, .int w0]) (rest := []) (c_X6_rights l g hg w2 w1 w0 S r474 S474 hc474) gw_L_131 (by decide +kernel) ⟨Nat.le_of_ble_eq_true rfl, Nat.le_of_ble_eq_true rfl⟩ ⟨hcc.1, hcc.2⟩ rfl rfl rfl rfl (Nat.le_of_ble_eq_true rfl) dL_law_474 ?_
    show J p l e room_1 s m args below meth c g A 7 Q (cc0 + 1) (ss0 + 6) 477 [(0, .ref b), (1, .ref (g.2.1 0)), (2, .ref (g.2.1 13)), (3, .ref (g.2.1 28)), (4, .int v4), (5, .int v5)] [.int r474] S474
    refine j_istore F (lv' := [(6, .int r474), (0, .ref b), (1, .ref (g.2.1 0)), (2, .ref (g.2.1 13)), (3, .ref (g.2.1 28)), (4, .int v4), (5, .int v5)]) dL_law_477 (by decide) rfl ?_
    refine j_aload_n F 3 dL_law_479 rfl ?_
    obtain ⟨r480, hc480, hm⟩ := Option.bind_eq_some_iff.mp hm
    refine j_callV F (n := 0) (As := []) (rest := []) (c_X6_thrown l g hg S474 r480 hc480) gw_L_106 (by decide +kernel) ⟨Nat.le_of_ble_eq_true rfl, Nat.le_of_ble_eq_true rfl⟩ ⟨hcc.1, hcc.2⟩ rfl rfl rfl rfl (Nat.le_of_ble_eq_true rfl) dL_law_480 ?_
    show J p l e room_1 s m args below meth c g A 7 Q (cc0 + 1) (ss0 + 6) 483 [(6, .int r474), (0, .ref b), (1, .ref (g.2.1 0)), (2, .ref (g.2.1 13)), (3, .ref (g.2.1 28)), (4, .int v4), (5, .int v5)] [.int r480] S474
    refine j_iload F 6 dL_law_483 rfl ?_
    refine j_icmp_eq F (tgt := 490) dL_law_485 (by decide) hm (fun _ hm => ?_) (fun _ hm => ?_)
    · refine j_iload F 6 dL_law_490 rfl ?_
      refine j_if_ne F (tgt := 507) dL_law_492 (by decide) hm (fun _ hm => ?_) (fun _ hm => ?_)
      · refine j_sub [1, 2, 3, 4, 5] rfl ?_
        exact hj507 v4 S474  hm
      · refine j_aload_n F 4 dL_law_495 rfl ?_
        refine j_iconst F (v := 0) dL_law_496 (by decide) ?_
        refine j_lald F dL_law_497 hm (fun hm => ?_)
        refine j_iload F 0 dL_law_498 rfl ?_
        refine j_i2l F dL_law_500 ?_
        refine j_lcmp F dL_law_501 ?_
        refine j_if_eq F (tgt := 507) dL_law_502 (by decide) hm (fun _ hm => ?_) (fun _ hm => ?_)
        · refine j_sub [1, 2, 3, 4, 5] rfl ?_
          exact hj507 v4 S474  hm
        · refine j_iconst F (v := 0) dL_law_505 (by decide) ?_
          cases hm
    · refine j_iconst F (v := 0) dL_law_488 (by decide) ?_
      cases hm
  have hj441 : ∀ (v4 : Int32) (w0 : Int32) (w1 : Int32) (w2 : Int32) (S : Hs), m_L_law_J441 L xs v4 w0 w1 w2 S = some ((.inl (w, S'))) → J p l e room_1 s m args below meth c g A 7 Q cc0 ss0 441 [(0, .ref b), (1, .ref (g.2.1 0)), (2, .ref (g.2.1 13)), (3, .ref (g.2.1 28)), (4, .int v4)] [.int w0, .int w1, .int w2, .ref (g.2.1 0)] S := by
    intro v4 w0 w1 w2 S hm
    unfold m_L_law_J441 at hm
    refine j_aload_n F 3 dL_law_441 rfl ?_
    obtain ⟨r442, S442, hc442, hm⟩ := bndE_ok hm
    refine j_callT F FT (n := 5) (As := [.ref (g.2.1 0), .int w2, .int w1, .int w0, .ref (g.2.1 28)]) (rest := []) (c_L_rights l hst g hg w2 w1 w0 S r442 S442 hc442) gw_L_128 (by decide +kernel) ⟨Nat.le_of_ble_eq_true rfl, Nat.le_of_ble_eq_true rfl⟩ ⟨hcc.1, hcc.2⟩ rfl rfl (Nat.le_of_ble_eq_true rfl) dL_law_442 ?_
    show J p l e room_1 s m args below meth c g A 7 Q (cc0 + 1) (ss0 + 6) 445 [(0, .ref b), (1, .ref (g.2.1 0)), (2, .ref (g.2.1 13)), (3, .ref (g.2.1 28)), (4, .int v4)] [.int r442] S442
    refine j_istore F (lv' := [(5, .int r442), (0, .ref b), (1, .ref (g.2.1 0)), (2, .ref (g.2.1 13)), (3, .ref (g.2.1 28)), (4, .int v4)]) dL_law_445 (by decide) rfl ?_
    refine j_aload_n F 3 dL_law_447 rfl ?_
    refine j_aload_n F 1 dL_law_448 rfl ?_
    refine j_iload F 5 dL_law_449 rfl ?_
    refine j_iconst F (v := 1) dL_law_451 (by decide) ?_
    refine j_iadd F dL_law_452 ?_
    obtain ⟨hin453, hm⟩ := gd_ok hm
    refine j_sld F hX hbl hbA (inb_in hin453) dL_law_453 ?_
    refine j_aload_n F 1 dL_law_454 rfl ?_
    refine j_iload F 5 dL_law_455 rfl ?_
    refine j_iconst F (v := 2) dL_law_457 (by decide) ?_
    refine j_iadd F dL_law_458 ?_
    obtain ⟨hin459, hm⟩ := gd_ok hm
    refine j_sld F hX hbl hbA (inb_in hin459) dL_law_459 ?_
    refine j_aload_n F 1 dL_law_460 rfl ?_
    refine j_iload F 5 dL_law_461 rfl ?_
    refine j_iconst F (v := 3) dL_law_463 (by decide) ?_
    refine j_iadd F dL_law_464 ?_
    obtain ⟨hin465, hm⟩ := gd_ok hm
    refine j_sld F hX hbl hbA (inb_in hin465) dL_law_465 ?_
    refine j_if_eq F (tgt := 473) dL_law_466 (by decide) hm (fun _ hm => ?_) (fun _ hm => ?_)
    · refine j_iconst F (v := 0) dL_law_473 (by decide) ?_
      refine j_sub [1, 2, 3, 4, 5, 0] rfl ?_
      exact hj474 v4 r442 0 (xs (v4 + 2).toNatClampNeg) (xs (v4 + 1).toNatClampNeg) S442  hm
    · refine j_iconst F (v := 1) dL_law_469 (by decide) ?_
      refine j_goto F (tgt := 474) dL_law_470 (by decide) ?_
      refine j_sub [1, 2, 3, 4, 5, 0] rfl ?_
      exact hj474 v4 r442 1 (xs (v4 + 2).toNatClampNeg) (xs (v4 + 1).toNatClampNeg) S442  hm
  have hj587 : ∀ (v4 : Int32) (S : Hs), m_L_law_J587 L xs v4 S = some ((.inl (w, S'))) → J p l e room_1 s m args below meth c g A 7 Q (cc0 + 1) (ss0 + 6) 587 [(0, .ref b), (1, .ref (g.2.1 0)), (2, .ref (g.2.1 13)), (3, .ref (g.2.1 28)), (4, .int v4)] [] S := by
    intro v4 S hm
    unfold m_L_law_J587 at hm
    refine j_goto F (tgt := 2015) dL_law_587 (by decide) ?_
    refine j_sub [0, 1, 2, 3, 4] rfl ?_
    exact hj2015 v4 S  hm
  have hj667 : ∀ (v4 : Int32) (S : Hs), m_L_law_J667 L xs v4 S = some ((.inl (w, S'))) → J p l e room_1 s m args below meth c g A 7 Q (cc0 + 1) (ss0 + 6) 667 [(0, .ref b), (1, .ref (g.2.1 0)), (2, .ref (g.2.1 13)), (3, .ref (g.2.1 28)), (4, .int v4)] [] S := by
    intro v4 S hm
    unfold m_L_law_J667 at hm
    refine j_goto F (tgt := 2015) dL_law_667 (by decide) ?_
    refine j_sub [0, 1, 2, 3, 4] rfl ?_
    exact hj2015 v4 S  hm
  have hj747 : ∀ (v4 : Int32) (S : Hs), m_L_law_J747 L xs v4 S = some ((.inl (w, S'))) → J p l e room_1 s m args below meth c g A 7 Q (cc0 + 1) (ss0 + 6) 747 [(0, .ref b), (1, .ref (g.2.1 0)), (2, .ref (g.2.1 13)), (3, .ref (g.2.1 28)), (4, .int v4)] [] S := by
    intro v4 S hm
    unfold m_L_law_J747 at hm
    refine j_goto F (tgt := 2015) dL_law_747 (by decide) ?_
    refine j_sub [0, 1, 2, 3, 4] rfl ?_
    exact hj2015 v4 S  hm
  have hj819 : ∀ (v4 : Int32) (S : Hs), m_L_law_J819 L xs v4 S = some ((.inl (w, S'))) → J p l e room_1 s m args below meth c g A 7 Q (cc0 + 1) (ss0 + 6) 819 [(0, .ref b), (1, .ref (g.2.1 0)), (2, .ref (g.2.1 13)), (3, .ref (g.2.1 28)), (4, .int v4)] [] S := by
    intro v4 S hm
    unfold m_L_law_J819 at hm
    refine j_goto F (tgt := 2015) dL_law_819 (by decide) ?_
    refine j_sub [0, 1, 2, 3, 4] rfl ?_
    exact hj2015 v4 S  hm
  have hj786 : ∀ (v4 : Int32) (v5 : Int32) (w0 : Int32) (S : Hs), m_L_law_J786 L xs v4 v5 w0 S = some ((.inl (w, S'))) → J p l e room_1 s m args below meth c g A 7 Q (cc0 + 1) (ss0 + 6) 786 [(0, .ref b), (1, .ref (g.2.1 0)), (2, .ref (g.2.1 13)), (3, .ref (g.2.1 28)), (4, .int v4), (5, .int v5)] [.int w0, .ref (g.2.1 13)] S := by
    intro v4 v5 w0 S hm
    unfold m_L_law_J786 at hm
    obtain ⟨r786, S786, hc786, hm⟩ := bndE_ok hm
    refine j_callV F (n := 1) (As := [.int w0]) (rest := []) (c_X6_addThing l g hg w0 S r786 S786 hc786) gw_L_145 (by decide +kernel) ⟨Nat.le_of_ble_eq_true rfl, Nat.le_of_ble_eq_true rfl⟩ ⟨hcc.1, hcc.2⟩ rfl rfl rfl rfl (Nat.le_of_ble_eq_true rfl) dL_law_786 ?_
    show J p l e room_1 s m args below meth c g A 7 Q (cc0 + 1) (ss0 + 6) 789 [(0, .ref b), (1, .ref (g.2.1 0)), (2, .ref (g.2.1 13)), (3, .ref (g.2.1 28)), (4, .int v4), (5, .int v5)] [.int r786] S786
    refine j_istore F (lv' := [(6, .int r786), (0, .ref b), (1, .ref (g.2.1 0)), (2, .ref (g.2.1 13)), (3, .ref (g.2.1 28)), (4, .int v4), (5, .int v5)]) dL_law_789 (by decide) rfl ?_
    refine j_aload_n F 3 dL_law_791 rfl ?_
    obtain ⟨r792, hc792, hm⟩ := Option.bind_eq_some_iff.mp hm
    refine j_callV F (n := 0) (As := []) (rest := []) (c_X6_thrown l g hg S786 r792 hc792) gw_L_106 (by decide +kernel) ⟨Nat.le_of_ble_eq_true rfl, Nat.le_of_ble_eq_true rfl⟩ ⟨hcc.1, hcc.2⟩ rfl rfl rfl rfl (Nat.le_of_ble_eq_true rfl) dL_law_792 ?_
    show J p l e room_1 s m args below meth c g A 7 Q (cc0 + 1) (ss0 + 6) 795 [(6, .int r786), (0, .ref b), (1, .ref (g.2.1 0)), (2, .ref (g.2.1 13)), (3, .ref (g.2.1 28)), (4, .int v4), (5, .int v5)] [.int r792] S786
    refine j_iload F 6 dL_law_795 rfl ?_
    refine j_icmp_eq F (tgt := 802) dL_law_797 (by decide) hm (fun _ hm => ?_) (fun _ hm => ?_)
    · refine j_iload F 6 dL_law_802 rfl ?_
      refine j_if_ne F (tgt := 819) dL_law_804 (by decide) hm (fun _ hm => ?_) (fun _ hm => ?_)
      · refine j_sub [1, 2, 3, 4, 5] rfl ?_
        exact hj819 v4 S786  hm
      · refine j_aload_n F 4 dL_law_807 rfl ?_
        refine j_iconst F (v := 0) dL_law_808 (by decide) ?_
        refine j_lald F dL_law_809 hm (fun hm => ?_)
        refine j_iload F 0 dL_law_810 rfl ?_
        refine j_i2l F dL_law_812 ?_
        refine j_lcmp F dL_law_813 ?_
        refine j_if_eq F (tgt := 819) dL_law_814 (by decide) hm (fun _ hm => ?_) (fun _ hm => ?_)
        · refine j_sub [1, 2, 3, 4, 5] rfl ?_
          exact hj819 v4 S786  hm
        · refine j_iconst F (v := 0) dL_law_817 (by decide) ?_
          cases hm
    · refine j_iconst F (v := 0) dL_law_800 (by decide) ?_
      cases hm
  have hj765 : ∀ (v4 : Int32) (w0 : Int32) (S : Hs), m_L_law_J765 L xs v4 w0 S = some ((.inl (w, S'))) → J p l e room_1 s m args below meth c g A 7 Q cc0 ss0 765 [(0, .ref b), (1, .ref (g.2.1 0)), (2, .ref (g.2.1 13)), (3, .ref (g.2.1 28)), (4, .int v4)] [.int w0, .ref (g.2.1 0)] S := by
    intro v4 w0 S hm
    unfold m_L_law_J765 at hm
    refine j_aload_n F 3 dL_law_765 rfl ?_
    obtain ⟨r766, S766, hc766, hm⟩ := bndE_ok hm
    refine j_callT F FT (n := 3) (As := [.ref (g.2.1 0), .int w0, .ref (g.2.1 28)]) (rest := []) (c_L_addThing l hst g hg w0 S r766 S766 hc766) gw_L_142 (by decide +kernel) ⟨Nat.le_of_ble_eq_true rfl, Nat.le_of_ble_eq_true rfl⟩ ⟨hcc.1, hcc.2⟩ rfl rfl (Nat.le_of_ble_eq_true rfl) dL_law_766 ?_
    show J p l e room_1 s m args below meth c g A 7 Q (cc0 + 1) (ss0 + 6) 769 [(0, .ref b), (1, .ref (g.2.1 0)), (2, .ref (g.2.1 13)), (3, .ref (g.2.1 28)), (4, .int v4)] [.int r766] S766
    refine j_istore F (lv' := [(5, .int r766), (0, .ref b), (1, .ref (g.2.1 0)), (2, .ref (g.2.1 13)), (3, .ref (g.2.1 28)), (4, .int v4)]) dL_law_769 (by decide) rfl ?_
    refine j_aload_n F 3 dL_law_771 rfl ?_
    refine j_aload_n F 1 dL_law_772 rfl ?_
    refine j_iload F 5 dL_law_773 rfl ?_
    refine j_iconst F (v := 1) dL_law_775 (by decide) ?_
    refine j_iadd F dL_law_776 ?_
    obtain ⟨hin777, hm⟩ := gd_ok hm
    refine j_sld F hX hbl hbA (inb_in hin777) dL_law_777 ?_
    refine j_if_eq F (tgt := 785) dL_law_778 (by decide) hm (fun _ hm => ?_) (fun _ hm => ?_)
    · refine j_iconst F (v := 0) dL_law_785 (by decide) ?_
      refine j_sub [1, 2, 3, 4, 5, 0] rfl ?_
      exact hj786 v4 r766 0 S766  hm
    · refine j_iconst F (v := 1) dL_law_781 (by decide) ?_
      refine j_goto F (tgt := 786) dL_law_782 (by decide) ?_
      refine j_sub [1, 2, 3, 4, 5, 0] rfl ?_
      exact hj786 v4 r766 1 S766  hm
  have hj875 : ∀ (v4 : Int32) (S : Hs), m_L_law_J875 L xs v4 S = some ((.inl (w, S'))) → J p l e room_1 s m args below meth c g A 7 Q (cc0 + 1) (ss0 + 6) 875 [(0, .ref b), (1, .ref (g.2.1 0)), (2, .ref (g.2.1 13)), (3, .ref (g.2.1 28)), (4, .int v4)] [] S := by
    intro v4 S hm
    unfold m_L_law_J875 at hm
    refine j_goto F (tgt := 2015) dL_law_875 (by decide) ?_
    refine j_sub [0, 1, 2, 3, 4] rfl ?_
    exact hj2015 v4 S  hm
  have hj959 : ∀ (v4 : Int32) (S : Hs), m_L_law_J959 L xs v4 S = some ((.inl (w, S'))) → J p l e room_1 s m args below meth c g A 7 Q (cc0 + 1) (ss0 + 6) 959 [(0, .ref b), (1, .ref (g.2.1 0)), (2, .ref (g.2.1 13)), (3, .ref (g.2.1 28)), (4, .int v4)] [] S := by
    intro v4 S hm
    unfold m_L_law_J959 at hm
    refine j_goto F (tgt := 2015) dL_law_959 (by decide) ?_
    refine j_sub [0, 1, 2, 3, 4] rfl ?_
    exact hj2015 v4 S  hm
  have hj926 : ∀ (v4 : Int32) (v5 : Int32) (w0 : Int32) (w1 : Int32) (S : Hs), m_L_law_J926 L xs v4 v5 w0 w1 S = some ((.inl (w, S'))) → J p l e room_1 s m args below meth c g A 7 Q (cc0 + 1) (ss0 + 6) 926 [(0, .ref b), (1, .ref (g.2.1 0)), (2, .ref (g.2.1 13)), (3, .ref (g.2.1 28)), (4, .int v4), (5, .int v5)] [.int w0, .int w1, .ref (g.2.1 13)] S := by
    intro v4 v5 w0 w1 S hm
    unfold m_L_law_J926 at hm
    obtain ⟨r926, S926, hc926, hm⟩ := bndE_ok hm
    refine j_callV F (n := 2) (As := [.int w1, .int w0]) (rest := []) (c_X6_wake l g hg w1 w0 S r926 S926 hc926) gw_L_152 (by decide +kernel) ⟨Nat.le_of_ble_eq_true rfl, Nat.le_of_ble_eq_true rfl⟩ ⟨hcc.1, hcc.2⟩ rfl rfl rfl rfl (Nat.le_of_ble_eq_true rfl) dL_law_926 ?_
    show J p l e room_1 s m args below meth c g A 7 Q (cc0 + 1) (ss0 + 6) 929 [(0, .ref b), (1, .ref (g.2.1 0)), (2, .ref (g.2.1 13)), (3, .ref (g.2.1 28)), (4, .int v4), (5, .int v5)] [.int r926] S926
    refine j_istore F (lv' := [(6, .int r926), (0, .ref b), (1, .ref (g.2.1 0)), (2, .ref (g.2.1 13)), (3, .ref (g.2.1 28)), (4, .int v4), (5, .int v5)]) dL_law_929 (by decide) rfl ?_
    refine j_aload_n F 3 dL_law_931 rfl ?_
    obtain ⟨r932, hc932, hm⟩ := Option.bind_eq_some_iff.mp hm
    refine j_callV F (n := 0) (As := []) (rest := []) (c_X6_thrown l g hg S926 r932 hc932) gw_L_106 (by decide +kernel) ⟨Nat.le_of_ble_eq_true rfl, Nat.le_of_ble_eq_true rfl⟩ ⟨hcc.1, hcc.2⟩ rfl rfl rfl rfl (Nat.le_of_ble_eq_true rfl) dL_law_932 ?_
    show J p l e room_1 s m args below meth c g A 7 Q (cc0 + 1) (ss0 + 6) 935 [(6, .int r926), (0, .ref b), (1, .ref (g.2.1 0)), (2, .ref (g.2.1 13)), (3, .ref (g.2.1 28)), (4, .int v4), (5, .int v5)] [.int r932] S926
    refine j_iload F 6 dL_law_935 rfl ?_
    refine j_icmp_eq F (tgt := 942) dL_law_937 (by decide) hm (fun _ hm => ?_) (fun _ hm => ?_)
    · refine j_iload F 6 dL_law_942 rfl ?_
      refine j_if_ne F (tgt := 959) dL_law_944 (by decide) hm (fun _ hm => ?_) (fun _ hm => ?_)
      · refine j_sub [1, 2, 3, 4, 5] rfl ?_
        exact hj959 v4 S926  hm
      · refine j_aload_n F 4 dL_law_947 rfl ?_
        refine j_iconst F (v := 0) dL_law_948 (by decide) ?_
        refine j_lald F dL_law_949 hm (fun hm => ?_)
        refine j_iload F 0 dL_law_950 rfl ?_
        refine j_i2l F dL_law_952 ?_
        refine j_lcmp F dL_law_953 ?_
        refine j_if_eq F (tgt := 959) dL_law_954 (by decide) hm (fun _ hm => ?_) (fun _ hm => ?_)
        · refine j_sub [1, 2, 3, 4, 5] rfl ?_
          exact hj959 v4 S926  hm
        · refine j_iconst F (v := 0) dL_law_957 (by decide) ?_
          cases hm
    · refine j_iconst F (v := 0) dL_law_940 (by decide) ?_
      cases hm
  have hj899 : ∀ (v4 : Int32) (w0 : Int32) (w1 : Int32) (S : Hs), m_L_law_J899 L xs v4 w0 w1 S = some ((.inl (w, S'))) → J p l e room_1 s m args below meth c g A 7 Q cc0 ss0 899 [(0, .ref b), (1, .ref (g.2.1 0)), (2, .ref (g.2.1 13)), (3, .ref (g.2.1 28)), (4, .int v4)] [.int w0, .int w1, .ref (g.2.1 0)] S := by
    intro v4 w0 w1 S hm
    unfold m_L_law_J899 at hm
    refine j_aload_n F 3 dL_law_899 rfl ?_
    obtain ⟨r900, S900, hc900, hm⟩ := bndE_ok hm
    refine j_callT F FT (n := 4) (As := [.ref (g.2.1 0), .int w1, .int w0, .ref (g.2.1 28)]) (rest := []) (c_L_wake l hst g hg w1 w0 S r900 S900 hc900) gw_L_149 (by decide +kernel) ⟨Nat.le_of_ble_eq_true rfl, Nat.le_of_ble_eq_true rfl⟩ ⟨hcc.1, hcc.2⟩ rfl rfl (Nat.le_of_ble_eq_true rfl) dL_law_900 ?_
    show J p l e room_1 s m args below meth c g A 7 Q (cc0 + 1) (ss0 + 6) 903 [(0, .ref b), (1, .ref (g.2.1 0)), (2, .ref (g.2.1 13)), (3, .ref (g.2.1 28)), (4, .int v4)] [.int r900] S900
    refine j_istore F (lv' := [(5, .int r900), (0, .ref b), (1, .ref (g.2.1 0)), (2, .ref (g.2.1 13)), (3, .ref (g.2.1 28)), (4, .int v4)]) dL_law_903 (by decide) rfl ?_
    refine j_aload_n F 3 dL_law_905 rfl ?_
    refine j_aload_n F 1 dL_law_906 rfl ?_
    refine j_iload F 5 dL_law_907 rfl ?_
    refine j_iconst F (v := 1) dL_law_909 (by decide) ?_
    refine j_iadd F dL_law_910 ?_
    obtain ⟨hin911, hm⟩ := gd_ok hm
    refine j_sld F hX hbl hbA (inb_in hin911) dL_law_911 ?_
    refine j_aload_n F 1 dL_law_912 rfl ?_
    refine j_iload F 5 dL_law_913 rfl ?_
    refine j_iconst F (v := 2) dL_law_915 (by decide) ?_
    refine j_iadd F dL_law_916 ?_
    obtain ⟨hin917, hm⟩ := gd_ok hm
    refine j_sld F hX hbl hbA (inb_in hin917) dL_law_917 ?_
    refine j_if_eq F (tgt := 925) dL_law_918 (by decide) hm (fun _ hm => ?_) (fun _ hm => ?_)
    · refine j_iconst F (v := 0) dL_law_925 (by decide) ?_
      refine j_sub [1, 2, 3, 4, 5, 0] rfl ?_
      exact hj926 v4 r900 0 (xs (v4 + 1).toNatClampNeg) S900  hm
    · refine j_iconst F (v := 1) dL_law_921 (by decide) ?_
      refine j_goto F (tgt := 926) dL_law_922 (by decide) ?_
      refine j_sub [1, 2, 3, 4, 5, 0] rfl ?_
      exact hj926 v4 r900 1 (xs (v4 + 1).toNatClampNeg) S900  hm
  have hj1074 : ∀ (v4 : Int32) (S : Hs), m_L_law_J1074 L xs v4 S = some ((.inl (w, S'))) → J p l e room_1 s m args below meth c g A 7 Q (cc0 + 1) (ss0 + 6) 1074 [(0, .ref b), (1, .ref (g.2.1 0)), (2, .ref (g.2.1 13)), (3, .ref (g.2.1 28)), (4, .int v4)] [] S := by
    intro v4 S hm
    unfold m_L_law_J1074 at hm
    refine j_goto F (tgt := 2015) dL_law_1074 (by decide) ?_
    refine j_sub [0, 1, 2, 3, 4] rfl ?_
    exact hj2015 v4 S  hm
  have hj1068 : ∀ (v4 : Int32) (w0 : Int64) (w1 : Int64) (S : Hs), m_L_law_J1068 L xs v4 w0 w1 S = some ((.inl (w, S'))) → J p l e room_1 s m args below meth c g A 7 Q (cc0 + 1) (ss0 + 6) 1068 [(0, .ref b), (1, .ref (g.2.1 0)), (2, .ref (g.2.1 13)), (3, .ref (g.2.1 28)), (4, .int v4)] [.long w0, .long w1] S := by
    intro v4 w0 w1 S hm
    unfold m_L_law_J1068 at hm
    refine j_lcmp F dL_law_1068 ?_
    refine j_if_eq F (tgt := 1074) dL_law_1069 (by decide) hm (fun _ hm => ?_) (fun _ hm => ?_)
    · refine j_sub [0, 1, 2, 3, 4] rfl ?_
      exact hj1074 v4 S  hm
    · refine j_iconst F (v := 0) dL_law_1072 (by decide) ?_
      cases hm
  have hj1034 : ∀ (v4 : Int32) (v5 : Int32) (w0 : Int32) (w1 : Int32) (w2 : Int32) (w3 : Int32) (S : Hs), m_L_law_J1034 L xs v4 v5 w0 w1 w2 w3 S = some ((.inl (w, S'))) → J p l e room_1 s m args below meth c g A 7 Q (cc0 + 1) (ss0 + 6) 1034 [(0, .ref b), (1, .ref (g.2.1 0)), (2, .ref (g.2.1 13)), (3, .ref (g.2.1 28)), (4, .int v4), (5, .int v5)] [.int w0, .int w1, .int w2, .int w3, .ref (g.2.1 13)] S := by
    intro v4 v5 w0 w1 w2 w3 S hm
    unfold m_L_law_J1034 at hm
    obtain ⟨r1034, S1034, hc1034, hm⟩ := bndE_ok hm
    refine j_callV F (n := 4) (As := [.int w3, .int w2, .int w1, .int w0]) (rest := []) (c_X6_set l g hg w3 w2 w1 w0 S r1034 S1034 hc1034) gw_L_156 (by decide +kernel) ⟨Nat.le_of_ble_eq_true rfl, Nat.le_of_ble_eq_true rfl⟩ ⟨hcc.1, hcc.2⟩ rfl rfl rfl rfl (Nat.le_of_ble_eq_true rfl) dL_law_1034 ?_
    show J p l e room_1 s m args below meth c g A 7 Q (cc0 + 1) (ss0 + 6) 1037 [(0, .ref b), (1, .ref (g.2.1 0)), (2, .ref (g.2.1 13)), (3, .ref (g.2.1 28)), (4, .int v4), (5, .int v5)] [.int r1034] S1034
    refine j_istore F (lv' := [(6, .int r1034), (0, .ref b), (1, .ref (g.2.1 0)), (2, .ref (g.2.1 13)), (3, .ref (g.2.1 28)), (4, .int v4), (5, .int v5)]) dL_law_1037 (by decide) rfl ?_
    refine j_aload_n F 3 dL_law_1039 rfl ?_
    obtain ⟨r1040, hc1040, hm⟩ := Option.bind_eq_some_iff.mp hm
    refine j_callV F (n := 0) (As := []) (rest := []) (c_X6_thrown l g hg S1034 r1040 hc1040) gw_L_106 (by decide +kernel) ⟨Nat.le_of_ble_eq_true rfl, Nat.le_of_ble_eq_true rfl⟩ ⟨hcc.1, hcc.2⟩ rfl rfl rfl rfl (Nat.le_of_ble_eq_true rfl) dL_law_1040 ?_
    show J p l e room_1 s m args below meth c g A 7 Q (cc0 + 1) (ss0 + 6) 1043 [(6, .int r1034), (0, .ref b), (1, .ref (g.2.1 0)), (2, .ref (g.2.1 13)), (3, .ref (g.2.1 28)), (4, .int v4), (5, .int v5)] [.int r1040] S1034
    refine j_iload F 6 dL_law_1043 rfl ?_
    refine j_icmp_eq F (tgt := 1050) dL_law_1045 (by decide) hm (fun _ hm => ?_) (fun _ hm => ?_)
    · refine j_iload F 6 dL_law_1050 rfl ?_
      refine j_if_ne F (tgt := 1074) dL_law_1052 (by decide) hm (fun _ hm => ?_) (fun _ hm => ?_)
      · refine j_sub [1, 2, 3, 4, 5] rfl ?_
        exact hj1074 v4 S1034  hm
      · refine j_aload_n F 4 dL_law_1055 rfl ?_
        refine j_iconst F (v := 0) dL_law_1056 (by decide) ?_
        refine j_lald F dL_law_1057 hm (fun hm => ?_)
        refine j_iload F 0 dL_law_1058 rfl ?_
        refine j_if_eq F (tgt := 1067) dL_law_1060 (by decide) hm (fun _ hm => ?_) (fun _ hm => ?_)
        · refine j_lconst F (v := 0) dL_law_1067 (by decide) ?_
          refine j_sub [1, 2, 3, 4, 5] rfl ?_
          exact hj1068 v4 0 (gO S1034 (0 : Int32).toNatClampNeg) S1034  hm
        · refine j_lconst F (v := 1) dL_law_1063 (by decide) ?_
          refine j_goto F (tgt := 1068) dL_law_1064 (by decide) ?_
          refine j_sub [1, 2, 3, 4, 5] rfl ?_
          exact hj1068 v4 1 (gO S1034 (0 : Int32).toNatClampNeg) S1034  hm
    · refine j_iconst F (v := 0) dL_law_1048 (by decide) ?_
      cases hm
  have hj995 : ∀ (v4 : Int32) (w0 : Int32) (w1 : Int32) (w2 : Int32) (w3 : Int32) (S : Hs), m_L_law_J995 L xs v4 w0 w1 w2 w3 S = some ((.inl (w, S'))) → J p l e room_1 s m args below meth c g A 7 Q cc0 ss0 995 [(0, .ref b), (1, .ref (g.2.1 0)), (2, .ref (g.2.1 13)), (3, .ref (g.2.1 28)), (4, .int v4)] [.int w0, .int w1, .int w2, .int w3, .ref (g.2.1 0)] S := by
    intro v4 w0 w1 w2 w3 S hm
    unfold m_L_law_J995 at hm
    refine j_aload_n F 3 dL_law_995 rfl ?_
    obtain ⟨r996, S996, hc996, hm⟩ := bndE_ok hm
    refine j_callT F FT (n := 6) (As := [.ref (g.2.1 0), .int w3, .int w2, .int w1, .int w0, .ref (g.2.1 28)]) (rest := []) (c_L_set l hst g hg w3 w2 w1 w0 S r996 S996 hc996) gw_L_153 (by decide +kernel) ⟨Nat.le_of_ble_eq_true rfl, Nat.le_of_ble_eq_true rfl⟩ ⟨hcc.1, hcc.2⟩ rfl rfl (Nat.le_of_ble_eq_true rfl) dL_law_996 ?_
    show J p l e room_1 s m args below meth c g A 7 Q (cc0 + 1) (ss0 + 6) 999 [(0, .ref b), (1, .ref (g.2.1 0)), (2, .ref (g.2.1 13)), (3, .ref (g.2.1 28)), (4, .int v4)] [.int r996] S996
    refine j_istore F (lv' := [(5, .int r996), (0, .ref b), (1, .ref (g.2.1 0)), (2, .ref (g.2.1 13)), (3, .ref (g.2.1 28)), (4, .int v4)]) dL_law_999 (by decide) rfl ?_
    refine j_aload_n F 3 dL_law_1001 rfl ?_
    refine j_aload_n F 1 dL_law_1002 rfl ?_
    refine j_iload F 5 dL_law_1003 rfl ?_
    refine j_iconst F (v := 1) dL_law_1005 (by decide) ?_
    refine j_iadd F dL_law_1006 ?_
    obtain ⟨hin1007, hm⟩ := gd_ok hm
    refine j_sld F hX hbl hbA (inb_in hin1007) dL_law_1007 ?_
    refine j_aload_n F 1 dL_law_1008 rfl ?_
    refine j_iload F 5 dL_law_1009 rfl ?_
    refine j_iconst F (v := 2) dL_law_1011 (by decide) ?_
    refine j_iadd F dL_law_1012 ?_
    obtain ⟨hin1013, hm⟩ := gd_ok hm
    refine j_sld F hX hbl hbA (inb_in hin1013) dL_law_1013 ?_
    refine j_aload_n F 1 dL_law_1014 rfl ?_
    refine j_iload F 5 dL_law_1015 rfl ?_
    refine j_iconst F (v := 3) dL_law_1017 (by decide) ?_
    refine j_iadd F dL_law_1018 ?_
    obtain ⟨hin1019, hm⟩ := gd_ok hm
    refine j_sld F hX hbl hbA (inb_in hin1019) dL_law_1019 ?_
    refine j_aload_n F 1 dL_law_1020 rfl ?_
    refine j_iload F 5 dL_law_1021 rfl ?_
    refine j_iconst F (v := 4) dL_law_1023 (by decide) ?_
    refine j_iadd F dL_law_1024 ?_
    obtain ⟨hin1025, hm⟩ := gd_ok hm
    refine j_sld F hX hbl hbA (inb_in hin1025) dL_law_1025 ?_
    refine j_if_eq F (tgt := 1033) dL_law_1026 (by decide) hm (fun _ hm => ?_) (fun _ hm => ?_)
    · refine j_iconst F (v := 0) dL_law_1033 (by decide) ?_
      refine j_sub [1, 2, 3, 4, 5, 0] rfl ?_
      exact hj1034 v4 r996 0 (xs (v4 + 3).toNatClampNeg) (xs (v4 + 2).toNatClampNeg) (xs (v4 + 1).toNatClampNeg) S996  hm
    · refine j_iconst F (v := 1) dL_law_1029 (by decide) ?_
      refine j_goto F (tgt := 1034) dL_law_1030 (by decide) ?_
      refine j_sub [1, 2, 3, 4, 5, 0] rfl ?_
      exact hj1034 v4 r996 1 (xs (v4 + 3).toNatClampNeg) (xs (v4 + 2).toNatClampNeg) (xs (v4 + 1).toNatClampNeg) S996  hm
  have hj1166 : ∀ (v4 : Int32) (S : Hs), m_L_law_J1166 L xs v4 S = some ((.inl (w, S'))) → J p l e room_1 s m args below meth c g A 7 Q (cc0 + 1) (ss0 + 6) 1166 [(0, .ref b), (1, .ref (g.2.1 0)), (2, .ref (g.2.1 13)), (3, .ref (g.2.1 28)), (4, .int v4)] [] S := by
    intro v4 S hm
    unfold m_L_law_J1166 at hm
    refine j_goto F (tgt := 2015) dL_law_1166 (by decide) ?_
    refine j_sub [0, 1, 2, 3, 4] rfl ?_
    exact hj2015 v4 S  hm
  have hj1258 : ∀ (v4 : Int32) (S : Hs), m_L_law_J1258 L xs v4 S = some ((.inl (w, S'))) → J p l e room_1 s m args below meth c g A 7 Q (cc0 + 1) (ss0 + 6) 1258 [(0, .ref b), (1, .ref (g.2.1 0)), (2, .ref (g.2.1 13)), (3, .ref (g.2.1 28)), (4, .int v4)] [] S := by
    intro v4 S hm
    unfold m_L_law_J1258 at hm
    refine j_goto F (tgt := 2015) dL_law_1258 (by decide) ?_
    refine j_sub [0, 1, 2, 3, 4] rfl ?_
    exact hj2015 v4 S  hm
  have hj1302 : ∀ (v4 : Int32) (S : Hs), m_L_law_J1302 L xs v4 S = some ((.inl (w, S'))) → J p l e room_1 s m args below meth c g A 7 Q (cc0 + 1) (ss0 + 6) 1302 [(0, .ref b), (1, .ref (g.2.1 0)), (2, .ref (g.2.1 13)), (3, .ref (g.2.1 28)), (4, .int v4)] [] S := by
    intro v4 S hm
    unfold m_L_law_J1302 at hm
    refine j_goto F (tgt := 2015) dL_law_1302 (by decide) ?_
    refine j_sub [0, 1, 2, 3, 4] rfl ?_
    exact hj2015 v4 S  hm
  have hj1422 : ∀ (v4 : Int32) (S : Hs), m_L_law_J1422 L xs v4 S = some ((.inl (w, S'))) → J p l e room_1 s m args below meth c g A 7 Q (cc0 + 1) (ss0 + 6) 1422 [(0, .ref b), (1, .ref (g.2.1 0)), (2, .ref (g.2.1 13)), (3, .ref (g.2.1 28)), (4, .int v4)] [] S := by
    intro v4 S hm
    unfold m_L_law_J1422 at hm
    refine j_goto F (tgt := 2015) dL_law_1422 (by decide) ?_
    refine j_sub [0, 1, 2, 3, 4] rfl ?_
    exact hj2015 v4 S  hm
  have hj1365 : ∀ (v4 : Int32) (v5 : Int32) (w0 : Int32) (S : Hs), m_L_law_J1365 L xs v4 v5 w0 S = some ((.inl (w, S'))) → J p l e room_1 s m args below meth c g A 7 Q (cc0 + 1) (ss0 + 6) 1365 [(0, .ref b), (1, .ref (g.2.1 0)), (2, .ref (g.2.1 13)), (3, .ref (g.2.1 28)), (4, .int v4), (5, .int v5)] [.int w0, .ref (g.2.1 13)] S := by
    intro v4 v5 w0 S hm
    unfold m_L_law_J1365 at hm
    refine j_aload_n F 0 dL_law_1365 rfl ?_
    refine j_iload F 4 dL_law_1366 rfl ?_
    refine j_iconst F (v := 2) dL_law_1368 (by decide) ?_
    refine j_iadd F dL_law_1369 ?_
    obtain ⟨hin1370, hm⟩ := gd_ok hm
    refine j_sld F hX hbl hbA (inb_in hin1370) dL_law_1370 ?_
    refine j_aload_n F 0 dL_law_1371 rfl ?_
    refine j_iload F 4 dL_law_1372 rfl ?_
    refine j_iconst F (v := 3) dL_law_1374 (by decide) ?_
    refine j_iadd F dL_law_1375 ?_
    obtain ⟨hin1376, hm⟩ := gd_ok hm
    refine j_sld F hX hbl hbA (inb_in hin1376) dL_law_1376 ?_
    refine j_aload_n F 0 dL_law_1377 rfl ?_
    refine j_iload F 4 dL_law_1378 rfl ?_
    refine j_iconst F (v := 4) dL_law_1380 (by decide) ?_
    refine j_iadd F dL_law_1381 ?_
    obtain ⟨hin1382, hm⟩ := gd_ok hm
    refine j_sld F hX hbl hbA (inb_in hin1382) dL_law_1382 ?_
    refine j_aload_n F 0 dL_law_1383 rfl ?_
    refine j_iload F 4 dL_law_1384 rfl ?_
    refine j_iconst F (v := 5) dL_law_1386 (by decide) ?_
    refine j_iadd F dL_law_1387 ?_
    obtain ⟨hin1388, hm⟩ := gd_ok hm
    refine j_sld F hX hbl hbA (inb_in hin1388) dL_law_1388 ?_
    obtain ⟨r1389, S1389, hc1389, hm⟩ := bndE_ok hm
    refine j_callV F (n := 5) (As := [.int w0, .int (xs (v4 + 2).toNatClampNeg), .int (xs (v4 + 3).toNatClampNeg), .int (xs (v4 + 4).toNatClampNeg), .int (xs (v4 + 5).toNatClampNeg)]) (rest := []) (c_X6_whyNot l g hg w0 (xs (v4 + 2).toNatClampNeg) (xs (v4 + 3).toNatClampNeg) (xs (v4 + 4).toNatClampNeg) (xs (v4 + 5).toNatClampNeg) S r1389 S1389 hc1389) gw_L_170 (by decide +kernel) ⟨Nat.le_of_ble_eq_true rfl, Nat.le_of_ble_eq_true rfl⟩ ⟨hcc.1, hcc.2⟩ rfl rfl rfl rfl (Nat.le_of_ble_eq_true rfl) dL_law_1389 ?_
    show J p l e room_1 s m args below meth c g A 7 Q (cc0 + 1) (ss0 + 6) 1392 [(0, .ref b), (1, .ref (g.2.1 0)), (2, .ref (g.2.1 13)), (3, .ref (g.2.1 28)), (4, .int v4), (5, .int v5)] [.int r1389] S1389
    refine j_istore F (lv' := [(6, .int r1389), (0, .ref b), (1, .ref (g.2.1 0)), (2, .ref (g.2.1 13)), (3, .ref (g.2.1 28)), (4, .int v4), (5, .int v5)]) dL_law_1392 (by decide) rfl ?_
    refine j_aload_n F 3 dL_law_1394 rfl ?_
    obtain ⟨r1395, hc1395, hm⟩ := Option.bind_eq_some_iff.mp hm
    refine j_callV F (n := 0) (As := []) (rest := []) (c_X6_thrown l g hg S1389 r1395 hc1395) gw_L_106 (by decide +kernel) ⟨Nat.le_of_ble_eq_true rfl, Nat.le_of_ble_eq_true rfl⟩ ⟨hcc.1, hcc.2⟩ rfl rfl rfl rfl (Nat.le_of_ble_eq_true rfl) dL_law_1395 ?_
    show J p l e room_1 s m args below meth c g A 7 Q (cc0 + 1) (ss0 + 6) 1398 [(6, .int r1389), (0, .ref b), (1, .ref (g.2.1 0)), (2, .ref (g.2.1 13)), (3, .ref (g.2.1 28)), (4, .int v4), (5, .int v5)] [.int r1395] S1389
    refine j_iload F 6 dL_law_1398 rfl ?_
    refine j_icmp_eq F (tgt := 1405) dL_law_1400 (by decide) hm (fun _ hm => ?_) (fun _ hm => ?_)
    · refine j_iload F 6 dL_law_1405 rfl ?_
      refine j_if_ne F (tgt := 1422) dL_law_1407 (by decide) hm (fun _ hm => ?_) (fun _ hm => ?_)
      · refine j_sub [1, 2, 3, 4, 5] rfl ?_
        exact hj1422 v4 S1389  hm
      · refine j_aload_n F 4 dL_law_1410 rfl ?_
        refine j_iconst F (v := 0) dL_law_1411 (by decide) ?_
        refine j_lald F dL_law_1412 hm (fun hm => ?_)
        refine j_iload F 0 dL_law_1413 rfl ?_
        refine j_i2l F dL_law_1415 ?_
        refine j_lcmp F dL_law_1416 ?_
        refine j_if_eq F (tgt := 1422) dL_law_1417 (by decide) hm (fun _ hm => ?_) (fun _ hm => ?_)
        · refine j_sub [1, 2, 3, 4, 5] rfl ?_
          exact hj1422 v4 S1389  hm
        · refine j_iconst F (v := 0) dL_law_1420 (by decide) ?_
          cases hm
    · refine j_iconst F (v := 0) dL_law_1403 (by decide) ?_
      cases hm
  have hj1320 : ∀ (v4 : Int32) (w0 : Int32) (S : Hs), m_L_law_J1320 L xs v4 w0 S = some ((.inl (w, S'))) → J p l e room_1 s m args below meth c g A 7 Q cc0 ss0 1320 [(0, .ref b), (1, .ref (g.2.1 0)), (2, .ref (g.2.1 13)), (3, .ref (g.2.1 28)), (4, .int v4)] [.int w0, .ref (g.2.1 0)] S := by
    intro v4 w0 S hm
    unfold m_L_law_J1320 at hm
    refine j_aload_n F 0 dL_law_1320 rfl ?_
    refine j_iload F 4 dL_law_1321 rfl ?_
    refine j_iconst F (v := 2) dL_law_1323 (by decide) ?_
    refine j_iadd F dL_law_1324 ?_
    obtain ⟨hin1325, hm⟩ := gd_ok hm
    refine j_sld F hX hbl hbA (inb_in hin1325) dL_law_1325 ?_
    refine j_aload_n F 0 dL_law_1326 rfl ?_
    refine j_iload F 4 dL_law_1327 rfl ?_
    refine j_iconst F (v := 3) dL_law_1329 (by decide) ?_
    refine j_iadd F dL_law_1330 ?_
    obtain ⟨hin1331, hm⟩ := gd_ok hm
    refine j_sld F hX hbl hbA (inb_in hin1331) dL_law_1331 ?_
    refine j_aload_n F 0 dL_law_1332 rfl ?_
    refine j_iload F 4 dL_law_1333 rfl ?_
    refine j_iconst F (v := 4) dL_law_1335 (by decide) ?_
    refine j_iadd F dL_law_1336 ?_
    obtain ⟨hin1337, hm⟩ := gd_ok hm
    refine j_sld F hX hbl hbA (inb_in hin1337) dL_law_1337 ?_
    refine j_aload_n F 0 dL_law_1338 rfl ?_
    refine j_iload F 4 dL_law_1339 rfl ?_
    refine j_iconst F (v := 5) dL_law_1341 (by decide) ?_
    refine j_iadd F dL_law_1342 ?_
    obtain ⟨hin1343, hm⟩ := gd_ok hm
    refine j_sld F hX hbl hbA (inb_in hin1343) dL_law_1343 ?_
    refine j_aload_n F 3 dL_law_1344 rfl ?_
    obtain ⟨r1345, S1345, hc1345, hm⟩ := bndE_ok hm
    refine j_callT F FT (n := 7) (As := [.ref (g.2.1 0), .int w0, .int (xs (v4 + 2).toNatClampNeg), .int (xs (v4 + 3).toNatClampNeg), .int (xs (v4 + 4).toNatClampNeg), .int (xs (v4 + 5).toNatClampNeg), .ref (g.2.1 28)]) (rest := []) (c_L_whyNot l hst g hg w0 (xs (v4 + 2).toNatClampNeg) (xs (v4 + 3).toNatClampNeg) (xs (v4 + 4).toNatClampNeg) (xs (v4 + 5).toNatClampNeg) S r1345 S1345 hc1345) gw_L_167 (by decide +kernel) ⟨Nat.le_of_ble_eq_true rfl, Nat.le_of_ble_eq_true rfl⟩ ⟨hcc.1, hcc.2⟩ rfl rfl (Nat.le_of_ble_eq_true rfl) dL_law_1345 ?_
    show J p l e room_1 s m args below meth c g A 7 Q (cc0 + 1) (ss0 + 6) 1348 [(0, .ref b), (1, .ref (g.2.1 0)), (2, .ref (g.2.1 13)), (3, .ref (g.2.1 28)), (4, .int v4)] [.int r1345] S1345
    refine j_istore F (lv' := [(5, .int r1345), (0, .ref b), (1, .ref (g.2.1 0)), (2, .ref (g.2.1 13)), (3, .ref (g.2.1 28)), (4, .int v4)]) dL_law_1348 (by decide) rfl ?_
    refine j_aload_n F 3 dL_law_1350 rfl ?_
    refine j_aload_n F 1 dL_law_1351 rfl ?_
    refine j_iload F 5 dL_law_1352 rfl ?_
    refine j_iconst F (v := 1) dL_law_1354 (by decide) ?_
    refine j_iadd F dL_law_1355 ?_
    obtain ⟨hin1356, hm⟩ := gd_ok hm
    refine j_sld F hX hbl hbA (inb_in hin1356) dL_law_1356 ?_
    refine j_if_eq F (tgt := 1364) dL_law_1357 (by decide) hm (fun _ hm => ?_) (fun _ hm => ?_)
    · refine j_iconst F (v := 0) dL_law_1364 (by decide) ?_
      refine j_sub [1, 2, 3, 4, 5, 0] rfl ?_
      exact hj1365 v4 r1345 0 S1345  hm
    · refine j_iconst F (v := 1) dL_law_1360 (by decide) ?_
      refine j_goto F (tgt := 1365) dL_law_1361 (by decide) ?_
      refine j_sub [1, 2, 3, 4, 5, 0] rfl ?_
      exact hj1365 v4 r1345 1 S1345  hm
  have hj1502 : ∀ (v4 : Int32) (S : Hs), m_L_law_J1502 L xs v4 S = some ((.inl (w, S'))) → J p l e room_1 s m args below meth c g A 7 Q (cc0 + 1) (ss0 + 6) 1502 [(0, .ref b), (1, .ref (g.2.1 0)), (2, .ref (g.2.1 13)), (3, .ref (g.2.1 28)), (4, .int v4)] [] S := by
    intro v4 S hm
    unfold m_L_law_J1502 at hm
    refine j_goto F (tgt := 2015) dL_law_1502 (by decide) ?_
    refine j_sub [0, 1, 2, 3, 4] rfl ?_
    exact hj2015 v4 S  hm
  have hj1582 : ∀ (v4 : Int32) (S : Hs), m_L_law_J1582 L xs v4 S = some ((.inl (w, S'))) → J p l e room_1 s m args below meth c g A 7 Q (cc0 + 1) (ss0 + 6) 1582 [(0, .ref b), (1, .ref (g.2.1 0)), (2, .ref (g.2.1 13)), (3, .ref (g.2.1 28)), (4, .int v4)] [] S := by
    intro v4 S hm
    unfold m_L_law_J1582 at hm
    refine j_goto F (tgt := 2015) dL_law_1582 (by decide) ?_
    refine j_sub [0, 1, 2, 3, 4] rfl ?_
    exact hj2015 v4 S  hm
  have hj1674 : ∀ (v4 : Int32) (S : Hs), m_L_law_J1674 L xs v4 S = some ((.inl (w, S'))) → J p l e room_1 s m args below meth c g A 7 Q (cc0 + 1) (ss0 + 6) 1674 [(0, .ref b), (1, .ref (g.2.1 0)), (2, .ref (g.2.1 13)), (3, .ref (g.2.1 28)), (4, .int v4)] [] S := by
    intro v4 S hm
    unfold m_L_law_J1674 at hm
    refine j_goto F (tgt := 2015) dL_law_1674 (by decide) ?_
    refine j_sub [0, 1, 2, 3, 4] rfl ?_
    exact hj2015 v4 S  hm
  have hj1800 : ∀ (v4 : Int32) (S : Hs), m_L_law_J1800 L xs v4 S = some ((.inl (w, S'))) → J p l e room_1 s m args below meth c g A 7 Q (cc0 + 1) (ss0 + 6) 1800 [(0, .ref b), (1, .ref (g.2.1 0)), (2, .ref (g.2.1 13)), (3, .ref (g.2.1 28)), (4, .int v4)] [] S := by
    intro v4 S hm
    unfold m_L_law_J1800 at hm
    refine j_goto F (tgt := 2015) dL_law_1800 (by decide) ?_
    refine j_sub [0, 1, 2, 3, 4] rfl ?_
    exact hj2015 v4 S  hm
  have hj1900 : ∀ (v4 : Int32) (S : Hs), m_L_law_J1900 L xs v4 S = some ((.inl (w, S'))) → J p l e room_1 s m args below meth c g A 7 Q (cc0 + 1) (ss0 + 6) 1900 [(0, .ref b), (1, .ref (g.2.1 0)), (2, .ref (g.2.1 13)), (3, .ref (g.2.1 28)), (4, .int v4)] [] S := by
    intro v4 S hm
    unfold m_L_law_J1900 at hm
    refine j_goto F (tgt := 2015) dL_law_1900 (by decide) ?_
    refine j_sub [0, 1, 2, 3, 4] rfl ?_
    exact hj2015 v4 S  hm
  have hj1956 : ∀ (v4 : Int32) (S : Hs), m_L_law_J1956 L xs v4 S = some ((.inl (w, S'))) → J p l e room_1 s m args below meth c g A 7 Q (cc0 + 1) (ss0 + 6) 1956 [(0, .ref b), (1, .ref (g.2.1 0)), (2, .ref (g.2.1 13)), (3, .ref (g.2.1 28)), (4, .int v4)] [] S := by
    intro v4 S hm
    unfold m_L_law_J1956 at hm
    refine j_goto F (tgt := 2015) dL_law_1956 (by decide) ?_
    refine j_sub [0, 1, 2, 3, 4] rfl ?_
    exact hj2015 v4 S  hm
  have hj2012 : ∀ (v4 : Int32) (S : Hs), m_L_law_J2012 L xs v4 S = some ((.inl (w, S'))) → J p l e room_1 s m args below meth c g A 7 Q (cc0 + 1) (ss0 + 6) 2012 [(0, .ref b), (1, .ref (g.2.1 0)), (2, .ref (g.2.1 13)), (3, .ref (g.2.1 28)), (4, .int v4)] [] S := by
    intro v4 S hm
    unfold m_L_law_J2012 at hm
    refine j_goto F (tgt := 2015) dL_law_2012 (by decide) ?_
    refine j_sub [0, 1, 2, 3, 4] rfl ?_
    exact hj2015 v4 S  hm
  refine j_iload F 4 dL_law_23 rfl ?_
  refine j_aload_n F 0 dL_law_25 rfl ?_
  refine j_slen F hX hbl hbA dL_law_26 ?_
  refine j_bipush F (v := 6) dL_law_27 (by decide) ?_
  refine j_isub F dL_law_29 ?_
  refine j_icmp_gt F (tgt := 2021) dL_law_30 (by decide) hm (fun _ hm => ?_) (fun _ hm => ?_)
  · cases hm
  · refine j_aload_n F 0 dL_law_33 rfl ?_
    refine j_iload F 4 dL_law_34 rfl ?_
    obtain ⟨hin36, hm⟩ := gd_ok hm
    refine j_sld F hX hbl hbA (inb_in hin36) dL_law_36 ?_
    refine j_bipush F (v := 31) dL_law_37 (by decide) ?_
    refine j_iand F dL_law_39 ?_
    refine sw_if hm (fun esw hm => ?_) (fun n0 hm => ?_)
    · refine j_swIn F (tgt := 164) dL_law_40 esw (by decide +kernel) (by decide +kernel) (off := 124) (by decide +kernel) (by decide) ?_
      refine j_aload_n F 1 dL_law_164 rfl ?_
      refine j_aload_n F 0 dL_law_165 rfl ?_
      refine j_iload F 4 dL_law_166 rfl ?_
      refine j_iconst F (v := 1) dL_law_168 (by decide) ?_
      refine j_iadd F dL_law_169 ?_
      obtain ⟨hin170, hm⟩ := gd_ok hm
      refine j_sld F hX hbl hbA (inb_in hin170) dL_law_170 ?_
      refine j_aload_n F 3 dL_law_171 rfl ?_
      obtain ⟨r172, S172, hc172, hm⟩ := bndE_ok hm
      refine j_callT F FT (n := 3) (As := [.ref (g.2.1 0), .int (xs (v4 + 1).toNatClampNeg), .ref (g.2.1 28)]) (rest := []) (c_L_append l hst g hg (xs (v4 + 1).toNatClampNeg) S r172 S172 hc172) gw_L_100 (by decide +kernel) ⟨Nat.le_of_ble_eq_true rfl, Nat.le_of_ble_eq_true rfl⟩ ⟨hcc.1, hcc.2⟩ rfl rfl (Nat.le_of_ble_eq_true rfl) dL_law_172 ?_
      show J p l e room_1 s m args below meth c g A 7 Q (cc0 + 1) (ss0 + 6) 175 [(0, .ref b), (1, .ref (g.2.1 0)), (2, .ref (g.2.1 13)), (3, .ref (g.2.1 28)), (4, .int v4)] [.int r172] S172
      refine j_istore F (lv' := [(5, .int r172), (0, .ref b), (1, .ref (g.2.1 0)), (2, .ref (g.2.1 13)), (3, .ref (g.2.1 28)), (4, .int v4)]) dL_law_175 (by decide) rfl ?_
      refine j_aload_n F 3 dL_law_177 rfl ?_
      refine j_aload_n F 1 dL_law_178 rfl ?_
      refine j_iload F 5 dL_law_179 rfl ?_
      refine j_iconst F (v := 1) dL_law_181 (by decide) ?_
      refine j_iadd F dL_law_182 ?_
      obtain ⟨hin183, hm⟩ := gd_ok hm
      refine j_sld F hX hbl hbA (inb_in hin183) dL_law_183 ?_
      obtain ⟨r184, S184, hc184, hm⟩ := bndE_ok hm
      refine j_callV F (n := 1) (As := [.int (xs (v4 + 1).toNatClampNeg)]) (rest := []) (c_X6_append l g hg (xs (v4 + 1).toNatClampNeg) S172 r184 S184 hc184) gw_L_105 (by decide +kernel) ⟨Nat.le_of_ble_eq_true rfl, Nat.le_of_ble_eq_true rfl⟩ ⟨hcc.1, hcc.2⟩ rfl rfl rfl rfl (Nat.le_of_ble_eq_true rfl) dL_law_184 ?_
      show J p l e room_1 s m args below meth c g A 7 Q (cc0 + 1) (ss0 + 6) 187 [(5, .int r172), (0, .ref b), (1, .ref (g.2.1 0)), (2, .ref (g.2.1 13)), (3, .ref (g.2.1 28)), (4, .int v4)] [.int r184] S184
      refine j_istore F (lv' := [(6, .int r184), (5, .int r172), (0, .ref b), (1, .ref (g.2.1 0)), (2, .ref (g.2.1 13)), (3, .ref (g.2.1 28)), (4, .int v4)]) dL_law_187 (by decide) rfl ?_
      refine j_aload_n F 4 dL_law_189 rfl ?_
      obtain ⟨r190, hc190, hm⟩ := Option.bind_eq_some_iff.mp hm
      refine j_callV F (n := 0) (As := []) (rest := []) (c_X6_thrown l g hg S184 r190 hc190) gw_L_106 (by decide +kernel) ⟨Nat.le_of_ble_eq_true rfl, Nat.le_of_ble_eq_true rfl⟩ ⟨hcc.1, hcc.2⟩ rfl rfl rfl rfl (Nat.le_of_ble_eq_true rfl) dL_law_190 ?_
      show J p l e room_1 s m args below meth c g A 7 Q (cc0 + 1) (ss0 + 6) 193 [(6, .int r184), (5, .int r172), (0, .ref b), (1, .ref (g.2.1 0)), (2, .ref (g.2.1 13)), (3, .ref (g.2.1 28)), (4, .int v4)] [.int r190] S184
      refine j_iload F 1 dL_law_193 rfl ?_
      refine j_icmp_eq F (tgt := 200) dL_law_195 (by decide) hm (fun _ hm => ?_) (fun _ hm => ?_)
      · refine j_iload F 1 dL_law_200 rfl ?_
        refine j_if_ne F (tgt := 217) dL_law_202 (by decide) hm (fun _ hm => ?_) (fun _ hm => ?_)
        · refine j_sub [2, 3, 4, 5, 6] rfl ?_
          exact hj217 v4 S184  hm
        · refine j_aload_n F 5 dL_law_205 rfl ?_
          refine j_iconst F (v := 0) dL_law_206 (by decide) ?_
          refine j_lald F dL_law_207 hm (fun hm => ?_)
          refine j_iload F 0 dL_law_208 rfl ?_
          refine j_i2l F dL_law_210 ?_
          refine j_lcmp F dL_law_211 ?_
          refine j_if_eq F (tgt := 217) dL_law_212 (by decide) hm (fun _ hm => ?_) (fun _ hm => ?_)
          · refine j_sub [2, 3, 4, 5, 6] rfl ?_
            exact hj217 v4 S184  hm
          · refine j_iconst F (v := 0) dL_law_215 (by decide) ?_
            cases hm
      · refine j_iconst F (v := 0) dL_law_198 (by decide) ?_
        cases hm
    · refine sw_if hm (fun esw hm => ?_) (fun n1 hm => ?_)
      · refine j_swIn F (tgt := 220) dL_law_40 esw (by decide +kernel) (by decide +kernel) (off := 180) (by decide +kernel) (by decide) ?_
        refine j_aload_n F 1 dL_law_220 rfl ?_
        obtain ⟨r221, S221, hc221, hm⟩ := bndE_ok hm
        refine j_callV F (n := 0) (As := []) (rest := []) (c_X5_clearText l g hg S r221 S221 hc221) gw_L_109 (by decide +kernel) ⟨Nat.le_of_ble_eq_true rfl, Nat.le_of_ble_eq_true rfl⟩ ⟨Nat.le_of_succ_le hcc.1, Nat.le_trans (Nat.le_add_right _ 6) hcc.2⟩ rfl rfl rfl rfl (Nat.le_of_ble_eq_true rfl) dL_law_221 ?_
        show J p l e room_1 s m args below meth c g A 7 Q cc0 ss0 224 [(0, .ref b), (1, .ref (g.2.1 0)), (2, .ref (g.2.1 13)), (3, .ref (g.2.1 28)), (4, .int v4)] [.int r221] S221
        refine j_aload_n F 2 dL_law_224 rfl ?_
        obtain ⟨r225, S225, hc225, hm⟩ := bndE_ok hm
        refine j_callV F (n := 0) (As := []) (rest := [.int r221]) (c_X6_clearText l g hg S221 r225 S225 hc225) gw_L_112 (by decide +kernel) ⟨Nat.le_of_ble_eq_true rfl, Nat.le_of_ble_eq_true rfl⟩ ⟨Nat.le_of_succ_le hcc.1, Nat.le_trans (Nat.le_add_right _ 6) hcc.2⟩ rfl rfl rfl rfl (Nat.le_of_ble_eq_true rfl) dL_law_225 ?_
        show J p l e room_1 s m args below meth c g A 7 Q cc0 ss0 228 [(0, .ref b), (1, .ref (g.2.1 0)), (2, .ref (g.2.1 13)), (3, .ref (g.2.1 28)), (4, .int v4)] [.int r225, .int r221] S225
        refine j_icmp_eq F (tgt := 2015) dL_law_228 (by decide) hm (fun _ hm => ?_) (fun _ hm => ?_)
        · refine j_widen (Nat.le_succ _) (Nat.le_add_right _ 6) ?_
          refine j_sub [0, 1, 2, 3, 4] rfl ?_
          exact hj2015 v4 S225  hm
        · refine j_iconst F (v := 0) dL_law_231 (by decide) ?_
          cases hm
      · refine sw_if hm (fun esw hm => ?_) (fun n2 hm => ?_)
        · refine j_swIn F (tgt := 233) dL_law_40 esw (by decide +kernel) (by decide +kernel) (off := 193) (by decide +kernel) (by decide) ?_
          refine j_aload_n F 1 dL_law_233 rfl ?_
          obtain ⟨r234, S234, hc234, hm⟩ := bndE_ok hm
          refine j_callV F (n := 0) (As := []) (rest := []) (c_X5_errorPosition l g hg S r234 S234 hc234) gw_L_113 (by decide +kernel) ⟨Nat.le_of_ble_eq_true rfl, Nat.le_of_ble_eq_true rfl⟩ ⟨Nat.le_of_succ_le hcc.1, Nat.le_trans (Nat.le_add_right _ 6) hcc.2⟩ rfl rfl rfl rfl (Nat.le_of_ble_eq_true rfl) dL_law_234 ?_
          show J p l e room_1 s m args below meth c g A 7 Q cc0 ss0 237 [(0, .ref b), (1, .ref (g.2.1 0)), (2, .ref (g.2.1 13)), (3, .ref (g.2.1 28)), (4, .int v4)] [.int r234] S234
          refine j_aload_n F 2 dL_law_237 rfl ?_
          obtain ⟨r238, S238, hc238, hm⟩ := bndE_ok hm
          refine j_callV F (n := 0) (As := []) (rest := [.int r234]) (c_X6_errorPosition l g hg S234 r238 S238 hc238) gw_L_116 (by decide +kernel) ⟨Nat.le_of_ble_eq_true rfl, Nat.le_of_ble_eq_true rfl⟩ ⟨Nat.le_of_succ_le hcc.1, Nat.le_trans (Nat.le_add_right _ 6) hcc.2⟩ rfl rfl rfl rfl (Nat.le_of_ble_eq_true rfl) dL_law_238 ?_
          show J p l e room_1 s m args below meth c g A 7 Q cc0 ss0 241 [(0, .ref b), (1, .ref (g.2.1 0)), (2, .ref (g.2.1 13)), (3, .ref (g.2.1 28)), (4, .int v4)] [.int r238, .int r234] S238
          refine j_icmp_eq F (tgt := 2015) dL_law_241 (by decide) hm (fun _ hm => ?_) (fun _ hm => ?_)
          · refine j_widen (Nat.le_succ _) (Nat.le_add_right _ 6) ?_
            refine j_sub [0, 1, 2, 3, 4] rfl ?_
            exact hj2015 v4 S238  hm
          · refine j_iconst F (v := 0) dL_law_244 (by decide) ?_
            cases hm
        · refine sw_if hm (fun esw hm => ?_) (fun n3 hm => ?_)
          · refine j_swIn F (tgt := 246) dL_law_40 esw (by decide +kernel) (by decide +kernel) (off := 206) (by decide +kernel) (by decide) ?_
            refine j_aload_n F 1 dL_law_246 rfl ?_
            refine j_aload_n F 3 dL_law_247 rfl ?_
            obtain ⟨r248, S248, hc248, hm⟩ := bndE_ok hm
            refine j_callT F FT (n := 2) (As := [.ref (g.2.1 0), .ref (g.2.1 28)]) (rest := []) (c_L_load l hst g hg S r248 S248 hc248) gw_L_117 (by decide +kernel) ⟨Nat.le_of_ble_eq_true rfl, Nat.le_of_ble_eq_true rfl⟩ ⟨hcc.1, hcc.2⟩ rfl rfl (Nat.le_of_ble_eq_true rfl) dL_law_248 ?_
            show J p l e room_1 s m args below meth c g A 7 Q (cc0 + 1) (ss0 + 6) 251 [(0, .ref b), (1, .ref (g.2.1 0)), (2, .ref (g.2.1 13)), (3, .ref (g.2.1 28)), (4, .int v4)] [.int r248] S248
            refine j_istore F (lv' := [(5, .int r248), (0, .ref b), (1, .ref (g.2.1 0)), (2, .ref (g.2.1 13)), (3, .ref (g.2.1 28)), (4, .int v4)]) dL_law_251 (by decide) rfl ?_
            refine j_aload_n F 3 dL_law_253 rfl ?_
            obtain ⟨r254, S254, hc254, hm⟩ := bndE_ok hm
            refine j_callV F (n := 0) (As := []) (rest := []) (c_X6_load l g hg S248 r254 S254 hc254) gw_L_120 (by decide +kernel) ⟨Nat.le_of_ble_eq_true rfl, Nat.le_of_ble_eq_true rfl⟩ ⟨hcc.1, hcc.2⟩ rfl rfl rfl rfl (Nat.le_of_ble_eq_true rfl) dL_law_254 ?_
            show J p l e room_1 s m args below meth c g A 7 Q (cc0 + 1) (ss0 + 6) 257 [(5, .int r248), (0, .ref b), (1, .ref (g.2.1 0)), (2, .ref (g.2.1 13)), (3, .ref (g.2.1 28)), (4, .int v4)] [.int r254] S254
            refine j_istore F (lv' := [(6, .int r254), (5, .int r248), (0, .ref b), (1, .ref (g.2.1 0)), (2, .ref (g.2.1 13)), (3, .ref (g.2.1 28)), (4, .int v4)]) dL_law_257 (by decide) rfl ?_
            refine j_aload_n F 4 dL_law_259 rfl ?_
            obtain ⟨r260, hc260, hm⟩ := Option.bind_eq_some_iff.mp hm
            refine j_callV F (n := 0) (As := []) (rest := []) (c_X6_thrown l g hg S254 r260 hc260) gw_L_106 (by decide +kernel) ⟨Nat.le_of_ble_eq_true rfl, Nat.le_of_ble_eq_true rfl⟩ ⟨hcc.1, hcc.2⟩ rfl rfl rfl rfl (Nat.le_of_ble_eq_true rfl) dL_law_260 ?_
            show J p l e room_1 s m args below meth c g A 7 Q (cc0 + 1) (ss0 + 6) 263 [(6, .int r254), (5, .int r248), (0, .ref b), (1, .ref (g.2.1 0)), (2, .ref (g.2.1 13)), (3, .ref (g.2.1 28)), (4, .int v4)] [.int r260] S254
            refine j_iload F 1 dL_law_263 rfl ?_
            refine j_icmp_eq F (tgt := 270) dL_law_265 (by decide) hm (fun _ hm => ?_) (fun _ hm => ?_)
            · refine j_iload F 1 dL_law_270 rfl ?_
              refine j_if_ne F (tgt := 287) dL_law_272 (by decide) hm (fun _ hm => ?_) (fun _ hm => ?_)
              · refine j_sub [2, 3, 4, 5, 6] rfl ?_
                exact hj287 v4 S254  hm
              · refine j_aload_n F 5 dL_law_275 rfl ?_
                refine j_iconst F (v := 0) dL_law_276 (by decide) ?_
                refine j_lald F dL_law_277 hm (fun hm => ?_)
                refine j_iload F 0 dL_law_278 rfl ?_
                refine j_i2l F dL_law_280 ?_
                refine j_lcmp F dL_law_281 ?_
                refine j_if_eq F (tgt := 287) dL_law_282 (by decide) hm (fun _ hm => ?_) (fun _ hm => ?_)
                · refine j_sub [2, 3, 4, 5, 6] rfl ?_
                  exact hj287 v4 S254  hm
                · refine j_iconst F (v := 0) dL_law_285 (by decide) ?_
                  cases hm
            · refine j_iconst F (v := 0) dL_law_268 (by decide) ?_
              cases hm
          · refine sw_if hm (fun esw hm => ?_) (fun n4 hm => ?_)
            · refine j_swIn F (tgt := 290) dL_law_40 esw (by decide +kernel) (by decide +kernel) (off := 250) (by decide +kernel) (by decide) ?_
              refine j_aload_n F 1 dL_law_290 rfl ?_
              refine j_aload_n F 0 dL_law_291 rfl ?_
              refine j_iload F 4 dL_law_292 rfl ?_
              refine j_iconst F (v := 1) dL_law_294 (by decide) ?_
              refine j_iadd F dL_law_295 ?_
              obtain ⟨hin296, hm⟩ := gd_ok hm
              refine j_sld F hX hbl hbA (inb_in hin296) dL_law_296 ?_
              refine j_aload_n F 3 dL_law_297 rfl ?_
              obtain ⟨r298, S298, hc298, hm⟩ := bndE_ok hm
              refine j_callT F FT (n := 3) (As := [.ref (g.2.1 0), .int (xs (v4 + 1).toNatClampNeg), .ref (g.2.1 28)]) (rest := []) (c_L_about l hst g hg (xs (v4 + 1).toNatClampNeg) S r298 S298 hc298) gw_L_121 (by decide +kernel) ⟨Nat.le_of_ble_eq_true rfl, Nat.le_of_ble_eq_true rfl⟩ ⟨hcc.1, hcc.2⟩ rfl rfl (Nat.le_of_ble_eq_true rfl) dL_law_298 ?_
              show J p l e room_1 s m args below meth c g A 7 Q (cc0 + 1) (ss0 + 6) 301 [(0, .ref b), (1, .ref (g.2.1 0)), (2, .ref (g.2.1 13)), (3, .ref (g.2.1 28)), (4, .int v4)] [.int r298] S298
              refine j_istore F (lv' := [(5, .int r298), (0, .ref b), (1, .ref (g.2.1 0)), (2, .ref (g.2.1 13)), (3, .ref (g.2.1 28)), (4, .int v4)]) dL_law_301 (by decide) rfl ?_
              refine j_aload_n F 3 dL_law_303 rfl ?_
              refine j_aload_n F 1 dL_law_304 rfl ?_
              refine j_iload F 5 dL_law_305 rfl ?_
              refine j_iconst F (v := 1) dL_law_307 (by decide) ?_
              refine j_iadd F dL_law_308 ?_
              obtain ⟨hin309, hm⟩ := gd_ok hm
              refine j_sld F hX hbl hbA (inb_in hin309) dL_law_309 ?_
              obtain ⟨r310, S310, hc310, hm⟩ := bndE_ok hm
              refine j_callV F (n := 1) (As := [.int (xs (v4 + 1).toNatClampNeg)]) (rest := []) (c_X6_about l g hg (xs (v4 + 1).toNatClampNeg) S298 r310 S310 hc310) gw_L_123 (by decide +kernel) ⟨Nat.le_of_ble_eq_true rfl, Nat.le_of_ble_eq_true rfl⟩ ⟨hcc.1, hcc.2⟩ rfl rfl rfl rfl (Nat.le_of_ble_eq_true rfl) dL_law_310 ?_
              show J p l e room_1 s m args below meth c g A 7 Q (cc0 + 1) (ss0 + 6) 313 [(5, .int r298), (0, .ref b), (1, .ref (g.2.1 0)), (2, .ref (g.2.1 13)), (3, .ref (g.2.1 28)), (4, .int v4)] [.int r310] S310
              refine j_istore F (lv' := [(6, .int r310), (5, .int r298), (0, .ref b), (1, .ref (g.2.1 0)), (2, .ref (g.2.1 13)), (3, .ref (g.2.1 28)), (4, .int v4)]) dL_law_313 (by decide) rfl ?_
              refine j_aload_n F 4 dL_law_315 rfl ?_
              obtain ⟨r316, hc316, hm⟩ := Option.bind_eq_some_iff.mp hm
              refine j_callV F (n := 0) (As := []) (rest := []) (c_X6_thrown l g hg S310 r316 hc316) gw_L_106 (by decide +kernel) ⟨Nat.le_of_ble_eq_true rfl, Nat.le_of_ble_eq_true rfl⟩ ⟨hcc.1, hcc.2⟩ rfl rfl rfl rfl (Nat.le_of_ble_eq_true rfl) dL_law_316 ?_
              show J p l e room_1 s m args below meth c g A 7 Q (cc0 + 1) (ss0 + 6) 319 [(6, .int r310), (5, .int r298), (0, .ref b), (1, .ref (g.2.1 0)), (2, .ref (g.2.1 13)), (3, .ref (g.2.1 28)), (4, .int v4)] [.int r316] S310
              refine j_iload F 1 dL_law_319 rfl ?_
              refine j_icmp_eq F (tgt := 326) dL_law_321 (by decide) hm (fun _ hm => ?_) (fun _ hm => ?_)
              · refine j_iload F 1 dL_law_326 rfl ?_
                refine j_if_ne F (tgt := 343) dL_law_328 (by decide) hm (fun _ hm => ?_) (fun _ hm => ?_)
                · refine j_sub [2, 3, 4, 5, 6] rfl ?_
                  exact hj343 v4 S310  hm
                · refine j_aload_n F 5 dL_law_331 rfl ?_
                  refine j_iconst F (v := 0) dL_law_332 (by decide) ?_
                  refine j_lald F dL_law_333 hm (fun hm => ?_)
                  refine j_iload F 0 dL_law_334 rfl ?_
                  refine j_i2l F dL_law_336 ?_
                  refine j_lcmp F dL_law_337 ?_
                  refine j_if_eq F (tgt := 343) dL_law_338 (by decide) hm (fun _ hm => ?_) (fun _ hm => ?_)
                  · refine j_sub [2, 3, 4, 5, 6] rfl ?_
                    exact hj343 v4 S310  hm
                  · refine j_iconst F (v := 0) dL_law_341 (by decide) ?_
                    cases hm
              · refine j_iconst F (v := 0) dL_law_324 (by decide) ?_
                cases hm
            · refine sw_if hm (fun esw hm => ?_) (fun n5 hm => ?_)
              · refine j_swIn F (tgt := 346) dL_law_40 esw (by decide +kernel) (by decide +kernel) (off := 306) (by decide +kernel) (by decide) ?_
                refine j_aload_n F 1 dL_law_346 rfl ?_
                refine j_aload_n F 0 dL_law_347 rfl ?_
                refine j_iload F 4 dL_law_348 rfl ?_
                refine j_iconst F (v := 1) dL_law_350 (by decide) ?_
                refine j_iadd F dL_law_351 ?_
                obtain ⟨hin352, hm⟩ := gd_ok hm
                refine j_sld F hX hbl hbA (inb_in hin352) dL_law_352 ?_
                refine j_aload_n F 0 dL_law_353 rfl ?_
                refine j_iload F 4 dL_law_354 rfl ?_
                refine j_iconst F (v := 2) dL_law_356 (by decide) ?_
                refine j_iadd F dL_law_357 ?_
                obtain ⟨hin358, hm⟩ := gd_ok hm
                refine j_sld F hX hbl hbA (inb_in hin358) dL_law_358 ?_
                refine j_aload_n F 3 dL_law_359 rfl ?_
                obtain ⟨r360, S360, hc360, hm⟩ := bndE_ok hm
                refine j_callT F FT (n := 4) (As := [.ref (g.2.1 0), .int (xs (v4 + 1).toNatClampNeg), .int (xs (v4 + 2).toNatClampNeg), .ref (g.2.1 28)]) (rest := []) (c_L_thing l hst g hg (xs (v4 + 1).toNatClampNeg) (xs (v4 + 2).toNatClampNeg) S r360 S360 hc360) gw_L_124 (by decide +kernel) ⟨Nat.le_of_ble_eq_true rfl, Nat.le_of_ble_eq_true rfl⟩ ⟨hcc.1, hcc.2⟩ rfl rfl (Nat.le_of_ble_eq_true rfl) dL_law_360 ?_
                show J p l e room_1 s m args below meth c g A 7 Q (cc0 + 1) (ss0 + 6) 363 [(0, .ref b), (1, .ref (g.2.1 0)), (2, .ref (g.2.1 13)), (3, .ref (g.2.1 28)), (4, .int v4)] [.int r360] S360
                refine j_istore F (lv' := [(5, .int r360), (0, .ref b), (1, .ref (g.2.1 0)), (2, .ref (g.2.1 13)), (3, .ref (g.2.1 28)), (4, .int v4)]) dL_law_363 (by decide) rfl ?_
                refine j_aload_n F 3 dL_law_365 rfl ?_
                refine j_aload_n F 1 dL_law_366 rfl ?_
                refine j_iload F 5 dL_law_367 rfl ?_
                refine j_iconst F (v := 1) dL_law_369 (by decide) ?_
                refine j_iadd F dL_law_370 ?_
                obtain ⟨hin371, hm⟩ := gd_ok hm
                refine j_sld F hX hbl hbA (inb_in hin371) dL_law_371 ?_
                refine j_aload_n F 1 dL_law_372 rfl ?_
                refine j_iload F 5 dL_law_373 rfl ?_
                refine j_iconst F (v := 2) dL_law_375 (by decide) ?_
                refine j_iadd F dL_law_376 ?_
                obtain ⟨hin377, hm⟩ := gd_ok hm
                refine j_sld F hX hbl hbA (inb_in hin377) dL_law_377 ?_
                obtain ⟨r378, S378, hc378, hm⟩ := bndE_ok hm
                refine j_callV F (n := 2) (As := [.int (xs (v4 + 1).toNatClampNeg), .int (xs (v4 + 2).toNatClampNeg)]) (rest := []) (c_X6_thing l g hg (xs (v4 + 1).toNatClampNeg) (xs (v4 + 2).toNatClampNeg) S360 r378 S378 hc378) gw_L_127 (by decide +kernel) ⟨Nat.le_of_ble_eq_true rfl, Nat.le_of_ble_eq_true rfl⟩ ⟨hcc.1, hcc.2⟩ rfl rfl rfl rfl (Nat.le_of_ble_eq_true rfl) dL_law_378 ?_
                show J p l e room_1 s m args below meth c g A 7 Q (cc0 + 1) (ss0 + 6) 381 [(5, .int r360), (0, .ref b), (1, .ref (g.2.1 0)), (2, .ref (g.2.1 13)), (3, .ref (g.2.1 28)), (4, .int v4)] [.int r378] S378
                refine j_istore F (lv' := [(6, .int r378), (5, .int r360), (0, .ref b), (1, .ref (g.2.1 0)), (2, .ref (g.2.1 13)), (3, .ref (g.2.1 28)), (4, .int v4)]) dL_law_381 (by decide) rfl ?_
                refine j_aload_n F 4 dL_law_383 rfl ?_
                obtain ⟨r384, hc384, hm⟩ := Option.bind_eq_some_iff.mp hm
                refine j_callV F (n := 0) (As := []) (rest := []) (c_X6_thrown l g hg S378 r384 hc384) gw_L_106 (by decide +kernel) ⟨Nat.le_of_ble_eq_true rfl, Nat.le_of_ble_eq_true rfl⟩ ⟨hcc.1, hcc.2⟩ rfl rfl rfl rfl (Nat.le_of_ble_eq_true rfl) dL_law_384 ?_
                show J p l e room_1 s m args below meth c g A 7 Q (cc0 + 1) (ss0 + 6) 387 [(6, .int r378), (5, .int r360), (0, .ref b), (1, .ref (g.2.1 0)), (2, .ref (g.2.1 13)), (3, .ref (g.2.1 28)), (4, .int v4)] [.int r384] S378
                refine j_iload F 1 dL_law_387 rfl ?_
                refine j_icmp_eq F (tgt := 394) dL_law_389 (by decide) hm (fun _ hm => ?_) (fun _ hm => ?_)
                · refine j_iload F 1 dL_law_394 rfl ?_
                  refine j_if_ne F (tgt := 411) dL_law_396 (by decide) hm (fun _ hm => ?_) (fun _ hm => ?_)
                  · refine j_sub [2, 3, 4, 5, 6] rfl ?_
                    exact hj411 v4 S378  hm
                  · refine j_aload_n F 5 dL_law_399 rfl ?_
                    refine j_iconst F (v := 0) dL_law_400 (by decide) ?_
                    refine j_lald F dL_law_401 hm (fun hm => ?_)
                    refine j_iload F 0 dL_law_402 rfl ?_
                    refine j_i2l F dL_law_404 ?_
                    refine j_lcmp F dL_law_405 ?_
                    refine j_if_eq F (tgt := 411) dL_law_406 (by decide) hm (fun _ hm => ?_) (fun _ hm => ?_)
                    · refine j_sub [2, 3, 4, 5, 6] rfl ?_
                      exact hj411 v4 S378  hm
                    · refine j_iconst F (v := 0) dL_law_409 (by decide) ?_
                      cases hm
                · refine j_iconst F (v := 0) dL_law_392 (by decide) ?_
                  cases hm
              · refine sw_if hm (fun esw hm => ?_) (fun n6 hm => ?_)
                · refine j_swIn F (tgt := 414) dL_law_40 esw (by decide +kernel) (by decide +kernel) (off := 374) (by decide +kernel) (by decide) ?_
                  refine j_aload_n F 1 dL_law_414 rfl ?_
                  refine j_aload_n F 0 dL_law_415 rfl ?_
                  refine j_iload F 4 dL_law_416 rfl ?_
                  refine j_iconst F (v := 1) dL_law_418 (by decide) ?_
                  refine j_iadd F dL_law_419 ?_
                  obtain ⟨hin420, hm⟩ := gd_ok hm
                  refine j_sld F hX hbl hbA (inb_in hin420) dL_law_420 ?_
                  refine j_aload_n F 0 dL_law_421 rfl ?_
                  refine j_iload F 4 dL_law_422 rfl ?_
                  refine j_iconst F (v := 2) dL_law_424 (by decide) ?_
                  refine j_iadd F dL_law_425 ?_
                  obtain ⟨hin426, hm⟩ := gd_ok hm
                  refine j_sld F hX hbl hbA (inb_in hin426) dL_law_426 ?_
                  refine j_aload_n F 0 dL_law_427 rfl ?_
                  refine j_iload F 4 dL_law_428 rfl ?_
                  refine j_iconst F (v := 3) dL_law_430 (by decide) ?_
                  refine j_iadd F dL_law_431 ?_
                  obtain ⟨hin432, hm⟩ := gd_ok hm
                  refine j_sld F hX hbl hbA (inb_in hin432) dL_law_432 ?_
                  refine j_if_eq F (tgt := 440) dL_law_433 (by decide) hm (fun _ hm => ?_) (fun _ hm => ?_)
                  · refine j_iconst F (v := 0) dL_law_440 (by decide) ?_
                    refine j_sub [0, 1, 2, 3, 4] rfl ?_
                    exact hj441 v4 0 (xs (v4 + 2).toNatClampNeg) (xs (v4 + 1).toNatClampNeg) S  hm
                  · refine j_iconst F (v := 1) dL_law_436 (by decide) ?_
                    refine j_goto F (tgt := 441) dL_law_437 (by decide) ?_
                    refine j_sub [0, 1, 2, 3, 4] rfl ?_
                    exact hj441 v4 1 (xs (v4 + 2).toNatClampNeg) (xs (v4 + 1).toNatClampNeg) S  hm
                · refine sw_if hm (fun esw hm => ?_) (fun n7 hm => ?_)
                  · refine j_swIn F (tgt := 510) dL_law_40 esw (by decide +kernel) (by decide +kernel) (off := 470) (by decide +kernel) (by decide) ?_
                    refine j_aload_n F 1 dL_law_510 rfl ?_
                    refine j_aload_n F 0 dL_law_511 rfl ?_
                    refine j_iload F 4 dL_law_512 rfl ?_
                    refine j_iconst F (v := 1) dL_law_514 (by decide) ?_
                    refine j_iadd F dL_law_515 ?_
                    obtain ⟨hin516, hm⟩ := gd_ok hm
                    refine j_sld F hX hbl hbA (inb_in hin516) dL_law_516 ?_
                    refine j_aload_n F 0 dL_law_517 rfl ?_
                    refine j_iload F 4 dL_law_518 rfl ?_
                    refine j_iconst F (v := 2) dL_law_520 (by decide) ?_
                    refine j_iadd F dL_law_521 ?_
                    obtain ⟨hin522, hm⟩ := gd_ok hm
                    refine j_sld F hX hbl hbA (inb_in hin522) dL_law_522 ?_
                    refine j_aload_n F 0 dL_law_523 rfl ?_
                    refine j_iload F 4 dL_law_524 rfl ?_
                    refine j_iconst F (v := 3) dL_law_526 (by decide) ?_
                    refine j_iadd F dL_law_527 ?_
                    obtain ⟨hin528, hm⟩ := gd_ok hm
                    refine j_sld F hX hbl hbA (inb_in hin528) dL_law_528 ?_
                    refine j_aload_n F 3 dL_law_529 rfl ?_
                    obtain ⟨r530, S530, hc530, hm⟩ := bndE_ok hm
                    refine j_callT F FT (n := 5) (As := [.ref (g.2.1 0), .int (xs (v4 + 1).toNatClampNeg), .int (xs (v4 + 2).toNatClampNeg), .int (xs (v4 + 3).toNatClampNeg), .ref (g.2.1 28)]) (rest := []) (c_L_round l hst g hg (xs (v4 + 1).toNatClampNeg) (xs (v4 + 2).toNatClampNeg) (xs (v4 + 3).toNatClampNeg) S r530 S530 hc530) gw_L_132 (by decide +kernel) ⟨Nat.le_of_ble_eq_true rfl, Nat.le_of_ble_eq_true rfl⟩ ⟨hcc.1, hcc.2⟩ rfl rfl (Nat.le_of_ble_eq_true rfl) dL_law_530 ?_
                    show J p l e room_1 s m args below meth c g A 7 Q (cc0 + 1) (ss0 + 6) 533 [(0, .ref b), (1, .ref (g.2.1 0)), (2, .ref (g.2.1 13)), (3, .ref (g.2.1 28)), (4, .int v4)] [.int r530] S530
                    refine j_istore F (lv' := [(5, .int r530), (0, .ref b), (1, .ref (g.2.1 0)), (2, .ref (g.2.1 13)), (3, .ref (g.2.1 28)), (4, .int v4)]) dL_law_533 (by decide) rfl ?_
                    refine j_aload_n F 3 dL_law_535 rfl ?_
                    refine j_aload_n F 1 dL_law_536 rfl ?_
                    refine j_iload F 5 dL_law_537 rfl ?_
                    refine j_iconst F (v := 1) dL_law_539 (by decide) ?_
                    refine j_iadd F dL_law_540 ?_
                    obtain ⟨hin541, hm⟩ := gd_ok hm
                    refine j_sld F hX hbl hbA (inb_in hin541) dL_law_541 ?_
                    refine j_aload_n F 1 dL_law_542 rfl ?_
                    refine j_iload F 5 dL_law_543 rfl ?_
                    refine j_iconst F (v := 2) dL_law_545 (by decide) ?_
                    refine j_iadd F dL_law_546 ?_
                    obtain ⟨hin547, hm⟩ := gd_ok hm
                    refine j_sld F hX hbl hbA (inb_in hin547) dL_law_547 ?_
                    refine j_aload_n F 1 dL_law_548 rfl ?_
                    refine j_iload F 5 dL_law_549 rfl ?_
                    refine j_iconst F (v := 3) dL_law_551 (by decide) ?_
                    refine j_iadd F dL_law_552 ?_
                    obtain ⟨hin553, hm⟩ := gd_ok hm
                    refine j_sld F hX hbl hbA (inb_in hin553) dL_law_553 ?_
                    obtain ⟨r554, S554, hc554, hm⟩ := bndE_ok hm
                    refine j_callV F (n := 3) (As := [.int (xs (v4 + 1).toNatClampNeg), .int (xs (v4 + 2).toNatClampNeg), .int (xs (v4 + 3).toNatClampNeg)]) (rest := []) (c_X6_round l g hg (xs (v4 + 1).toNatClampNeg) (xs (v4 + 2).toNatClampNeg) (xs (v4 + 3).toNatClampNeg) S530 r554 S554 hc554) gw_L_135 (by decide +kernel) ⟨Nat.le_of_ble_eq_true rfl, Nat.le_of_ble_eq_true rfl⟩ ⟨hcc.1, hcc.2⟩ rfl rfl rfl rfl (Nat.le_of_ble_eq_true rfl) dL_law_554 ?_
                    show J p l e room_1 s m args below meth c g A 7 Q (cc0 + 1) (ss0 + 6) 557 [(5, .int r530), (0, .ref b), (1, .ref (g.2.1 0)), (2, .ref (g.2.1 13)), (3, .ref (g.2.1 28)), (4, .int v4)] [.int r554] S554
                    refine j_istore F (lv' := [(6, .int r554), (5, .int r530), (0, .ref b), (1, .ref (g.2.1 0)), (2, .ref (g.2.1 13)), (3, .ref (g.2.1 28)), (4, .int v4)]) dL_law_557 (by decide) rfl ?_
                    refine j_aload_n F 4 dL_law_559 rfl ?_
                    obtain ⟨r560, hc560, hm⟩ := Option.bind_eq_some_iff.mp hm
                    refine j_callV F (n := 0) (As := []) (rest := []) (c_X6_thrown l g hg S554 r560 hc560) gw_L_106 (by decide +kernel) ⟨Nat.le_of_ble_eq_true rfl, Nat.le_of_ble_eq_true rfl⟩ ⟨hcc.1, hcc.2⟩ rfl rfl rfl rfl (Nat.le_of_ble_eq_true rfl) dL_law_560 ?_
                    show J p l e room_1 s m args below meth c g A 7 Q (cc0 + 1) (ss0 + 6) 563 [(6, .int r554), (5, .int r530), (0, .ref b), (1, .ref (g.2.1 0)), (2, .ref (g.2.1 13)), (3, .ref (g.2.1 28)), (4, .int v4)] [.int r560] S554
                    refine j_iload F 1 dL_law_563 rfl ?_
                    refine j_icmp_eq F (tgt := 570) dL_law_565 (by decide) hm (fun _ hm => ?_) (fun _ hm => ?_)
                    · refine j_iload F 1 dL_law_570 rfl ?_
                      refine j_if_ne F (tgt := 587) dL_law_572 (by decide) hm (fun _ hm => ?_) (fun _ hm => ?_)
                      · refine j_sub [2, 3, 4, 5, 6] rfl ?_
                        exact hj587 v4 S554  hm
                      · refine j_aload_n F 5 dL_law_575 rfl ?_
                        refine j_iconst F (v := 0) dL_law_576 (by decide) ?_
                        refine j_lald F dL_law_577 hm (fun hm => ?_)
                        refine j_iload F 0 dL_law_578 rfl ?_
                        refine j_i2l F dL_law_580 ?_
                        refine j_lcmp F dL_law_581 ?_
                        refine j_if_eq F (tgt := 587) dL_law_582 (by decide) hm (fun _ hm => ?_) (fun _ hm => ?_)
                        · refine j_sub [2, 3, 4, 5, 6] rfl ?_
                          exact hj587 v4 S554  hm
                        · refine j_iconst F (v := 0) dL_law_585 (by decide) ?_
                          cases hm
                    · refine j_iconst F (v := 0) dL_law_568 (by decide) ?_
                      cases hm
                  · refine sw_if hm (fun esw hm => ?_) (fun n8 hm => ?_)
                    · refine j_swIn F (tgt := 590) dL_law_40 esw (by decide +kernel) (by decide +kernel) (off := 550) (by decide +kernel) (by decide) ?_
                      refine j_aload_n F 1 dL_law_590 rfl ?_
                      refine j_aload_n F 0 dL_law_591 rfl ?_
                      refine j_iload F 4 dL_law_592 rfl ?_
                      refine j_iconst F (v := 1) dL_law_594 (by decide) ?_
                      refine j_iadd F dL_law_595 ?_
                      obtain ⟨hin596, hm⟩ := gd_ok hm
                      refine j_sld F hX hbl hbA (inb_in hin596) dL_law_596 ?_
                      refine j_aload_n F 0 dL_law_597 rfl ?_
                      refine j_iload F 4 dL_law_598 rfl ?_
                      refine j_iconst F (v := 2) dL_law_600 (by decide) ?_
                      refine j_iadd F dL_law_601 ?_
                      obtain ⟨hin602, hm⟩ := gd_ok hm
                      refine j_sld F hX hbl hbA (inb_in hin602) dL_law_602 ?_
                      refine j_aload_n F 0 dL_law_603 rfl ?_
                      refine j_iload F 4 dL_law_604 rfl ?_
                      refine j_iconst F (v := 3) dL_law_606 (by decide) ?_
                      refine j_iadd F dL_law_607 ?_
                      obtain ⟨hin608, hm⟩ := gd_ok hm
                      refine j_sld F hX hbl hbA (inb_in hin608) dL_law_608 ?_
                      refine j_aload_n F 3 dL_law_609 rfl ?_
                      obtain ⟨r610, S610, hc610, hm⟩ := bndE_ok hm
                      refine j_callT F FT (n := 5) (As := [.ref (g.2.1 0), .int (xs (v4 + 1).toNatClampNeg), .int (xs (v4 + 2).toNatClampNeg), .int (xs (v4 + 3).toNatClampNeg), .ref (g.2.1 28)]) (rest := []) (c_L_way l hst g hg (xs (v4 + 1).toNatClampNeg) (xs (v4 + 2).toNatClampNeg) (xs (v4 + 3).toNatClampNeg) S r610 S610 hc610) gw_L_136 (by decide +kernel) ⟨Nat.le_of_ble_eq_true rfl, Nat.le_of_ble_eq_true rfl⟩ ⟨hcc.1, hcc.2⟩ rfl rfl (Nat.le_of_ble_eq_true rfl) dL_law_610 ?_
                      show J p l e room_1 s m args below meth c g A 7 Q (cc0 + 1) (ss0 + 6) 613 [(0, .ref b), (1, .ref (g.2.1 0)), (2, .ref (g.2.1 13)), (3, .ref (g.2.1 28)), (4, .int v4)] [.int r610] S610
                      refine j_istore F (lv' := [(5, .int r610), (0, .ref b), (1, .ref (g.2.1 0)), (2, .ref (g.2.1 13)), (3, .ref (g.2.1 28)), (4, .int v4)]) dL_law_613 (by decide) rfl ?_
                      refine j_aload_n F 3 dL_law_615 rfl ?_
                      refine j_aload_n F 1 dL_law_616 rfl ?_
                      refine j_iload F 5 dL_law_617 rfl ?_
                      refine j_iconst F (v := 1) dL_law_619 (by decide) ?_
                      refine j_iadd F dL_law_620 ?_
                      obtain ⟨hin621, hm⟩ := gd_ok hm
                      refine j_sld F hX hbl hbA (inb_in hin621) dL_law_621 ?_
                      refine j_aload_n F 1 dL_law_622 rfl ?_
                      refine j_iload F 5 dL_law_623 rfl ?_
                      refine j_iconst F (v := 2) dL_law_625 (by decide) ?_
                      refine j_iadd F dL_law_626 ?_
                      obtain ⟨hin627, hm⟩ := gd_ok hm
                      refine j_sld F hX hbl hbA (inb_in hin627) dL_law_627 ?_
                      refine j_aload_n F 1 dL_law_628 rfl ?_
                      refine j_iload F 5 dL_law_629 rfl ?_
                      refine j_iconst F (v := 3) dL_law_631 (by decide) ?_
                      refine j_iadd F dL_law_632 ?_
                      obtain ⟨hin633, hm⟩ := gd_ok hm
                      refine j_sld F hX hbl hbA (inb_in hin633) dL_law_633 ?_
                      obtain ⟨r634, S634, hc634, hm⟩ := bndE_ok hm
                      refine j_callV F (n := 3) (As := [.int (xs (v4 + 1).toNatClampNeg), .int (xs (v4 + 2).toNatClampNeg), .int (xs (v4 + 3).toNatClampNeg)]) (rest := []) (c_X6_way l g hg (xs (v4 + 1).toNatClampNeg) (xs (v4 + 2).toNatClampNeg) (xs (v4 + 3).toNatClampNeg) S610 r634 S634 hc634) gw_L_138 (by decide +kernel) ⟨Nat.le_of_ble_eq_true rfl, Nat.le_of_ble_eq_true rfl⟩ ⟨hcc.1, hcc.2⟩ rfl rfl rfl rfl (Nat.le_of_ble_eq_true rfl) dL_law_634 ?_
                      show J p l e room_1 s m args below meth c g A 7 Q (cc0 + 1) (ss0 + 6) 637 [(5, .int r610), (0, .ref b), (1, .ref (g.2.1 0)), (2, .ref (g.2.1 13)), (3, .ref (g.2.1 28)), (4, .int v4)] [.int r634] S634
                      refine j_istore F (lv' := [(6, .int r634), (5, .int r610), (0, .ref b), (1, .ref (g.2.1 0)), (2, .ref (g.2.1 13)), (3, .ref (g.2.1 28)), (4, .int v4)]) dL_law_637 (by decide) rfl ?_
                      refine j_aload_n F 4 dL_law_639 rfl ?_
                      obtain ⟨r640, hc640, hm⟩ := Option.bind_eq_some_iff.mp hm
                      refine j_callV F (n := 0) (As := []) (rest := []) (c_X6_thrown l g hg S634 r640 hc640) gw_L_106 (by decide +kernel) ⟨Nat.le_of_ble_eq_true rfl, Nat.le_of_ble_eq_true rfl⟩ ⟨hcc.1, hcc.2⟩ rfl rfl rfl rfl (Nat.le_of_ble_eq_true rfl) dL_law_640 ?_
                      show J p l e room_1 s m args below meth c g A 7 Q (cc0 + 1) (ss0 + 6) 643 [(6, .int r634), (5, .int r610), (0, .ref b), (1, .ref (g.2.1 0)), (2, .ref (g.2.1 13)), (3, .ref (g.2.1 28)), (4, .int v4)] [.int r640] S634
                      refine j_iload F 1 dL_law_643 rfl ?_
                      refine j_icmp_eq F (tgt := 650) dL_law_645 (by decide) hm (fun _ hm => ?_) (fun _ hm => ?_)
                      · refine j_iload F 1 dL_law_650 rfl ?_
                        refine j_if_ne F (tgt := 667) dL_law_652 (by decide) hm (fun _ hm => ?_) (fun _ hm => ?_)
                        · refine j_sub [2, 3, 4, 5, 6] rfl ?_
                          exact hj667 v4 S634  hm
                        · refine j_aload_n F 5 dL_law_655 rfl ?_
                          refine j_iconst F (v := 0) dL_law_656 (by decide) ?_
                          refine j_lald F dL_law_657 hm (fun hm => ?_)
                          refine j_iload F 0 dL_law_658 rfl ?_
                          refine j_i2l F dL_law_660 ?_
                          refine j_lcmp F dL_law_661 ?_
                          refine j_if_eq F (tgt := 667) dL_law_662 (by decide) hm (fun _ hm => ?_) (fun _ hm => ?_)
                          · refine j_sub [2, 3, 4, 5, 6] rfl ?_
                            exact hj667 v4 S634  hm
                          · refine j_iconst F (v := 0) dL_law_665 (by decide) ?_
                            cases hm
                      · refine j_iconst F (v := 0) dL_law_648 (by decide) ?_
                        cases hm
                    · refine sw_if hm (fun esw hm => ?_) (fun n9 hm => ?_)
                      · refine j_swIn F (tgt := 670) dL_law_40 esw (by decide +kernel) (by decide +kernel) (off := 630) (by decide +kernel) (by decide) ?_
                        refine j_aload_n F 1 dL_law_670 rfl ?_
                        refine j_aload_n F 0 dL_law_671 rfl ?_
                        refine j_iload F 4 dL_law_672 rfl ?_
                        refine j_iconst F (v := 1) dL_law_674 (by decide) ?_
                        refine j_iadd F dL_law_675 ?_
                        obtain ⟨hin676, hm⟩ := gd_ok hm
                        refine j_sld F hX hbl hbA (inb_in hin676) dL_law_676 ?_
                        refine j_aload_n F 0 dL_law_677 rfl ?_
                        refine j_iload F 4 dL_law_678 rfl ?_
                        refine j_iconst F (v := 2) dL_law_680 (by decide) ?_
                        refine j_iadd F dL_law_681 ?_
                        obtain ⟨hin682, hm⟩ := gd_ok hm
                        refine j_sld F hX hbl hbA (inb_in hin682) dL_law_682 ?_
                        refine j_aload_n F 0 dL_law_683 rfl ?_
                        refine j_iload F 4 dL_law_684 rfl ?_
                        refine j_iconst F (v := 3) dL_law_686 (by decide) ?_
                        refine j_iadd F dL_law_687 ?_
                        obtain ⟨hin688, hm⟩ := gd_ok hm
                        refine j_sld F hX hbl hbA (inb_in hin688) dL_law_688 ?_
                        refine j_aload_n F 3 dL_law_689 rfl ?_
                        obtain ⟨r690, S690, hc690, hm⟩ := bndE_ok hm
                        refine j_callT F FT (n := 5) (As := [.ref (g.2.1 0), .int (xs (v4 + 1).toNatClampNeg), .int (xs (v4 + 2).toNatClampNeg), .int (xs (v4 + 3).toNatClampNeg), .ref (g.2.1 28)]) (rest := []) (c_L_proof l hst g hg (xs (v4 + 1).toNatClampNeg) (xs (v4 + 2).toNatClampNeg) (xs (v4 + 3).toNatClampNeg) S r690 S690 hc690) gw_L_139 (by decide +kernel) ⟨Nat.le_of_ble_eq_true rfl, Nat.le_of_ble_eq_true rfl⟩ ⟨hcc.1, hcc.2⟩ rfl rfl (Nat.le_of_ble_eq_true rfl) dL_law_690 ?_
                        show J p l e room_1 s m args below meth c g A 7 Q (cc0 + 1) (ss0 + 6) 693 [(0, .ref b), (1, .ref (g.2.1 0)), (2, .ref (g.2.1 13)), (3, .ref (g.2.1 28)), (4, .int v4)] [.int r690] S690
                        refine j_istore F (lv' := [(5, .int r690), (0, .ref b), (1, .ref (g.2.1 0)), (2, .ref (g.2.1 13)), (3, .ref (g.2.1 28)), (4, .int v4)]) dL_law_693 (by decide) rfl ?_
                        refine j_aload_n F 3 dL_law_695 rfl ?_
                        refine j_aload_n F 1 dL_law_696 rfl ?_
                        refine j_iload F 5 dL_law_697 rfl ?_
                        refine j_iconst F (v := 1) dL_law_699 (by decide) ?_
                        refine j_iadd F dL_law_700 ?_
                        obtain ⟨hin701, hm⟩ := gd_ok hm
                        refine j_sld F hX hbl hbA (inb_in hin701) dL_law_701 ?_
                        refine j_aload_n F 1 dL_law_702 rfl ?_
                        refine j_iload F 5 dL_law_703 rfl ?_
                        refine j_iconst F (v := 2) dL_law_705 (by decide) ?_
                        refine j_iadd F dL_law_706 ?_
                        obtain ⟨hin707, hm⟩ := gd_ok hm
                        refine j_sld F hX hbl hbA (inb_in hin707) dL_law_707 ?_
                        refine j_aload_n F 1 dL_law_708 rfl ?_
                        refine j_iload F 5 dL_law_709 rfl ?_
                        refine j_iconst F (v := 3) dL_law_711 (by decide) ?_
                        refine j_iadd F dL_law_712 ?_
                        obtain ⟨hin713, hm⟩ := gd_ok hm
                        refine j_sld F hX hbl hbA (inb_in hin713) dL_law_713 ?_
                        obtain ⟨r714, S714, hc714, hm⟩ := bndE_ok hm
                        refine j_callV F (n := 3) (As := [.int (xs (v4 + 1).toNatClampNeg), .int (xs (v4 + 2).toNatClampNeg), .int (xs (v4 + 3).toNatClampNeg)]) (rest := []) (c_X6_proof l g hg (xs (v4 + 1).toNatClampNeg) (xs (v4 + 2).toNatClampNeg) (xs (v4 + 3).toNatClampNeg) S690 r714 S714 hc714) gw_L_141 (by decide +kernel) ⟨Nat.le_of_ble_eq_true rfl, Nat.le_of_ble_eq_true rfl⟩ ⟨hcc.1, hcc.2⟩ rfl rfl rfl rfl (Nat.le_of_ble_eq_true rfl) dL_law_714 ?_
                        show J p l e room_1 s m args below meth c g A 7 Q (cc0 + 1) (ss0 + 6) 717 [(5, .int r690), (0, .ref b), (1, .ref (g.2.1 0)), (2, .ref (g.2.1 13)), (3, .ref (g.2.1 28)), (4, .int v4)] [.int r714] S714
                        refine j_istore F (lv' := [(6, .int r714), (5, .int r690), (0, .ref b), (1, .ref (g.2.1 0)), (2, .ref (g.2.1 13)), (3, .ref (g.2.1 28)), (4, .int v4)]) dL_law_717 (by decide) rfl ?_
                        refine j_aload_n F 4 dL_law_719 rfl ?_
                        obtain ⟨r720, hc720, hm⟩ := Option.bind_eq_some_iff.mp hm
                        refine j_callV F (n := 0) (As := []) (rest := []) (c_X6_thrown l g hg S714 r720 hc720) gw_L_106 (by decide +kernel) ⟨Nat.le_of_ble_eq_true rfl, Nat.le_of_ble_eq_true rfl⟩ ⟨hcc.1, hcc.2⟩ rfl rfl rfl rfl (Nat.le_of_ble_eq_true rfl) dL_law_720 ?_
                        show J p l e room_1 s m args below meth c g A 7 Q (cc0 + 1) (ss0 + 6) 723 [(6, .int r714), (5, .int r690), (0, .ref b), (1, .ref (g.2.1 0)), (2, .ref (g.2.1 13)), (3, .ref (g.2.1 28)), (4, .int v4)] [.int r720] S714
                        refine j_iload F 1 dL_law_723 rfl ?_
                        refine j_icmp_eq F (tgt := 730) dL_law_725 (by decide) hm (fun _ hm => ?_) (fun _ hm => ?_)
                        · refine j_iload F 1 dL_law_730 rfl ?_
                          refine j_if_ne F (tgt := 747) dL_law_732 (by decide) hm (fun _ hm => ?_) (fun _ hm => ?_)
                          · refine j_sub [2, 3, 4, 5, 6] rfl ?_
                            exact hj747 v4 S714  hm
                          · refine j_aload_n F 5 dL_law_735 rfl ?_
                            refine j_iconst F (v := 0) dL_law_736 (by decide) ?_
                            refine j_lald F dL_law_737 hm (fun hm => ?_)
                            refine j_iload F 0 dL_law_738 rfl ?_
                            refine j_i2l F dL_law_740 ?_
                            refine j_lcmp F dL_law_741 ?_
                            refine j_if_eq F (tgt := 747) dL_law_742 (by decide) hm (fun _ hm => ?_) (fun _ hm => ?_)
                            · refine j_sub [2, 3, 4, 5, 6] rfl ?_
                              exact hj747 v4 S714  hm
                            · refine j_iconst F (v := 0) dL_law_745 (by decide) ?_
                              cases hm
                        · refine j_iconst F (v := 0) dL_law_728 (by decide) ?_
                          cases hm
                      · refine sw_if hm (fun esw hm => ?_) (fun n10 hm => ?_)
                        · refine j_swIn F (tgt := 750) dL_law_40 esw (by decide +kernel) (by decide +kernel) (off := 710) (by decide +kernel) (by decide) ?_
                          refine j_aload_n F 1 dL_law_750 rfl ?_
                          refine j_aload_n F 0 dL_law_751 rfl ?_
                          refine j_iload F 4 dL_law_752 rfl ?_
                          refine j_iconst F (v := 1) dL_law_754 (by decide) ?_
                          refine j_iadd F dL_law_755 ?_
                          obtain ⟨hin756, hm⟩ := gd_ok hm
                          refine j_sld F hX hbl hbA (inb_in hin756) dL_law_756 ?_
                          refine j_if_eq F (tgt := 764) dL_law_757 (by decide) hm (fun _ hm => ?_) (fun _ hm => ?_)
                          · refine j_iconst F (v := 0) dL_law_764 (by decide) ?_
                            refine j_sub [0, 1, 2, 3, 4] rfl ?_
                            exact hj765 v4 0 S  hm
                          · refine j_iconst F (v := 1) dL_law_760 (by decide) ?_
                            refine j_goto F (tgt := 765) dL_law_761 (by decide) ?_
                            refine j_sub [0, 1, 2, 3, 4] rfl ?_
                            exact hj765 v4 1 S  hm
                        · refine sw_if hm (fun esw hm => ?_) (fun n11 hm => ?_)
                          · refine j_swIn F (tgt := 822) dL_law_40 esw (by decide +kernel) (by decide +kernel) (off := 782) (by decide +kernel) (by decide) ?_
                            refine j_aload_n F 1 dL_law_822 rfl ?_
                            refine j_aload_n F 0 dL_law_823 rfl ?_
                            refine j_iload F 4 dL_law_824 rfl ?_
                            refine j_iconst F (v := 1) dL_law_826 (by decide) ?_
                            refine j_iadd F dL_law_827 ?_
                            obtain ⟨hin828, hm⟩ := gd_ok hm
                            refine j_sld F hX hbl hbA (inb_in hin828) dL_law_828 ?_
                            refine j_aload_n F 3 dL_law_829 rfl ?_
                            obtain ⟨r830, S830, hc830, hm⟩ := bndE_ok hm
                            refine j_callT F FT (n := 3) (As := [.ref (g.2.1 0), .int (xs (v4 + 1).toNatClampNeg), .ref (g.2.1 28)]) (rest := []) (c_L_removeThing l hst g hg (xs (v4 + 1).toNatClampNeg) S r830 S830 hc830) gw_L_146 (by decide +kernel) ⟨Nat.le_of_ble_eq_true rfl, Nat.le_of_ble_eq_true rfl⟩ ⟨hcc.1, hcc.2⟩ rfl rfl (Nat.le_of_ble_eq_true rfl) dL_law_830 ?_
                            show J p l e room_1 s m args below meth c g A 7 Q (cc0 + 1) (ss0 + 6) 833 [(0, .ref b), (1, .ref (g.2.1 0)), (2, .ref (g.2.1 13)), (3, .ref (g.2.1 28)), (4, .int v4)] [.int r830] S830
                            refine j_istore F (lv' := [(5, .int r830), (0, .ref b), (1, .ref (g.2.1 0)), (2, .ref (g.2.1 13)), (3, .ref (g.2.1 28)), (4, .int v4)]) dL_law_833 (by decide) rfl ?_
                            refine j_aload_n F 3 dL_law_835 rfl ?_
                            refine j_aload_n F 1 dL_law_836 rfl ?_
                            refine j_iload F 5 dL_law_837 rfl ?_
                            refine j_iconst F (v := 1) dL_law_839 (by decide) ?_
                            refine j_iadd F dL_law_840 ?_
                            obtain ⟨hin841, hm⟩ := gd_ok hm
                            refine j_sld F hX hbl hbA (inb_in hin841) dL_law_841 ?_
                            obtain ⟨r842, S842, hc842, hm⟩ := bndE_ok hm
                            refine j_callV F (n := 1) (As := [.int (xs (v4 + 1).toNatClampNeg)]) (rest := []) (c_X6_removeThing l g hg (xs (v4 + 1).toNatClampNeg) S830 r842 S842 hc842) gw_L_148 (by decide +kernel) ⟨Nat.le_of_ble_eq_true rfl, Nat.le_of_ble_eq_true rfl⟩ ⟨hcc.1, hcc.2⟩ rfl rfl rfl rfl (Nat.le_of_ble_eq_true rfl) dL_law_842 ?_
                            show J p l e room_1 s m args below meth c g A 7 Q (cc0 + 1) (ss0 + 6) 845 [(5, .int r830), (0, .ref b), (1, .ref (g.2.1 0)), (2, .ref (g.2.1 13)), (3, .ref (g.2.1 28)), (4, .int v4)] [.int r842] S842
                            refine j_istore F (lv' := [(6, .int r842), (5, .int r830), (0, .ref b), (1, .ref (g.2.1 0)), (2, .ref (g.2.1 13)), (3, .ref (g.2.1 28)), (4, .int v4)]) dL_law_845 (by decide) rfl ?_
                            refine j_aload_n F 4 dL_law_847 rfl ?_
                            obtain ⟨r848, hc848, hm⟩ := Option.bind_eq_some_iff.mp hm
                            refine j_callV F (n := 0) (As := []) (rest := []) (c_X6_thrown l g hg S842 r848 hc848) gw_L_106 (by decide +kernel) ⟨Nat.le_of_ble_eq_true rfl, Nat.le_of_ble_eq_true rfl⟩ ⟨hcc.1, hcc.2⟩ rfl rfl rfl rfl (Nat.le_of_ble_eq_true rfl) dL_law_848 ?_
                            show J p l e room_1 s m args below meth c g A 7 Q (cc0 + 1) (ss0 + 6) 851 [(6, .int r842), (5, .int r830), (0, .ref b), (1, .ref (g.2.1 0)), (2, .ref (g.2.1 13)), (3, .ref (g.2.1 28)), (4, .int v4)] [.int r848] S842
                            refine j_iload F 1 dL_law_851 rfl ?_
                            refine j_icmp_eq F (tgt := 858) dL_law_853 (by decide) hm (fun _ hm => ?_) (fun _ hm => ?_)
                            · refine j_iload F 1 dL_law_858 rfl ?_
                              refine j_if_ne F (tgt := 875) dL_law_860 (by decide) hm (fun _ hm => ?_) (fun _ hm => ?_)
                              · refine j_sub [2, 3, 4, 5, 6] rfl ?_
                                exact hj875 v4 S842  hm
                              · refine j_aload_n F 5 dL_law_863 rfl ?_
                                refine j_iconst F (v := 0) dL_law_864 (by decide) ?_
                                refine j_lald F dL_law_865 hm (fun hm => ?_)
                                refine j_iload F 0 dL_law_866 rfl ?_
                                refine j_i2l F dL_law_868 ?_
                                refine j_lcmp F dL_law_869 ?_
                                refine j_if_eq F (tgt := 875) dL_law_870 (by decide) hm (fun _ hm => ?_) (fun _ hm => ?_)
                                · refine j_sub [2, 3, 4, 5, 6] rfl ?_
                                  exact hj875 v4 S842  hm
                                · refine j_iconst F (v := 0) dL_law_873 (by decide) ?_
                                  cases hm
                            · refine j_iconst F (v := 0) dL_law_856 (by decide) ?_
                              cases hm
                          · refine sw_if hm (fun esw hm => ?_) (fun n12 hm => ?_)
                            · refine j_swIn F (tgt := 878) dL_law_40 esw (by decide +kernel) (by decide +kernel) (off := 838) (by decide +kernel) (by decide) ?_
                              refine j_aload_n F 1 dL_law_878 rfl ?_
                              refine j_aload_n F 0 dL_law_879 rfl ?_
                              refine j_iload F 4 dL_law_880 rfl ?_
                              refine j_iconst F (v := 1) dL_law_882 (by decide) ?_
                              refine j_iadd F dL_law_883 ?_
                              obtain ⟨hin884, hm⟩ := gd_ok hm
                              refine j_sld F hX hbl hbA (inb_in hin884) dL_law_884 ?_
                              refine j_aload_n F 0 dL_law_885 rfl ?_
                              refine j_iload F 4 dL_law_886 rfl ?_
                              refine j_iconst F (v := 2) dL_law_888 (by decide) ?_
                              refine j_iadd F dL_law_889 ?_
                              obtain ⟨hin890, hm⟩ := gd_ok hm
                              refine j_sld F hX hbl hbA (inb_in hin890) dL_law_890 ?_
                              refine j_if_eq F (tgt := 898) dL_law_891 (by decide) hm (fun _ hm => ?_) (fun _ hm => ?_)
                              · refine j_iconst F (v := 0) dL_law_898 (by decide) ?_
                                refine j_sub [0, 1, 2, 3, 4] rfl ?_
                                exact hj899 v4 0 (xs (v4 + 1).toNatClampNeg) S  hm
                              · refine j_iconst F (v := 1) dL_law_894 (by decide) ?_
                                refine j_goto F (tgt := 899) dL_law_895 (by decide) ?_
                                refine j_sub [0, 1, 2, 3, 4] rfl ?_
                                exact hj899 v4 1 (xs (v4 + 1).toNatClampNeg) S  hm
                            · refine sw_if hm (fun esw hm => ?_) (fun n13 hm => ?_)
                              · refine j_swIn F (tgt := 962) dL_law_40 esw (by decide +kernel) (by decide +kernel) (off := 922) (by decide +kernel) (by decide) ?_
                                refine j_aload_n F 1 dL_law_962 rfl ?_
                                refine j_aload_n F 0 dL_law_963 rfl ?_
                                refine j_iload F 4 dL_law_964 rfl ?_
                                refine j_iconst F (v := 1) dL_law_966 (by decide) ?_
                                refine j_iadd F dL_law_967 ?_
                                obtain ⟨hin968, hm⟩ := gd_ok hm
                                refine j_sld F hX hbl hbA (inb_in hin968) dL_law_968 ?_
                                refine j_aload_n F 0 dL_law_969 rfl ?_
                                refine j_iload F 4 dL_law_970 rfl ?_
                                refine j_iconst F (v := 2) dL_law_972 (by decide) ?_
                                refine j_iadd F dL_law_973 ?_
                                obtain ⟨hin974, hm⟩ := gd_ok hm
                                refine j_sld F hX hbl hbA (inb_in hin974) dL_law_974 ?_
                                refine j_aload_n F 0 dL_law_975 rfl ?_
                                refine j_iload F 4 dL_law_976 rfl ?_
                                refine j_iconst F (v := 3) dL_law_978 (by decide) ?_
                                refine j_iadd F dL_law_979 ?_
                                obtain ⟨hin980, hm⟩ := gd_ok hm
                                refine j_sld F hX hbl hbA (inb_in hin980) dL_law_980 ?_
                                refine j_aload_n F 0 dL_law_981 rfl ?_
                                refine j_iload F 4 dL_law_982 rfl ?_
                                refine j_iconst F (v := 4) dL_law_984 (by decide) ?_
                                refine j_iadd F dL_law_985 ?_
                                obtain ⟨hin986, hm⟩ := gd_ok hm
                                refine j_sld F hX hbl hbA (inb_in hin986) dL_law_986 ?_
                                refine j_if_eq F (tgt := 994) dL_law_987 (by decide) hm (fun _ hm => ?_) (fun _ hm => ?_)
                                · refine j_iconst F (v := 0) dL_law_994 (by decide) ?_
                                  refine j_sub [0, 1, 2, 3, 4] rfl ?_
                                  exact hj995 v4 0 (xs (v4 + 3).toNatClampNeg) (xs (v4 + 2).toNatClampNeg) (xs (v4 + 1).toNatClampNeg) S  hm
                                · refine j_iconst F (v := 1) dL_law_990 (by decide) ?_
                                  refine j_goto F (tgt := 995) dL_law_991 (by decide) ?_
                                  refine j_sub [0, 1, 2, 3, 4] rfl ?_
                                  exact hj995 v4 1 (xs (v4 + 3).toNatClampNeg) (xs (v4 + 2).toNatClampNeg) (xs (v4 + 1).toNatClampNeg) S  hm
                              · refine sw_if hm (fun esw hm => ?_) (fun n14 hm => ?_)
                                · refine j_swIn F (tgt := 1077) dL_law_40 esw (by decide +kernel) (by decide +kernel) (off := 1037) (by decide +kernel) (by decide) ?_
                                  refine j_aload_n F 1 dL_law_1077 rfl ?_
                                  refine j_aload_n F 0 dL_law_1078 rfl ?_
                                  refine j_iload F 4 dL_law_1079 rfl ?_
                                  refine j_iconst F (v := 1) dL_law_1081 (by decide) ?_
                                  refine j_iadd F dL_law_1082 ?_
                                  obtain ⟨hin1083, hm⟩ := gd_ok hm
                                  refine j_sld F hX hbl hbA (inb_in hin1083) dL_law_1083 ?_
                                  refine j_aload_n F 0 dL_law_1084 rfl ?_
                                  refine j_iload F 4 dL_law_1085 rfl ?_
                                  refine j_iconst F (v := 2) dL_law_1087 (by decide) ?_
                                  refine j_iadd F dL_law_1088 ?_
                                  obtain ⟨hin1089, hm⟩ := gd_ok hm
                                  refine j_sld F hX hbl hbA (inb_in hin1089) dL_law_1089 ?_
                                  refine j_aload_n F 0 dL_law_1090 rfl ?_
                                  refine j_iload F 4 dL_law_1091 rfl ?_
                                  refine j_iconst F (v := 3) dL_law_1093 (by decide) ?_
                                  refine j_iadd F dL_law_1094 ?_
                                  obtain ⟨hin1095, hm⟩ := gd_ok hm
                                  refine j_sld F hX hbl hbA (inb_in hin1095) dL_law_1095 ?_
                                  refine j_aload_n F 0 dL_law_1096 rfl ?_
                                  refine j_iload F 4 dL_law_1097 rfl ?_
                                  refine j_iconst F (v := 4) dL_law_1099 (by decide) ?_
                                  refine j_iadd F dL_law_1100 ?_
                                  obtain ⟨hin1101, hm⟩ := gd_ok hm
                                  refine j_sld F hX hbl hbA (inb_in hin1101) dL_law_1101 ?_
                                  refine j_aload_n F 3 dL_law_1102 rfl ?_
                                  obtain ⟨r1103, S1103, hc1103, hm⟩ := bndE_ok hm
                                  refine j_callT F FT (n := 6) (As := [.ref (g.2.1 0), .int (xs (v4 + 1).toNatClampNeg), .int (xs (v4 + 2).toNatClampNeg), .int (xs (v4 + 3).toNatClampNeg), .int (xs (v4 + 4).toNatClampNeg), .ref (g.2.1 28)]) (rest := []) (c_L_take l hst g hg (xs (v4 + 1).toNatClampNeg) (xs (v4 + 2).toNatClampNeg) (xs (v4 + 3).toNatClampNeg) (xs (v4 + 4).toNatClampNeg) S r1103 S1103 hc1103) gw_L_157 (by decide +kernel) ⟨Nat.le_of_ble_eq_true rfl, Nat.le_of_ble_eq_true rfl⟩ ⟨hcc.1, hcc.2⟩ rfl rfl (Nat.le_of_ble_eq_true rfl) dL_law_1103 ?_
                                  show J p l e room_1 s m args below meth c g A 7 Q (cc0 + 1) (ss0 + 6) 1106 [(0, .ref b), (1, .ref (g.2.1 0)), (2, .ref (g.2.1 13)), (3, .ref (g.2.1 28)), (4, .int v4)] [.int r1103] S1103
                                  refine j_istore F (lv' := [(5, .int r1103), (0, .ref b), (1, .ref (g.2.1 0)), (2, .ref (g.2.1 13)), (3, .ref (g.2.1 28)), (4, .int v4)]) dL_law_1106 (by decide) rfl ?_
                                  refine j_aload_n F 3 dL_law_1108 rfl ?_
                                  refine j_aload_n F 1 dL_law_1109 rfl ?_
                                  refine j_iload F 5 dL_law_1110 rfl ?_
                                  refine j_iconst F (v := 1) dL_law_1112 (by decide) ?_
                                  refine j_iadd F dL_law_1113 ?_
                                  obtain ⟨hin1114, hm⟩ := gd_ok hm
                                  refine j_sld F hX hbl hbA (inb_in hin1114) dL_law_1114 ?_
                                  refine j_aload_n F 1 dL_law_1115 rfl ?_
                                  refine j_iload F 5 dL_law_1116 rfl ?_
                                  refine j_iconst F (v := 2) dL_law_1118 (by decide) ?_
                                  refine j_iadd F dL_law_1119 ?_
                                  obtain ⟨hin1120, hm⟩ := gd_ok hm
                                  refine j_sld F hX hbl hbA (inb_in hin1120) dL_law_1120 ?_
                                  refine j_aload_n F 1 dL_law_1121 rfl ?_
                                  refine j_iload F 5 dL_law_1122 rfl ?_
                                  refine j_iconst F (v := 3) dL_law_1124 (by decide) ?_
                                  refine j_iadd F dL_law_1125 ?_
                                  obtain ⟨hin1126, hm⟩ := gd_ok hm
                                  refine j_sld F hX hbl hbA (inb_in hin1126) dL_law_1126 ?_
                                  refine j_aload_n F 1 dL_law_1127 rfl ?_
                                  refine j_iload F 5 dL_law_1128 rfl ?_
                                  refine j_iconst F (v := 4) dL_law_1130 (by decide) ?_
                                  refine j_iadd F dL_law_1131 ?_
                                  obtain ⟨hin1132, hm⟩ := gd_ok hm
                                  refine j_sld F hX hbl hbA (inb_in hin1132) dL_law_1132 ?_
                                  obtain ⟨r1133, S1133, hc1133, hm⟩ := bndE_ok hm
                                  refine j_callV F (n := 4) (As := [.int (xs (v4 + 1).toNatClampNeg), .int (xs (v4 + 2).toNatClampNeg), .int (xs (v4 + 3).toNatClampNeg), .int (xs (v4 + 4).toNatClampNeg)]) (rest := []) (c_X6_take l g hg (xs (v4 + 1).toNatClampNeg) (xs (v4 + 2).toNatClampNeg) (xs (v4 + 3).toNatClampNeg) (xs (v4 + 4).toNatClampNeg) S1103 r1133 S1133 hc1133) gw_L_160 (by decide +kernel) ⟨Nat.le_of_ble_eq_true rfl, Nat.le_of_ble_eq_true rfl⟩ ⟨hcc.1, hcc.2⟩ rfl rfl rfl rfl (Nat.le_of_ble_eq_true rfl) dL_law_1133 ?_
                                  show J p l e room_1 s m args below meth c g A 7 Q (cc0 + 1) (ss0 + 6) 1136 [(5, .int r1103), (0, .ref b), (1, .ref (g.2.1 0)), (2, .ref (g.2.1 13)), (3, .ref (g.2.1 28)), (4, .int v4)] [.int r1133] S1133
                                  refine j_istore F (lv' := [(6, .int r1133), (5, .int r1103), (0, .ref b), (1, .ref (g.2.1 0)), (2, .ref (g.2.1 13)), (3, .ref (g.2.1 28)), (4, .int v4)]) dL_law_1136 (by decide) rfl ?_
                                  refine j_aload_n F 4 dL_law_1138 rfl ?_
                                  obtain ⟨r1139, hc1139, hm⟩ := Option.bind_eq_some_iff.mp hm
                                  refine j_callV F (n := 0) (As := []) (rest := []) (c_X6_thrown l g hg S1133 r1139 hc1139) gw_L_106 (by decide +kernel) ⟨Nat.le_of_ble_eq_true rfl, Nat.le_of_ble_eq_true rfl⟩ ⟨hcc.1, hcc.2⟩ rfl rfl rfl rfl (Nat.le_of_ble_eq_true rfl) dL_law_1139 ?_
                                  show J p l e room_1 s m args below meth c g A 7 Q (cc0 + 1) (ss0 + 6) 1142 [(6, .int r1133), (5, .int r1103), (0, .ref b), (1, .ref (g.2.1 0)), (2, .ref (g.2.1 13)), (3, .ref (g.2.1 28)), (4, .int v4)] [.int r1139] S1133
                                  refine j_iload F 1 dL_law_1142 rfl ?_
                                  refine j_icmp_eq F (tgt := 1149) dL_law_1144 (by decide) hm (fun _ hm => ?_) (fun _ hm => ?_)
                                  · refine j_iload F 1 dL_law_1149 rfl ?_
                                    refine j_if_ne F (tgt := 1166) dL_law_1151 (by decide) hm (fun _ hm => ?_) (fun _ hm => ?_)
                                    · refine j_sub [2, 3, 4, 5, 6] rfl ?_
                                      exact hj1166 v4 S1133  hm
                                    · refine j_aload_n F 5 dL_law_1154 rfl ?_
                                      refine j_iconst F (v := 0) dL_law_1155 (by decide) ?_
                                      refine j_lald F dL_law_1156 hm (fun hm => ?_)
                                      refine j_iload F 0 dL_law_1157 rfl ?_
                                      refine j_i2l F dL_law_1159 ?_
                                      refine j_lcmp F dL_law_1160 ?_
                                      refine j_if_eq F (tgt := 1166) dL_law_1161 (by decide) hm (fun _ hm => ?_) (fun _ hm => ?_)
                                      · refine j_sub [2, 3, 4, 5, 6] rfl ?_
                                        exact hj1166 v4 S1133  hm
                                      · refine j_iconst F (v := 0) dL_law_1164 (by decide) ?_
                                        cases hm
                                  · refine j_iconst F (v := 0) dL_law_1147 (by decide) ?_
                                    cases hm
                                · refine sw_if hm (fun esw hm => ?_) (fun n15 hm => ?_)
                                  · refine j_swIn F (tgt := 1169) dL_law_40 esw (by decide +kernel) (by decide +kernel) (off := 1129) (by decide +kernel) (by decide) ?_
                                    refine j_aload_n F 1 dL_law_1169 rfl ?_
                                    refine j_aload_n F 0 dL_law_1170 rfl ?_
                                    refine j_iload F 4 dL_law_1171 rfl ?_
                                    refine j_iconst F (v := 1) dL_law_1173 (by decide) ?_
                                    refine j_iadd F dL_law_1174 ?_
                                    obtain ⟨hin1175, hm⟩ := gd_ok hm
                                    refine j_sld F hX hbl hbA (inb_in hin1175) dL_law_1175 ?_
                                    refine j_aload_n F 0 dL_law_1176 rfl ?_
                                    refine j_iload F 4 dL_law_1177 rfl ?_
                                    refine j_iconst F (v := 2) dL_law_1179 (by decide) ?_
                                    refine j_iadd F dL_law_1180 ?_
                                    obtain ⟨hin1181, hm⟩ := gd_ok hm
                                    refine j_sld F hX hbl hbA (inb_in hin1181) dL_law_1181 ?_
                                    refine j_aload_n F 0 dL_law_1182 rfl ?_
                                    refine j_iload F 4 dL_law_1183 rfl ?_
                                    refine j_iconst F (v := 3) dL_law_1185 (by decide) ?_
                                    refine j_iadd F dL_law_1186 ?_
                                    obtain ⟨hin1187, hm⟩ := gd_ok hm
                                    refine j_sld F hX hbl hbA (inb_in hin1187) dL_law_1187 ?_
                                    refine j_aload_n F 0 dL_law_1188 rfl ?_
                                    refine j_iload F 4 dL_law_1189 rfl ?_
                                    refine j_iconst F (v := 4) dL_law_1191 (by decide) ?_
                                    refine j_iadd F dL_law_1192 ?_
                                    obtain ⟨hin1193, hm⟩ := gd_ok hm
                                    refine j_sld F hX hbl hbA (inb_in hin1193) dL_law_1193 ?_
                                    refine j_aload_n F 3 dL_law_1194 rfl ?_
                                    obtain ⟨r1195, S1195, hc1195, hm⟩ := bndE_ok hm
                                    refine j_callT F FT (n := 6) (As := [.ref (g.2.1 0), .int (xs (v4 + 1).toNatClampNeg), .int (xs (v4 + 2).toNatClampNeg), .int (xs (v4 + 3).toNatClampNeg), .int (xs (v4 + 4).toNatClampNeg), .ref (g.2.1 28)]) (rest := []) (c_L_give l hst g hg (xs (v4 + 1).toNatClampNeg) (xs (v4 + 2).toNatClampNeg) (xs (v4 + 3).toNatClampNeg) (xs (v4 + 4).toNatClampNeg) S r1195 S1195 hc1195) gw_L_161 (by decide +kernel) ⟨Nat.le_of_ble_eq_true rfl, Nat.le_of_ble_eq_true rfl⟩ ⟨hcc.1, hcc.2⟩ rfl rfl (Nat.le_of_ble_eq_true rfl) dL_law_1195 ?_
                                    show J p l e room_1 s m args below meth c g A 7 Q (cc0 + 1) (ss0 + 6) 1198 [(0, .ref b), (1, .ref (g.2.1 0)), (2, .ref (g.2.1 13)), (3, .ref (g.2.1 28)), (4, .int v4)] [.int r1195] S1195
                                    refine j_istore F (lv' := [(5, .int r1195), (0, .ref b), (1, .ref (g.2.1 0)), (2, .ref (g.2.1 13)), (3, .ref (g.2.1 28)), (4, .int v4)]) dL_law_1198 (by decide) rfl ?_
                                    refine j_aload_n F 3 dL_law_1200 rfl ?_
                                    refine j_aload_n F 1 dL_law_1201 rfl ?_
                                    refine j_iload F 5 dL_law_1202 rfl ?_
                                    refine j_iconst F (v := 1) dL_law_1204 (by decide) ?_
                                    refine j_iadd F dL_law_1205 ?_
                                    obtain ⟨hin1206, hm⟩ := gd_ok hm
                                    refine j_sld F hX hbl hbA (inb_in hin1206) dL_law_1206 ?_
                                    refine j_aload_n F 1 dL_law_1207 rfl ?_
                                    refine j_iload F 5 dL_law_1208 rfl ?_
                                    refine j_iconst F (v := 2) dL_law_1210 (by decide) ?_
                                    refine j_iadd F dL_law_1211 ?_
                                    obtain ⟨hin1212, hm⟩ := gd_ok hm
                                    refine j_sld F hX hbl hbA (inb_in hin1212) dL_law_1212 ?_
                                    refine j_aload_n F 1 dL_law_1213 rfl ?_
                                    refine j_iload F 5 dL_law_1214 rfl ?_
                                    refine j_iconst F (v := 3) dL_law_1216 (by decide) ?_
                                    refine j_iadd F dL_law_1217 ?_
                                    obtain ⟨hin1218, hm⟩ := gd_ok hm
                                    refine j_sld F hX hbl hbA (inb_in hin1218) dL_law_1218 ?_
                                    refine j_aload_n F 1 dL_law_1219 rfl ?_
                                    refine j_iload F 5 dL_law_1220 rfl ?_
                                    refine j_iconst F (v := 4) dL_law_1222 (by decide) ?_
                                    refine j_iadd F dL_law_1223 ?_
                                    obtain ⟨hin1224, hm⟩ := gd_ok hm
                                    refine j_sld F hX hbl hbA (inb_in hin1224) dL_law_1224 ?_
                                    obtain ⟨r1225, S1225, hc1225, hm⟩ := bndE_ok hm
                                    refine j_callV F (n := 4) (As := [.int (xs (v4 + 1).toNatClampNeg), .int (xs (v4 + 2).toNatClampNeg), .int (xs (v4 + 3).toNatClampNeg), .int (xs (v4 + 4).toNatClampNeg)]) (rest := []) (c_X6_give l g hg (xs (v4 + 1).toNatClampNeg) (xs (v4 + 2).toNatClampNeg) (xs (v4 + 3).toNatClampNeg) (xs (v4 + 4).toNatClampNeg) S1195 r1225 S1225 hc1225) gw_L_163 (by decide +kernel) ⟨Nat.le_of_ble_eq_true rfl, Nat.le_of_ble_eq_true rfl⟩ ⟨hcc.1, hcc.2⟩ rfl rfl rfl rfl (Nat.le_of_ble_eq_true rfl) dL_law_1225 ?_
                                    show J p l e room_1 s m args below meth c g A 7 Q (cc0 + 1) (ss0 + 6) 1228 [(5, .int r1195), (0, .ref b), (1, .ref (g.2.1 0)), (2, .ref (g.2.1 13)), (3, .ref (g.2.1 28)), (4, .int v4)] [.int r1225] S1225
                                    refine j_istore F (lv' := [(6, .int r1225), (5, .int r1195), (0, .ref b), (1, .ref (g.2.1 0)), (2, .ref (g.2.1 13)), (3, .ref (g.2.1 28)), (4, .int v4)]) dL_law_1228 (by decide) rfl ?_
                                    refine j_aload_n F 4 dL_law_1230 rfl ?_
                                    obtain ⟨r1231, hc1231, hm⟩ := Option.bind_eq_some_iff.mp hm
                                    refine j_callV F (n := 0) (As := []) (rest := []) (c_X6_thrown l g hg S1225 r1231 hc1231) gw_L_106 (by decide +kernel) ⟨Nat.le_of_ble_eq_true rfl, Nat.le_of_ble_eq_true rfl⟩ ⟨hcc.1, hcc.2⟩ rfl rfl rfl rfl (Nat.le_of_ble_eq_true rfl) dL_law_1231 ?_
                                    show J p l e room_1 s m args below meth c g A 7 Q (cc0 + 1) (ss0 + 6) 1234 [(6, .int r1225), (5, .int r1195), (0, .ref b), (1, .ref (g.2.1 0)), (2, .ref (g.2.1 13)), (3, .ref (g.2.1 28)), (4, .int v4)] [.int r1231] S1225
                                    refine j_iload F 1 dL_law_1234 rfl ?_
                                    refine j_icmp_eq F (tgt := 1241) dL_law_1236 (by decide) hm (fun _ hm => ?_) (fun _ hm => ?_)
                                    · refine j_iload F 1 dL_law_1241 rfl ?_
                                      refine j_if_ne F (tgt := 1258) dL_law_1243 (by decide) hm (fun _ hm => ?_) (fun _ hm => ?_)
                                      · refine j_sub [2, 3, 4, 5, 6] rfl ?_
                                        exact hj1258 v4 S1225  hm
                                      · refine j_aload_n F 5 dL_law_1246 rfl ?_
                                        refine j_iconst F (v := 0) dL_law_1247 (by decide) ?_
                                        refine j_lald F dL_law_1248 hm (fun hm => ?_)
                                        refine j_iload F 0 dL_law_1249 rfl ?_
                                        refine j_i2l F dL_law_1251 ?_
                                        refine j_lcmp F dL_law_1252 ?_
                                        refine j_if_eq F (tgt := 1258) dL_law_1253 (by decide) hm (fun _ hm => ?_) (fun _ hm => ?_)
                                        · refine j_sub [2, 3, 4, 5, 6] rfl ?_
                                          exact hj1258 v4 S1225  hm
                                        · refine j_iconst F (v := 0) dL_law_1256 (by decide) ?_
                                          cases hm
                                    · refine j_iconst F (v := 0) dL_law_1239 (by decide) ?_
                                      cases hm
                                  · refine sw_if hm (fun esw hm => ?_) (fun n16 hm => ?_)
                                    · refine j_swIn F (tgt := 1261) dL_law_40 esw (by decide +kernel) (by decide +kernel) (off := 1221) (by decide +kernel) (by decide) ?_
                                      refine j_aload_n F 1 dL_law_1261 rfl ?_
                                      refine j_aload_n F 3 dL_law_1262 rfl ?_
                                      obtain ⟨r1263, S1263, hc1263, hm⟩ := bndE_ok hm
                                      refine j_callT F FT (n := 2) (As := [.ref (g.2.1 0), .ref (g.2.1 28)]) (rest := []) (c_L_undo l hst g hg S r1263 S1263 hc1263) gw_L_164 (by decide +kernel) ⟨Nat.le_of_ble_eq_true rfl, Nat.le_of_ble_eq_true rfl⟩ ⟨hcc.1, hcc.2⟩ rfl rfl (Nat.le_of_ble_eq_true rfl) dL_law_1263 ?_
                                      show J p l e room_1 s m args below meth c g A 7 Q (cc0 + 1) (ss0 + 6) 1266 [(0, .ref b), (1, .ref (g.2.1 0)), (2, .ref (g.2.1 13)), (3, .ref (g.2.1 28)), (4, .int v4)] [.int r1263] S1263
                                      refine j_istore F (lv' := [(5, .int r1263), (0, .ref b), (1, .ref (g.2.1 0)), (2, .ref (g.2.1 13)), (3, .ref (g.2.1 28)), (4, .int v4)]) dL_law_1266 (by decide) rfl ?_
                                      refine j_aload_n F 3 dL_law_1268 rfl ?_
                                      obtain ⟨r1269, S1269, hc1269, hm⟩ := bndE_ok hm
                                      refine j_callV F (n := 0) (As := []) (rest := []) (c_X6_undo l g hg S1263 r1269 S1269 hc1269) gw_L_166 (by decide +kernel) ⟨Nat.le_of_ble_eq_true rfl, Nat.le_of_ble_eq_true rfl⟩ ⟨hcc.1, hcc.2⟩ rfl rfl rfl rfl (Nat.le_of_ble_eq_true rfl) dL_law_1269 ?_
                                      show J p l e room_1 s m args below meth c g A 7 Q (cc0 + 1) (ss0 + 6) 1272 [(5, .int r1263), (0, .ref b), (1, .ref (g.2.1 0)), (2, .ref (g.2.1 13)), (3, .ref (g.2.1 28)), (4, .int v4)] [.int r1269] S1269
                                      refine j_istore F (lv' := [(6, .int r1269), (5, .int r1263), (0, .ref b), (1, .ref (g.2.1 0)), (2, .ref (g.2.1 13)), (3, .ref (g.2.1 28)), (4, .int v4)]) dL_law_1272 (by decide) rfl ?_
                                      refine j_aload_n F 4 dL_law_1274 rfl ?_
                                      obtain ⟨r1275, hc1275, hm⟩ := Option.bind_eq_some_iff.mp hm
                                      refine j_callV F (n := 0) (As := []) (rest := []) (c_X6_thrown l g hg S1269 r1275 hc1275) gw_L_106 (by decide +kernel) ⟨Nat.le_of_ble_eq_true rfl, Nat.le_of_ble_eq_true rfl⟩ ⟨hcc.1, hcc.2⟩ rfl rfl rfl rfl (Nat.le_of_ble_eq_true rfl) dL_law_1275 ?_
                                      show J p l e room_1 s m args below meth c g A 7 Q (cc0 + 1) (ss0 + 6) 1278 [(6, .int r1269), (5, .int r1263), (0, .ref b), (1, .ref (g.2.1 0)), (2, .ref (g.2.1 13)), (3, .ref (g.2.1 28)), (4, .int v4)] [.int r1275] S1269
                                      refine j_iload F 1 dL_law_1278 rfl ?_
                                      refine j_icmp_eq F (tgt := 1285) dL_law_1280 (by decide) hm (fun _ hm => ?_) (fun _ hm => ?_)
                                      · refine j_iload F 1 dL_law_1285 rfl ?_
                                        refine j_if_ne F (tgt := 1302) dL_law_1287 (by decide) hm (fun _ hm => ?_) (fun _ hm => ?_)
                                        · refine j_sub [2, 3, 4, 5, 6] rfl ?_
                                          exact hj1302 v4 S1269  hm
                                        · refine j_aload_n F 5 dL_law_1290 rfl ?_
                                          refine j_iconst F (v := 0) dL_law_1291 (by decide) ?_
                                          refine j_lald F dL_law_1292 hm (fun hm => ?_)
                                          refine j_iload F 0 dL_law_1293 rfl ?_
                                          refine j_i2l F dL_law_1295 ?_
                                          refine j_lcmp F dL_law_1296 ?_
                                          refine j_if_eq F (tgt := 1302) dL_law_1297 (by decide) hm (fun _ hm => ?_) (fun _ hm => ?_)
                                          · refine j_sub [2, 3, 4, 5, 6] rfl ?_
                                            exact hj1302 v4 S1269  hm
                                          · refine j_iconst F (v := 0) dL_law_1300 (by decide) ?_
                                            cases hm
                                      · refine j_iconst F (v := 0) dL_law_1283 (by decide) ?_
                                        cases hm
                                    · refine sw_if hm (fun esw hm => ?_) (fun n17 hm => ?_)
                                      · refine j_swIn F (tgt := 1305) dL_law_40 esw (by decide +kernel) (by decide +kernel) (off := 1265) (by decide +kernel) (by decide) ?_
                                        refine j_aload_n F 1 dL_law_1305 rfl ?_
                                        refine j_aload_n F 0 dL_law_1306 rfl ?_
                                        refine j_iload F 4 dL_law_1307 rfl ?_
                                        refine j_iconst F (v := 1) dL_law_1309 (by decide) ?_
                                        refine j_iadd F dL_law_1310 ?_
                                        obtain ⟨hin1311, hm⟩ := gd_ok hm
                                        refine j_sld F hX hbl hbA (inb_in hin1311) dL_law_1311 ?_
                                        refine j_if_eq F (tgt := 1319) dL_law_1312 (by decide) hm (fun _ hm => ?_) (fun _ hm => ?_)
                                        · refine j_iconst F (v := 0) dL_law_1319 (by decide) ?_
                                          refine j_sub [0, 1, 2, 3, 4] rfl ?_
                                          exact hj1320 v4 0 S  hm
                                        · refine j_iconst F (v := 1) dL_law_1315 (by decide) ?_
                                          refine j_goto F (tgt := 1320) dL_law_1316 (by decide) ?_
                                          refine j_sub [0, 1, 2, 3, 4] rfl ?_
                                          exact hj1320 v4 1 S  hm
                                      · refine sw_if hm (fun esw hm => ?_) (fun n18 hm => ?_)
                                        · refine j_swIn F (tgt := 1425) dL_law_40 esw (by decide +kernel) (by decide +kernel) (off := 1385) (by decide +kernel) (by decide) ?_
                                          refine j_aload_n F 1 dL_law_1425 rfl ?_
                                          refine j_aload_n F 0 dL_law_1426 rfl ?_
                                          refine j_iload F 4 dL_law_1427 rfl ?_
                                          refine j_iconst F (v := 1) dL_law_1429 (by decide) ?_
                                          refine j_iadd F dL_law_1430 ?_
                                          obtain ⟨hin1431, hm⟩ := gd_ok hm
                                          refine j_sld F hX hbl hbA (inb_in hin1431) dL_law_1431 ?_
                                          refine j_aload_n F 0 dL_law_1432 rfl ?_
                                          refine j_iload F 4 dL_law_1433 rfl ?_
                                          refine j_iconst F (v := 2) dL_law_1435 (by decide) ?_
                                          refine j_iadd F dL_law_1436 ?_
                                          obtain ⟨hin1437, hm⟩ := gd_ok hm
                                          refine j_sld F hX hbl hbA (inb_in hin1437) dL_law_1437 ?_
                                          refine j_aload_n F 0 dL_law_1438 rfl ?_
                                          refine j_iload F 4 dL_law_1439 rfl ?_
                                          refine j_iconst F (v := 3) dL_law_1441 (by decide) ?_
                                          refine j_iadd F dL_law_1442 ?_
                                          obtain ⟨hin1443, hm⟩ := gd_ok hm
                                          refine j_sld F hX hbl hbA (inb_in hin1443) dL_law_1443 ?_
                                          refine j_aload_n F 3 dL_law_1444 rfl ?_
                                          obtain ⟨r1445, S1445, hc1445, hm⟩ := bndE_ok hm
                                          refine j_callT F FT (n := 5) (As := [.ref (g.2.1 0), .int (xs (v4 + 1).toNatClampNeg), .int (xs (v4 + 2).toNatClampNeg), .int (xs (v4 + 3).toNatClampNeg), .ref (g.2.1 28)]) (rest := []) (c_L_needed l hst g hg (xs (v4 + 1).toNatClampNeg) (xs (v4 + 2).toNatClampNeg) (xs (v4 + 3).toNatClampNeg) S r1445 S1445 hc1445) gw_L_171 (by decide +kernel) ⟨Nat.le_of_ble_eq_true rfl, Nat.le_of_ble_eq_true rfl⟩ ⟨hcc.1, hcc.2⟩ rfl rfl (Nat.le_of_ble_eq_true rfl) dL_law_1445 ?_
                                          show J p l e room_1 s m args below meth c g A 7 Q (cc0 + 1) (ss0 + 6) 1448 [(0, .ref b), (1, .ref (g.2.1 0)), (2, .ref (g.2.1 13)), (3, .ref (g.2.1 28)), (4, .int v4)] [.int r1445] S1445
                                          refine j_istore F (lv' := [(5, .int r1445), (0, .ref b), (1, .ref (g.2.1 0)), (2, .ref (g.2.1 13)), (3, .ref (g.2.1 28)), (4, .int v4)]) dL_law_1448 (by decide) rfl ?_
                                          refine j_aload_n F 3 dL_law_1450 rfl ?_
                                          refine j_aload_n F 1 dL_law_1451 rfl ?_
                                          refine j_iload F 5 dL_law_1452 rfl ?_
                                          refine j_iconst F (v := 1) dL_law_1454 (by decide) ?_
                                          refine j_iadd F dL_law_1455 ?_
                                          obtain ⟨hin1456, hm⟩ := gd_ok hm
                                          refine j_sld F hX hbl hbA (inb_in hin1456) dL_law_1456 ?_
                                          refine j_aload_n F 1 dL_law_1457 rfl ?_
                                          refine j_iload F 5 dL_law_1458 rfl ?_
                                          refine j_iconst F (v := 2) dL_law_1460 (by decide) ?_
                                          refine j_iadd F dL_law_1461 ?_
                                          obtain ⟨hin1462, hm⟩ := gd_ok hm
                                          refine j_sld F hX hbl hbA (inb_in hin1462) dL_law_1462 ?_
                                          refine j_aload_n F 1 dL_law_1463 rfl ?_
                                          refine j_iload F 5 dL_law_1464 rfl ?_
                                          refine j_iconst F (v := 3) dL_law_1466 (by decide) ?_
                                          refine j_iadd F dL_law_1467 ?_
                                          obtain ⟨hin1468, hm⟩ := gd_ok hm
                                          refine j_sld F hX hbl hbA (inb_in hin1468) dL_law_1468 ?_
                                          obtain ⟨r1469, S1469, hc1469, hm⟩ := bndE_ok hm
                                          refine j_callV F (n := 3) (As := [.int (xs (v4 + 1).toNatClampNeg), .int (xs (v4 + 2).toNatClampNeg), .int (xs (v4 + 3).toNatClampNeg)]) (rest := []) (c_X6_needed l g hg (xs (v4 + 1).toNatClampNeg) (xs (v4 + 2).toNatClampNeg) (xs (v4 + 3).toNatClampNeg) S1445 r1469 S1469 hc1469) gw_L_173 (by decide +kernel) ⟨Nat.le_of_ble_eq_true rfl, Nat.le_of_ble_eq_true rfl⟩ ⟨hcc.1, hcc.2⟩ rfl rfl rfl rfl (Nat.le_of_ble_eq_true rfl) dL_law_1469 ?_
                                          show J p l e room_1 s m args below meth c g A 7 Q (cc0 + 1) (ss0 + 6) 1472 [(5, .int r1445), (0, .ref b), (1, .ref (g.2.1 0)), (2, .ref (g.2.1 13)), (3, .ref (g.2.1 28)), (4, .int v4)] [.int r1469] S1469
                                          refine j_istore F (lv' := [(6, .int r1469), (5, .int r1445), (0, .ref b), (1, .ref (g.2.1 0)), (2, .ref (g.2.1 13)), (3, .ref (g.2.1 28)), (4, .int v4)]) dL_law_1472 (by decide) rfl ?_
                                          refine j_aload_n F 4 dL_law_1474 rfl ?_
                                          obtain ⟨r1475, hc1475, hm⟩ := Option.bind_eq_some_iff.mp hm
                                          refine j_callV F (n := 0) (As := []) (rest := []) (c_X6_thrown l g hg S1469 r1475 hc1475) gw_L_106 (by decide +kernel) ⟨Nat.le_of_ble_eq_true rfl, Nat.le_of_ble_eq_true rfl⟩ ⟨hcc.1, hcc.2⟩ rfl rfl rfl rfl (Nat.le_of_ble_eq_true rfl) dL_law_1475 ?_
                                          show J p l e room_1 s m args below meth c g A 7 Q (cc0 + 1) (ss0 + 6) 1478 [(6, .int r1469), (5, .int r1445), (0, .ref b), (1, .ref (g.2.1 0)), (2, .ref (g.2.1 13)), (3, .ref (g.2.1 28)), (4, .int v4)] [.int r1475] S1469
                                          refine j_iload F 1 dL_law_1478 rfl ?_
                                          refine j_icmp_eq F (tgt := 1485) dL_law_1480 (by decide) hm (fun _ hm => ?_) (fun _ hm => ?_)
                                          · refine j_iload F 1 dL_law_1485 rfl ?_
                                            refine j_if_ne F (tgt := 1502) dL_law_1487 (by decide) hm (fun _ hm => ?_) (fun _ hm => ?_)
                                            · refine j_sub [2, 3, 4, 5, 6] rfl ?_
                                              exact hj1502 v4 S1469  hm
                                            · refine j_aload_n F 5 dL_law_1490 rfl ?_
                                              refine j_iconst F (v := 0) dL_law_1491 (by decide) ?_
                                              refine j_lald F dL_law_1492 hm (fun hm => ?_)
                                              refine j_iload F 0 dL_law_1493 rfl ?_
                                              refine j_i2l F dL_law_1495 ?_
                                              refine j_lcmp F dL_law_1496 ?_
                                              refine j_if_eq F (tgt := 1502) dL_law_1497 (by decide) hm (fun _ hm => ?_) (fun _ hm => ?_)
                                              · refine j_sub [2, 3, 4, 5, 6] rfl ?_
                                                exact hj1502 v4 S1469  hm
                                              · refine j_iconst F (v := 0) dL_law_1500 (by decide) ?_
                                                cases hm
                                          · refine j_iconst F (v := 0) dL_law_1483 (by decide) ?_
                                            cases hm
                                        · refine sw_if hm (fun esw hm => ?_) (fun n19 hm => ?_)
                                          · refine j_swIn F (tgt := 1505) dL_law_40 esw (by decide +kernel) (by decide +kernel) (off := 1465) (by decide +kernel) (by decide) ?_
                                            refine j_aload_n F 1 dL_law_1505 rfl ?_
                                            refine j_aload_n F 0 dL_law_1506 rfl ?_
                                            refine j_iload F 4 dL_law_1507 rfl ?_
                                            refine j_iconst F (v := 1) dL_law_1509 (by decide) ?_
                                            refine j_iadd F dL_law_1510 ?_
                                            obtain ⟨hin1511, hm⟩ := gd_ok hm
                                            refine j_sld F hX hbl hbA (inb_in hin1511) dL_law_1511 ?_
                                            refine j_aload_n F 0 dL_law_1512 rfl ?_
                                            refine j_iload F 4 dL_law_1513 rfl ?_
                                            refine j_iconst F (v := 2) dL_law_1515 (by decide) ?_
                                            refine j_iadd F dL_law_1516 ?_
                                            obtain ⟨hin1517, hm⟩ := gd_ok hm
                                            refine j_sld F hX hbl hbA (inb_in hin1517) dL_law_1517 ?_
                                            refine j_aload_n F 0 dL_law_1518 rfl ?_
                                            refine j_iload F 4 dL_law_1519 rfl ?_
                                            refine j_iconst F (v := 3) dL_law_1521 (by decide) ?_
                                            refine j_iadd F dL_law_1522 ?_
                                            obtain ⟨hin1523, hm⟩ := gd_ok hm
                                            refine j_sld F hX hbl hbA (inb_in hin1523) dL_law_1523 ?_
                                            refine j_aload_n F 3 dL_law_1524 rfl ?_
                                            obtain ⟨r1525, S1525, hc1525, hm⟩ := bndE_ok hm
                                            refine j_callT F FT (n := 5) (As := [.ref (g.2.1 0), .int (xs (v4 + 1).toNatClampNeg), .int (xs (v4 + 2).toNatClampNeg), .int (xs (v4 + 3).toNatClampNeg), .ref (g.2.1 28)]) (rest := []) (c_L_cut l hst g hg (xs (v4 + 1).toNatClampNeg) (xs (v4 + 2).toNatClampNeg) (xs (v4 + 3).toNatClampNeg) S r1525 S1525 hc1525) gw_L_174 (by decide +kernel) ⟨Nat.le_of_ble_eq_true rfl, Nat.le_of_ble_eq_true rfl⟩ ⟨hcc.1, hcc.2⟩ rfl rfl (Nat.le_of_ble_eq_true rfl) dL_law_1525 ?_
                                            show J p l e room_1 s m args below meth c g A 7 Q (cc0 + 1) (ss0 + 6) 1528 [(0, .ref b), (1, .ref (g.2.1 0)), (2, .ref (g.2.1 13)), (3, .ref (g.2.1 28)), (4, .int v4)] [.int r1525] S1525
                                            refine j_istore F (lv' := [(5, .int r1525), (0, .ref b), (1, .ref (g.2.1 0)), (2, .ref (g.2.1 13)), (3, .ref (g.2.1 28)), (4, .int v4)]) dL_law_1528 (by decide) rfl ?_
                                            refine j_aload_n F 3 dL_law_1530 rfl ?_
                                            refine j_aload_n F 1 dL_law_1531 rfl ?_
                                            refine j_iload F 5 dL_law_1532 rfl ?_
                                            refine j_iconst F (v := 1) dL_law_1534 (by decide) ?_
                                            refine j_iadd F dL_law_1535 ?_
                                            obtain ⟨hin1536, hm⟩ := gd_ok hm
                                            refine j_sld F hX hbl hbA (inb_in hin1536) dL_law_1536 ?_
                                            refine j_aload_n F 1 dL_law_1537 rfl ?_
                                            refine j_iload F 5 dL_law_1538 rfl ?_
                                            refine j_iconst F (v := 2) dL_law_1540 (by decide) ?_
                                            refine j_iadd F dL_law_1541 ?_
                                            obtain ⟨hin1542, hm⟩ := gd_ok hm
                                            refine j_sld F hX hbl hbA (inb_in hin1542) dL_law_1542 ?_
                                            refine j_aload_n F 1 dL_law_1543 rfl ?_
                                            refine j_iload F 5 dL_law_1544 rfl ?_
                                            refine j_iconst F (v := 3) dL_law_1546 (by decide) ?_
                                            refine j_iadd F dL_law_1547 ?_
                                            obtain ⟨hin1548, hm⟩ := gd_ok hm
                                            refine j_sld F hX hbl hbA (inb_in hin1548) dL_law_1548 ?_
                                            obtain ⟨r1549, S1549, hc1549, hm⟩ := bndE_ok hm
                                            refine j_callV F (n := 3) (As := [.int (xs (v4 + 1).toNatClampNeg), .int (xs (v4 + 2).toNatClampNeg), .int (xs (v4 + 3).toNatClampNeg)]) (rest := []) (c_X6_cut l g hg (xs (v4 + 1).toNatClampNeg) (xs (v4 + 2).toNatClampNeg) (xs (v4 + 3).toNatClampNeg) S1525 r1549 S1549 hc1549) gw_L_176 (by decide +kernel) ⟨Nat.le_of_ble_eq_true rfl, Nat.le_of_ble_eq_true rfl⟩ ⟨hcc.1, hcc.2⟩ rfl rfl rfl rfl (Nat.le_of_ble_eq_true rfl) dL_law_1549 ?_
                                            show J p l e room_1 s m args below meth c g A 7 Q (cc0 + 1) (ss0 + 6) 1552 [(5, .int r1525), (0, .ref b), (1, .ref (g.2.1 0)), (2, .ref (g.2.1 13)), (3, .ref (g.2.1 28)), (4, .int v4)] [.int r1549] S1549
                                            refine j_istore F (lv' := [(6, .int r1549), (5, .int r1525), (0, .ref b), (1, .ref (g.2.1 0)), (2, .ref (g.2.1 13)), (3, .ref (g.2.1 28)), (4, .int v4)]) dL_law_1552 (by decide) rfl ?_
                                            refine j_aload_n F 4 dL_law_1554 rfl ?_
                                            obtain ⟨r1555, hc1555, hm⟩ := Option.bind_eq_some_iff.mp hm
                                            refine j_callV F (n := 0) (As := []) (rest := []) (c_X6_thrown l g hg S1549 r1555 hc1555) gw_L_106 (by decide +kernel) ⟨Nat.le_of_ble_eq_true rfl, Nat.le_of_ble_eq_true rfl⟩ ⟨hcc.1, hcc.2⟩ rfl rfl rfl rfl (Nat.le_of_ble_eq_true rfl) dL_law_1555 ?_
                                            show J p l e room_1 s m args below meth c g A 7 Q (cc0 + 1) (ss0 + 6) 1558 [(6, .int r1549), (5, .int r1525), (0, .ref b), (1, .ref (g.2.1 0)), (2, .ref (g.2.1 13)), (3, .ref (g.2.1 28)), (4, .int v4)] [.int r1555] S1549
                                            refine j_iload F 1 dL_law_1558 rfl ?_
                                            refine j_icmp_eq F (tgt := 1565) dL_law_1560 (by decide) hm (fun _ hm => ?_) (fun _ hm => ?_)
                                            · refine j_iload F 1 dL_law_1565 rfl ?_
                                              refine j_if_ne F (tgt := 1582) dL_law_1567 (by decide) hm (fun _ hm => ?_) (fun _ hm => ?_)
                                              · refine j_sub [2, 3, 4, 5, 6] rfl ?_
                                                exact hj1582 v4 S1549  hm
                                              · refine j_aload_n F 5 dL_law_1570 rfl ?_
                                                refine j_iconst F (v := 0) dL_law_1571 (by decide) ?_
                                                refine j_lald F dL_law_1572 hm (fun hm => ?_)
                                                refine j_iload F 0 dL_law_1573 rfl ?_
                                                refine j_i2l F dL_law_1575 ?_
                                                refine j_lcmp F dL_law_1576 ?_
                                                refine j_if_eq F (tgt := 1582) dL_law_1577 (by decide) hm (fun _ hm => ?_) (fun _ hm => ?_)
                                                · refine j_sub [2, 3, 4, 5, 6] rfl ?_
                                                  exact hj1582 v4 S1549  hm
                                                · refine j_iconst F (v := 0) dL_law_1580 (by decide) ?_
                                                  cases hm
                                            · refine j_iconst F (v := 0) dL_law_1563 (by decide) ?_
                                              cases hm
                                          · refine sw_if hm (fun esw hm => ?_) (fun n20 hm => ?_)
                                            · refine j_swIn F (tgt := 1585) dL_law_40 esw (by decide +kernel) (by decide +kernel) (off := 1545) (by decide +kernel) (by decide) ?_
                                              refine j_aload_n F 1 dL_law_1585 rfl ?_
                                              refine j_aload_n F 0 dL_law_1586 rfl ?_
                                              refine j_iload F 4 dL_law_1587 rfl ?_
                                              refine j_iconst F (v := 1) dL_law_1589 (by decide) ?_
                                              refine j_iadd F dL_law_1590 ?_
                                              obtain ⟨hin1591, hm⟩ := gd_ok hm
                                              refine j_sld F hX hbl hbA (inb_in hin1591) dL_law_1591 ?_
                                              refine j_aload_n F 0 dL_law_1592 rfl ?_
                                              refine j_iload F 4 dL_law_1593 rfl ?_
                                              refine j_iconst F (v := 2) dL_law_1595 (by decide) ?_
                                              refine j_iadd F dL_law_1596 ?_
                                              obtain ⟨hin1597, hm⟩ := gd_ok hm
                                              refine j_sld F hX hbl hbA (inb_in hin1597) dL_law_1597 ?_
                                              refine j_aload_n F 0 dL_law_1598 rfl ?_
                                              refine j_iload F 4 dL_law_1599 rfl ?_
                                              refine j_iconst F (v := 3) dL_law_1601 (by decide) ?_
                                              refine j_iadd F dL_law_1602 ?_
                                              obtain ⟨hin1603, hm⟩ := gd_ok hm
                                              refine j_sld F hX hbl hbA (inb_in hin1603) dL_law_1603 ?_
                                              refine j_aload_n F 0 dL_law_1604 rfl ?_
                                              refine j_iload F 4 dL_law_1605 rfl ?_
                                              refine j_iconst F (v := 4) dL_law_1607 (by decide) ?_
                                              refine j_iadd F dL_law_1608 ?_
                                              obtain ⟨hin1609, hm⟩ := gd_ok hm
                                              refine j_sld F hX hbl hbA (inb_in hin1609) dL_law_1609 ?_
                                              refine j_aload_n F 3 dL_law_1610 rfl ?_
                                              obtain ⟨r1611, S1611, hc1611, hm⟩ := bndE_ok hm
                                              refine j_callT F FT (n := 6) (As := [.ref (g.2.1 0), .int (xs (v4 + 1).toNatClampNeg), .int (xs (v4 + 2).toNatClampNeg), .int (xs (v4 + 3).toNatClampNeg), .int (xs (v4 + 4).toNatClampNeg), .ref (g.2.1 28)]) (rest := []) (c_L_cutAt l hst g hg (xs (v4 + 1).toNatClampNeg) (xs (v4 + 2).toNatClampNeg) (xs (v4 + 3).toNatClampNeg) (xs (v4 + 4).toNatClampNeg) S r1611 S1611 hc1611) gw_L_177 (by decide +kernel) ⟨Nat.le_of_ble_eq_true rfl, Nat.le_of_ble_eq_true rfl⟩ ⟨hcc.1, hcc.2⟩ rfl rfl (Nat.le_of_ble_eq_true rfl) dL_law_1611 ?_
                                              show J p l e room_1 s m args below meth c g A 7 Q (cc0 + 1) (ss0 + 6) 1614 [(0, .ref b), (1, .ref (g.2.1 0)), (2, .ref (g.2.1 13)), (3, .ref (g.2.1 28)), (4, .int v4)] [.int r1611] S1611
                                              refine j_istore F (lv' := [(5, .int r1611), (0, .ref b), (1, .ref (g.2.1 0)), (2, .ref (g.2.1 13)), (3, .ref (g.2.1 28)), (4, .int v4)]) dL_law_1614 (by decide) rfl ?_
                                              refine j_aload_n F 3 dL_law_1616 rfl ?_
                                              refine j_aload_n F 1 dL_law_1617 rfl ?_
                                              refine j_iload F 5 dL_law_1618 rfl ?_
                                              refine j_iconst F (v := 1) dL_law_1620 (by decide) ?_
                                              refine j_iadd F dL_law_1621 ?_
                                              obtain ⟨hin1622, hm⟩ := gd_ok hm
                                              refine j_sld F hX hbl hbA (inb_in hin1622) dL_law_1622 ?_
                                              refine j_aload_n F 1 dL_law_1623 rfl ?_
                                              refine j_iload F 5 dL_law_1624 rfl ?_
                                              refine j_iconst F (v := 2) dL_law_1626 (by decide) ?_
                                              refine j_iadd F dL_law_1627 ?_
                                              obtain ⟨hin1628, hm⟩ := gd_ok hm
                                              refine j_sld F hX hbl hbA (inb_in hin1628) dL_law_1628 ?_
                                              refine j_aload_n F 1 dL_law_1629 rfl ?_
                                              refine j_iload F 5 dL_law_1630 rfl ?_
                                              refine j_iconst F (v := 3) dL_law_1632 (by decide) ?_
                                              refine j_iadd F dL_law_1633 ?_
                                              obtain ⟨hin1634, hm⟩ := gd_ok hm
                                              refine j_sld F hX hbl hbA (inb_in hin1634) dL_law_1634 ?_
                                              refine j_aload_n F 1 dL_law_1635 rfl ?_
                                              refine j_iload F 5 dL_law_1636 rfl ?_
                                              refine j_iconst F (v := 4) dL_law_1638 (by decide) ?_
                                              refine j_iadd F dL_law_1639 ?_
                                              obtain ⟨hin1640, hm⟩ := gd_ok hm
                                              refine j_sld F hX hbl hbA (inb_in hin1640) dL_law_1640 ?_
                                              obtain ⟨r1641, S1641, hc1641, hm⟩ := bndE_ok hm
                                              refine j_callV F (n := 4) (As := [.int (xs (v4 + 1).toNatClampNeg), .int (xs (v4 + 2).toNatClampNeg), .int (xs (v4 + 3).toNatClampNeg), .int (xs (v4 + 4).toNatClampNeg)]) (rest := []) (c_X6_cutAt l g hg (xs (v4 + 1).toNatClampNeg) (xs (v4 + 2).toNatClampNeg) (xs (v4 + 3).toNatClampNeg) (xs (v4 + 4).toNatClampNeg) S1611 r1641 S1641 hc1641) gw_L_179 (by decide +kernel) ⟨Nat.le_of_ble_eq_true rfl, Nat.le_of_ble_eq_true rfl⟩ ⟨hcc.1, hcc.2⟩ rfl rfl rfl rfl (Nat.le_of_ble_eq_true rfl) dL_law_1641 ?_
                                              show J p l e room_1 s m args below meth c g A 7 Q (cc0 + 1) (ss0 + 6) 1644 [(5, .int r1611), (0, .ref b), (1, .ref (g.2.1 0)), (2, .ref (g.2.1 13)), (3, .ref (g.2.1 28)), (4, .int v4)] [.int r1641] S1641
                                              refine j_istore F (lv' := [(6, .int r1641), (5, .int r1611), (0, .ref b), (1, .ref (g.2.1 0)), (2, .ref (g.2.1 13)), (3, .ref (g.2.1 28)), (4, .int v4)]) dL_law_1644 (by decide) rfl ?_
                                              refine j_aload_n F 4 dL_law_1646 rfl ?_
                                              obtain ⟨r1647, hc1647, hm⟩ := Option.bind_eq_some_iff.mp hm
                                              refine j_callV F (n := 0) (As := []) (rest := []) (c_X6_thrown l g hg S1641 r1647 hc1647) gw_L_106 (by decide +kernel) ⟨Nat.le_of_ble_eq_true rfl, Nat.le_of_ble_eq_true rfl⟩ ⟨hcc.1, hcc.2⟩ rfl rfl rfl rfl (Nat.le_of_ble_eq_true rfl) dL_law_1647 ?_
                                              show J p l e room_1 s m args below meth c g A 7 Q (cc0 + 1) (ss0 + 6) 1650 [(6, .int r1641), (5, .int r1611), (0, .ref b), (1, .ref (g.2.1 0)), (2, .ref (g.2.1 13)), (3, .ref (g.2.1 28)), (4, .int v4)] [.int r1647] S1641
                                              refine j_iload F 1 dL_law_1650 rfl ?_
                                              refine j_icmp_eq F (tgt := 1657) dL_law_1652 (by decide) hm (fun _ hm => ?_) (fun _ hm => ?_)
                                              · refine j_iload F 1 dL_law_1657 rfl ?_
                                                refine j_if_ne F (tgt := 1674) dL_law_1659 (by decide) hm (fun _ hm => ?_) (fun _ hm => ?_)
                                                · refine j_sub [2, 3, 4, 5, 6] rfl ?_
                                                  exact hj1674 v4 S1641  hm
                                                · refine j_aload_n F 5 dL_law_1662 rfl ?_
                                                  refine j_iconst F (v := 0) dL_law_1663 (by decide) ?_
                                                  refine j_lald F dL_law_1664 hm (fun hm => ?_)
                                                  refine j_iload F 0 dL_law_1665 rfl ?_
                                                  refine j_i2l F dL_law_1667 ?_
                                                  refine j_lcmp F dL_law_1668 ?_
                                                  refine j_if_eq F (tgt := 1674) dL_law_1669 (by decide) hm (fun _ hm => ?_) (fun _ hm => ?_)
                                                  · refine j_sub [2, 3, 4, 5, 6] rfl ?_
                                                    exact hj1674 v4 S1641  hm
                                                  · refine j_iconst F (v := 0) dL_law_1672 (by decide) ?_
                                                    cases hm
                                              · refine j_iconst F (v := 0) dL_law_1655 (by decide) ?_
                                                cases hm
                                            · refine sw_if hm (fun esw hm => ?_) (fun n21 hm => ?_)
                                              · refine j_swIn F (tgt := 1677) dL_law_40 esw (by decide +kernel) (by decide +kernel) (off := 1637) (by decide +kernel) (by decide) ?_
                                                refine j_aload_n F 1 dL_law_1677 rfl ?_
                                                obtain ⟨r1678, S1678, hc1678, hm⟩ := bndE_ok hm
                                                refine j_callV F (n := 0) (As := []) (rest := []) (c_X5_sleeper l g hg S r1678 S1678 hc1678) gw_L_180 (by decide +kernel) ⟨Nat.le_of_ble_eq_true rfl, Nat.le_of_ble_eq_true rfl⟩ ⟨Nat.le_of_succ_le hcc.1, Nat.le_trans (Nat.le_add_right _ 6) hcc.2⟩ rfl rfl rfl rfl (Nat.le_of_ble_eq_true rfl) dL_law_1678 ?_
                                                show J p l e room_1 s m args below meth c g A 7 Q cc0 ss0 1681 [(0, .ref b), (1, .ref (g.2.1 0)), (2, .ref (g.2.1 13)), (3, .ref (g.2.1 28)), (4, .int v4)] [.int r1678] S1678
                                                refine j_aload_n F 2 dL_law_1681 rfl ?_
                                                obtain ⟨r1682, S1682, hc1682, hm⟩ := bndE_ok hm
                                                refine j_callV F (n := 0) (As := []) (rest := [.int r1678]) (c_X6_sleeper l g hg S1678 r1682 S1682 hc1682) gw_L_183 (by decide +kernel) ⟨Nat.le_of_ble_eq_true rfl, Nat.le_of_ble_eq_true rfl⟩ ⟨Nat.le_of_succ_le hcc.1, Nat.le_trans (Nat.le_add_right _ 6) hcc.2⟩ rfl rfl rfl rfl (Nat.le_of_ble_eq_true rfl) dL_law_1682 ?_
                                                show J p l e room_1 s m args below meth c g A 7 Q cc0 ss0 1685 [(0, .ref b), (1, .ref (g.2.1 0)), (2, .ref (g.2.1 13)), (3, .ref (g.2.1 28)), (4, .int v4)] [.int r1682, .int r1678] S1682
                                                refine j_icmp_eq F (tgt := 2015) dL_law_1685 (by decide) hm (fun _ hm => ?_) (fun _ hm => ?_)
                                                · refine j_widen (Nat.le_succ _) (Nat.le_add_right _ 6) ?_
                                                  refine j_sub [0, 1, 2, 3, 4] rfl ?_
                                                  exact hj2015 v4 S1682  hm
                                                · refine j_iconst F (v := 0) dL_law_1688 (by decide) ?_
                                                  cases hm
                                              · refine sw_if hm (fun esw hm => ?_) (fun n22 hm => ?_)
                                                · refine j_swIn F (tgt := 1690) dL_law_40 esw (by decide +kernel) (by decide +kernel) (off := 1650) (by decide +kernel) (by decide) ?_
                                                  refine j_aload_n F 1 dL_law_1690 rfl ?_
                                                  obtain ⟨r1691, S1691, hc1691, hm⟩ := bndE_ok hm
                                                  refine j_callV F (n := 0) (As := []) (rest := []) (c_X5_danger l g hg S r1691 S1691 hc1691) gw_L_184 (by decide +kernel) ⟨Nat.le_of_ble_eq_true rfl, Nat.le_of_ble_eq_true rfl⟩ ⟨Nat.le_of_succ_le hcc.1, Nat.le_trans (Nat.le_add_right _ 6) hcc.2⟩ rfl rfl rfl rfl (Nat.le_of_ble_eq_true rfl) dL_law_1691 ?_
                                                  show J p l e room_1 s m args below meth c g A 7 Q cc0 ss0 1694 [(0, .ref b), (1, .ref (g.2.1 0)), (2, .ref (g.2.1 13)), (3, .ref (g.2.1 28)), (4, .int v4)] [.int r1691] S1691
                                                  refine j_aload_n F 2 dL_law_1694 rfl ?_
                                                  obtain ⟨r1695, S1695, hc1695, hm⟩ := bndE_ok hm
                                                  refine j_callV F (n := 0) (As := []) (rest := [.int r1691]) (c_X6_danger l g hg S1691 r1695 S1695 hc1695) gw_L_187 (by decide +kernel) ⟨Nat.le_of_ble_eq_true rfl, Nat.le_of_ble_eq_true rfl⟩ ⟨Nat.le_of_succ_le hcc.1, Nat.le_trans (Nat.le_add_right _ 6) hcc.2⟩ rfl rfl rfl rfl (Nat.le_of_ble_eq_true rfl) dL_law_1695 ?_
                                                  show J p l e room_1 s m args below meth c g A 7 Q cc0 ss0 1698 [(0, .ref b), (1, .ref (g.2.1 0)), (2, .ref (g.2.1 13)), (3, .ref (g.2.1 28)), (4, .int v4)] [.int r1695, .int r1691] S1695
                                                  refine j_icmp_eq F (tgt := 2015) dL_law_1698 (by decide) hm (fun _ hm => ?_) (fun _ hm => ?_)
                                                  · refine j_widen (Nat.le_succ _) (Nat.le_add_right _ 6) ?_
                                                    refine j_sub [0, 1, 2, 3, 4] rfl ?_
                                                    exact hj2015 v4 S1695  hm
                                                  · refine j_iconst F (v := 0) dL_law_1701 (by decide) ?_
                                                    cases hm
                                                · refine sw_if hm (fun esw hm => ?_) (fun n23 hm => ?_)
                                                  · refine j_swIn F (tgt := 1703) dL_law_40 esw (by decide +kernel) (by decide +kernel) (off := 1663) (by decide +kernel) (by decide) ?_
                                                    refine j_aload_n F 1 dL_law_1703 rfl ?_
                                                    refine j_aload_n F 0 dL_law_1704 rfl ?_
                                                    refine j_iload F 4 dL_law_1705 rfl ?_
                                                    refine j_iconst F (v := 1) dL_law_1707 (by decide) ?_
                                                    refine j_iadd F dL_law_1708 ?_
                                                    obtain ⟨hin1709, hm⟩ := gd_ok hm
                                                    refine j_sld F hX hbl hbA (inb_in hin1709) dL_law_1709 ?_
                                                    refine j_aload_n F 0 dL_law_1710 rfl ?_
                                                    refine j_iload F 4 dL_law_1711 rfl ?_
                                                    refine j_iconst F (v := 2) dL_law_1713 (by decide) ?_
                                                    refine j_iadd F dL_law_1714 ?_
                                                    obtain ⟨hin1715, hm⟩ := gd_ok hm
                                                    refine j_sld F hX hbl hbA (inb_in hin1715) dL_law_1715 ?_
                                                    refine j_i2l F dL_law_1716 ?_
                                                    refine j_bipush F (v := 32) dL_law_1717 (by decide) ?_
                                                    refine j_lshl F dL_law_1719 ?_
                                                    refine j_aload_n F 0 dL_law_1720 rfl ?_
                                                    refine j_iload F 4 dL_law_1721 rfl ?_
                                                    refine j_iconst F (v := 3) dL_law_1723 (by decide) ?_
                                                    refine j_iadd F dL_law_1724 ?_
                                                    obtain ⟨hin1725, hm⟩ := gd_ok hm
                                                    refine j_sld F hX hbl hbA (inb_in hin1725) dL_law_1725 ?_
                                                    refine j_i2l F dL_law_1726 ?_
                                                    refine j_ldc2 F (v := 4294967295) dL_law_1727 tw841 ?_
                                                    refine j_land F dL_law_1730 ?_
                                                    refine j_lor F dL_law_1731 ?_
                                                    refine j_aload_n F 3 dL_law_1732 rfl ?_
                                                    obtain ⟨r1733, S1733, hc1733, hm⟩ := bndE_ok hm
                                                    refine j_callT F FT (n := 4) (As := [.ref (g.2.1 0), .int (xs (v4 + 1).toNatClampNeg), .long ((lshl ((xs (v4 + 2).toNatClampNeg).toInt64) 32) ||| (((xs (v4 + 3).toNatClampNeg).toInt64) &&& 4294967295)), .ref (g.2.1 28)]) (rest := []) (c_L_runScript l hst g hg (xs (v4 + 1).toNatClampNeg) ((lshl ((xs (v4 + 2).toNatClampNeg).toInt64) 32) ||| (((xs (v4 + 3).toNatClampNeg).toInt64) &&& 4294967295)) S r1733 S1733 hc1733) gw_L_190 (by decide +kernel) ⟨Nat.le_of_ble_eq_true rfl, Nat.le_of_ble_eq_true rfl⟩ ⟨hcc.1, hcc.2⟩ rfl rfl (Nat.le_of_ble_eq_true rfl) dL_law_1733 ?_
                                                    show J p l e room_1 s m args below meth c g A 7 Q (cc0 + 1) (ss0 + 6) 1736 [(0, .ref b), (1, .ref (g.2.1 0)), (2, .ref (g.2.1 13)), (3, .ref (g.2.1 28)), (4, .int v4)] [.int r1733] S1733
                                                    refine j_istore F (lv' := [(5, .int r1733), (0, .ref b), (1, .ref (g.2.1 0)), (2, .ref (g.2.1 13)), (3, .ref (g.2.1 28)), (4, .int v4)]) dL_law_1736 (by decide) rfl ?_
                                                    refine j_aload_n F 3 dL_law_1738 rfl ?_
                                                    refine j_aload_n F 1 dL_law_1739 rfl ?_
                                                    refine j_iload F 5 dL_law_1740 rfl ?_
                                                    refine j_iconst F (v := 1) dL_law_1742 (by decide) ?_
                                                    refine j_iadd F dL_law_1743 ?_
                                                    obtain ⟨hin1744, hm⟩ := gd_ok hm
                                                    refine j_sld F hX hbl hbA (inb_in hin1744) dL_law_1744 ?_
                                                    refine j_aload_n F 1 dL_law_1745 rfl ?_
                                                    refine j_iload F 5 dL_law_1746 rfl ?_
                                                    refine j_iconst F (v := 2) dL_law_1748 (by decide) ?_
                                                    refine j_iadd F dL_law_1749 ?_
                                                    obtain ⟨hin1750, hm⟩ := gd_ok hm
                                                    refine j_sld F hX hbl hbA (inb_in hin1750) dL_law_1750 ?_
                                                    refine j_i2l F dL_law_1751 ?_
                                                    refine j_bipush F (v := 32) dL_law_1752 (by decide) ?_
                                                    refine j_lshl F dL_law_1754 ?_
                                                    refine j_aload_n F 1 dL_law_1755 rfl ?_
                                                    refine j_iload F 5 dL_law_1756 rfl ?_
                                                    refine j_iconst F (v := 3) dL_law_1758 (by decide) ?_
                                                    refine j_iadd F dL_law_1759 ?_
                                                    obtain ⟨hin1760, hm⟩ := gd_ok hm
                                                    refine j_sld F hX hbl hbA (inb_in hin1760) dL_law_1760 ?_
                                                    refine j_i2l F dL_law_1761 ?_
                                                    refine j_ldc2 F (v := 4294967295) dL_law_1762 tw841 ?_
                                                    refine j_land F dL_law_1765 ?_
                                                    refine j_lor F dL_law_1766 ?_
                                                    obtain ⟨r1767, S1767, hc1767, hm⟩ := bndE_ok hm
                                                    refine j_callV F (n := 2) (As := [.int (xs (v4 + 1).toNatClampNeg), .long ((lshl ((xs (v4 + 2).toNatClampNeg).toInt64) 32) ||| (((xs (v4 + 3).toNatClampNeg).toInt64) &&& 4294967295))]) (rest := []) (c_X6_runScript l g hg (xs (v4 + 1).toNatClampNeg) ((lshl ((xs (v4 + 2).toNatClampNeg).toInt64) 32) ||| (((xs (v4 + 3).toNatClampNeg).toInt64) &&& 4294967295)) S1733 r1767 S1767 hc1767) gw_L_193 (by decide +kernel) ⟨Nat.le_of_ble_eq_true rfl, Nat.le_of_ble_eq_true rfl⟩ ⟨hcc.1, hcc.2⟩ rfl rfl rfl rfl (Nat.le_of_ble_eq_true rfl) dL_law_1767 ?_
                                                    show J p l e room_1 s m args below meth c g A 7 Q (cc0 + 1) (ss0 + 6) 1770 [(5, .int r1733), (0, .ref b), (1, .ref (g.2.1 0)), (2, .ref (g.2.1 13)), (3, .ref (g.2.1 28)), (4, .int v4)] [.int r1767] S1767
                                                    refine j_istore F (lv' := [(6, .int r1767), (5, .int r1733), (0, .ref b), (1, .ref (g.2.1 0)), (2, .ref (g.2.1 13)), (3, .ref (g.2.1 28)), (4, .int v4)]) dL_law_1770 (by decide) rfl ?_
                                                    refine j_aload_n F 4 dL_law_1772 rfl ?_
                                                    obtain ⟨r1773, hc1773, hm⟩ := Option.bind_eq_some_iff.mp hm
                                                    refine j_callV F (n := 0) (As := []) (rest := []) (c_X6_thrown l g hg S1767 r1773 hc1773) gw_L_106 (by decide +kernel) ⟨Nat.le_of_ble_eq_true rfl, Nat.le_of_ble_eq_true rfl⟩ ⟨hcc.1, hcc.2⟩ rfl rfl rfl rfl (Nat.le_of_ble_eq_true rfl) dL_law_1773 ?_
                                                    show J p l e room_1 s m args below meth c g A 7 Q (cc0 + 1) (ss0 + 6) 1776 [(6, .int r1767), (5, .int r1733), (0, .ref b), (1, .ref (g.2.1 0)), (2, .ref (g.2.1 13)), (3, .ref (g.2.1 28)), (4, .int v4)] [.int r1773] S1767
                                                    refine j_iload F 1 dL_law_1776 rfl ?_
                                                    refine j_icmp_eq F (tgt := 1783) dL_law_1778 (by decide) hm (fun _ hm => ?_) (fun _ hm => ?_)
                                                    · refine j_iload F 1 dL_law_1783 rfl ?_
                                                      refine j_if_ne F (tgt := 1800) dL_law_1785 (by decide) hm (fun _ hm => ?_) (fun _ hm => ?_)
                                                      · refine j_sub [2, 3, 4, 5, 6] rfl ?_
                                                        exact hj1800 v4 S1767  hm
                                                      · refine j_aload_n F 5 dL_law_1788 rfl ?_
                                                        refine j_iconst F (v := 0) dL_law_1789 (by decide) ?_
                                                        refine j_lald F dL_law_1790 hm (fun hm => ?_)
                                                        refine j_iload F 0 dL_law_1791 rfl ?_
                                                        refine j_i2l F dL_law_1793 ?_
                                                        refine j_lcmp F dL_law_1794 ?_
                                                        refine j_if_eq F (tgt := 1800) dL_law_1795 (by decide) hm (fun _ hm => ?_) (fun _ hm => ?_)
                                                        · refine j_sub [2, 3, 4, 5, 6] rfl ?_
                                                          exact hj1800 v4 S1767  hm
                                                        · refine j_iconst F (v := 0) dL_law_1798 (by decide) ?_
                                                          cases hm
                                                    · refine j_iconst F (v := 0) dL_law_1781 (by decide) ?_
                                                      cases hm
                                                  · refine sw_if hm (fun esw hm => ?_) (fun n24 hm => ?_)
                                                    · refine j_swIn F (tgt := 1803) dL_law_40 esw (by decide +kernel) (by decide +kernel) (off := 1763) (by decide +kernel) (by decide) ?_
                                                      refine j_aload_n F 1 dL_law_1803 rfl ?_
                                                      refine j_aload_n F 0 dL_law_1804 rfl ?_
                                                      refine j_iload F 4 dL_law_1805 rfl ?_
                                                      refine j_iconst F (v := 1) dL_law_1807 (by decide) ?_
                                                      refine j_iadd F dL_law_1808 ?_
                                                      obtain ⟨hin1809, hm⟩ := gd_ok hm
                                                      refine j_sld F hX hbl hbA (inb_in hin1809) dL_law_1809 ?_
                                                      refine j_i2l F dL_law_1810 ?_
                                                      refine j_bipush F (v := 32) dL_law_1811 (by decide) ?_
                                                      refine j_lshl F dL_law_1813 ?_
                                                      refine j_aload_n F 0 dL_law_1814 rfl ?_
                                                      refine j_iload F 4 dL_law_1815 rfl ?_
                                                      refine j_iconst F (v := 2) dL_law_1817 (by decide) ?_
                                                      refine j_iadd F dL_law_1818 ?_
                                                      obtain ⟨hin1819, hm⟩ := gd_ok hm
                                                      refine j_sld F hX hbl hbA (inb_in hin1819) dL_law_1819 ?_
                                                      refine j_i2l F dL_law_1820 ?_
                                                      refine j_ldc2 F (v := 4294967295) dL_law_1821 tw841 ?_
                                                      refine j_land F dL_law_1824 ?_
                                                      refine j_lor F dL_law_1825 ?_
                                                      refine j_aload_n F 0 dL_law_1826 rfl ?_
                                                      refine j_iload F 4 dL_law_1827 rfl ?_
                                                      refine j_iconst F (v := 3) dL_law_1829 (by decide) ?_
                                                      refine j_iadd F dL_law_1830 ?_
                                                      obtain ⟨hin1831, hm⟩ := gd_ok hm
                                                      refine j_sld F hX hbl hbA (inb_in hin1831) dL_law_1831 ?_
                                                      refine j_aload_n F 3 dL_law_1832 rfl ?_
                                                      obtain ⟨r1833, S1833, hc1833, hm⟩ := bndE_ok hm
                                                      refine j_callT F FT (n := 4) (As := [.ref (g.2.1 0), .long ((lshl ((xs (v4 + 1).toNatClampNeg).toInt64) 32) ||| (((xs (v4 + 2).toNatClampNeg).toInt64) &&& 4294967295)), .int (xs (v4 + 3).toNatClampNeg), .ref (g.2.1 28)]) (rest := []) (c_L_simulate l hst g hg ((lshl ((xs (v4 + 1).toNatClampNeg).toInt64) 32) ||| (((xs (v4 + 2).toNatClampNeg).toInt64) &&& 4294967295)) (xs (v4 + 3).toNatClampNeg) S r1833 S1833 hc1833) gw_L_194 (by decide +kernel) ⟨Nat.le_of_ble_eq_true rfl, Nat.le_of_ble_eq_true rfl⟩ ⟨hcc.1, hcc.2⟩ rfl rfl (Nat.le_of_ble_eq_true rfl) dL_law_1833 ?_
                                                      show J p l e room_1 s m args below meth c g A 7 Q (cc0 + 1) (ss0 + 6) 1836 [(0, .ref b), (1, .ref (g.2.1 0)), (2, .ref (g.2.1 13)), (3, .ref (g.2.1 28)), (4, .int v4)] [.int r1833] S1833
                                                      refine j_istore F (lv' := [(5, .int r1833), (0, .ref b), (1, .ref (g.2.1 0)), (2, .ref (g.2.1 13)), (3, .ref (g.2.1 28)), (4, .int v4)]) dL_law_1836 (by decide) rfl ?_
                                                      refine j_aload_n F 3 dL_law_1838 rfl ?_
                                                      refine j_aload_n F 1 dL_law_1839 rfl ?_
                                                      refine j_iload F 5 dL_law_1840 rfl ?_
                                                      refine j_iconst F (v := 1) dL_law_1842 (by decide) ?_
                                                      refine j_iadd F dL_law_1843 ?_
                                                      obtain ⟨hin1844, hm⟩ := gd_ok hm
                                                      refine j_sld F hX hbl hbA (inb_in hin1844) dL_law_1844 ?_
                                                      refine j_i2l F dL_law_1845 ?_
                                                      refine j_bipush F (v := 32) dL_law_1846 (by decide) ?_
                                                      refine j_lshl F dL_law_1848 ?_
                                                      refine j_aload_n F 1 dL_law_1849 rfl ?_
                                                      refine j_iload F 5 dL_law_1850 rfl ?_
                                                      refine j_iconst F (v := 2) dL_law_1852 (by decide) ?_
                                                      refine j_iadd F dL_law_1853 ?_
                                                      obtain ⟨hin1854, hm⟩ := gd_ok hm
                                                      refine j_sld F hX hbl hbA (inb_in hin1854) dL_law_1854 ?_
                                                      refine j_i2l F dL_law_1855 ?_
                                                      refine j_ldc2 F (v := 4294967295) dL_law_1856 tw841 ?_
                                                      refine j_land F dL_law_1859 ?_
                                                      refine j_lor F dL_law_1860 ?_
                                                      refine j_aload_n F 1 dL_law_1861 rfl ?_
                                                      refine j_iload F 5 dL_law_1862 rfl ?_
                                                      refine j_iconst F (v := 3) dL_law_1864 (by decide) ?_
                                                      refine j_iadd F dL_law_1865 ?_
                                                      obtain ⟨hin1866, hm⟩ := gd_ok hm
                                                      refine j_sld F hX hbl hbA (inb_in hin1866) dL_law_1866 ?_
                                                      obtain ⟨r1867, S1867, hc1867, hm⟩ := bndE_ok hm
                                                      refine j_callV F (n := 2) (As := [.long ((lshl ((xs (v4 + 1).toNatClampNeg).toInt64) 32) ||| (((xs (v4 + 2).toNatClampNeg).toInt64) &&& 4294967295)), .int (xs (v4 + 3).toNatClampNeg)]) (rest := []) (c_X6_simulate l g hg ((lshl ((xs (v4 + 1).toNatClampNeg).toInt64) 32) ||| (((xs (v4 + 2).toNatClampNeg).toInt64) &&& 4294967295)) (xs (v4 + 3).toNatClampNeg) S1833 r1867 S1867 hc1867) gw_L_197 (by decide +kernel) ⟨Nat.le_of_ble_eq_true rfl, Nat.le_of_ble_eq_true rfl⟩ ⟨hcc.1, hcc.2⟩ rfl rfl rfl rfl (Nat.le_of_ble_eq_true rfl) dL_law_1867 ?_
                                                      show J p l e room_1 s m args below meth c g A 7 Q (cc0 + 1) (ss0 + 6) 1870 [(5, .int r1833), (0, .ref b), (1, .ref (g.2.1 0)), (2, .ref (g.2.1 13)), (3, .ref (g.2.1 28)), (4, .int v4)] [.int r1867] S1867
                                                      refine j_istore F (lv' := [(6, .int r1867), (5, .int r1833), (0, .ref b), (1, .ref (g.2.1 0)), (2, .ref (g.2.1 13)), (3, .ref (g.2.1 28)), (4, .int v4)]) dL_law_1870 (by decide) rfl ?_
                                                      refine j_aload_n F 4 dL_law_1872 rfl ?_
                                                      obtain ⟨r1873, hc1873, hm⟩ := Option.bind_eq_some_iff.mp hm
                                                      refine j_callV F (n := 0) (As := []) (rest := []) (c_X6_thrown l g hg S1867 r1873 hc1873) gw_L_106 (by decide +kernel) ⟨Nat.le_of_ble_eq_true rfl, Nat.le_of_ble_eq_true rfl⟩ ⟨hcc.1, hcc.2⟩ rfl rfl rfl rfl (Nat.le_of_ble_eq_true rfl) dL_law_1873 ?_
                                                      show J p l e room_1 s m args below meth c g A 7 Q (cc0 + 1) (ss0 + 6) 1876 [(6, .int r1867), (5, .int r1833), (0, .ref b), (1, .ref (g.2.1 0)), (2, .ref (g.2.1 13)), (3, .ref (g.2.1 28)), (4, .int v4)] [.int r1873] S1867
                                                      refine j_iload F 1 dL_law_1876 rfl ?_
                                                      refine j_icmp_eq F (tgt := 1883) dL_law_1878 (by decide) hm (fun _ hm => ?_) (fun _ hm => ?_)
                                                      · refine j_iload F 1 dL_law_1883 rfl ?_
                                                        refine j_if_ne F (tgt := 1900) dL_law_1885 (by decide) hm (fun _ hm => ?_) (fun _ hm => ?_)
                                                        · refine j_sub [2, 3, 4, 5, 6] rfl ?_
                                                          exact hj1900 v4 S1867  hm
                                                        · refine j_aload_n F 5 dL_law_1888 rfl ?_
                                                          refine j_iconst F (v := 0) dL_law_1889 (by decide) ?_
                                                          refine j_lald F dL_law_1890 hm (fun hm => ?_)
                                                          refine j_iload F 0 dL_law_1891 rfl ?_
                                                          refine j_i2l F dL_law_1893 ?_
                                                          refine j_lcmp F dL_law_1894 ?_
                                                          refine j_if_eq F (tgt := 1900) dL_law_1895 (by decide) hm (fun _ hm => ?_) (fun _ hm => ?_)
                                                          · refine j_sub [2, 3, 4, 5, 6] rfl ?_
                                                            exact hj1900 v4 S1867  hm
                                                          · refine j_iconst F (v := 0) dL_law_1898 (by decide) ?_
                                                            cases hm
                                                      · refine j_iconst F (v := 0) dL_law_1881 (by decide) ?_
                                                        cases hm
                                                    · refine sw_if hm (fun esw hm => ?_) (fun n25 hm => ?_)
                                                      · refine j_swIn F (tgt := 1903) dL_law_40 esw (by decide +kernel) (by decide +kernel) (off := 1863) (by decide +kernel) (by decide) ?_
                                                        refine j_aload_n F 1 dL_law_1903 rfl ?_
                                                        refine j_aload_n F 0 dL_law_1904 rfl ?_
                                                        refine j_iload F 4 dL_law_1905 rfl ?_
                                                        refine j_iconst F (v := 1) dL_law_1907 (by decide) ?_
                                                        refine j_iadd F dL_law_1908 ?_
                                                        obtain ⟨hin1909, hm⟩ := gd_ok hm
                                                        refine j_sld F hX hbl hbA (inb_in hin1909) dL_law_1909 ?_
                                                        refine j_aload_n F 3 dL_law_1910 rfl ?_
                                                        obtain ⟨r1911, S1911, hc1911, hm⟩ := bndE_ok hm
                                                        refine j_callT F FT (n := 3) (As := [.ref (g.2.1 0), .int (xs (v4 + 1).toNatClampNeg), .ref (g.2.1 28)]) (rest := []) (c_L_save l hst g hg (xs (v4 + 1).toNatClampNeg) S r1911 S1911 hc1911) gw_L_198 (by decide +kernel) ⟨Nat.le_of_ble_eq_true rfl, Nat.le_of_ble_eq_true rfl⟩ ⟨hcc.1, hcc.2⟩ rfl rfl (Nat.le_of_ble_eq_true rfl) dL_law_1911 ?_
                                                        show J p l e room_1 s m args below meth c g A 7 Q (cc0 + 1) (ss0 + 6) 1914 [(0, .ref b), (1, .ref (g.2.1 0)), (2, .ref (g.2.1 13)), (3, .ref (g.2.1 28)), (4, .int v4)] [.int r1911] S1911
                                                        refine j_istore F (lv' := [(5, .int r1911), (0, .ref b), (1, .ref (g.2.1 0)), (2, .ref (g.2.1 13)), (3, .ref (g.2.1 28)), (4, .int v4)]) dL_law_1914 (by decide) rfl ?_
                                                        refine j_aload_n F 3 dL_law_1916 rfl ?_
                                                        refine j_aload_n F 1 dL_law_1917 rfl ?_
                                                        refine j_iload F 5 dL_law_1918 rfl ?_
                                                        refine j_iconst F (v := 1) dL_law_1920 (by decide) ?_
                                                        refine j_iadd F dL_law_1921 ?_
                                                        obtain ⟨hin1922, hm⟩ := gd_ok hm
                                                        refine j_sld F hX hbl hbA (inb_in hin1922) dL_law_1922 ?_
                                                        obtain ⟨r1923, S1923, hc1923, hm⟩ := bndE_ok hm
                                                        refine j_callV F (n := 1) (As := [.int (xs (v4 + 1).toNatClampNeg)]) (rest := []) (c_X6_save l g hg (xs (v4 + 1).toNatClampNeg) S1911 r1923 S1923 hc1923) gw_L_200 (by decide +kernel) ⟨Nat.le_of_ble_eq_true rfl, Nat.le_of_ble_eq_true rfl⟩ ⟨hcc.1, hcc.2⟩ rfl rfl rfl rfl (Nat.le_of_ble_eq_true rfl) dL_law_1923 ?_
                                                        show J p l e room_1 s m args below meth c g A 7 Q (cc0 + 1) (ss0 + 6) 1926 [(5, .int r1911), (0, .ref b), (1, .ref (g.2.1 0)), (2, .ref (g.2.1 13)), (3, .ref (g.2.1 28)), (4, .int v4)] [.int r1923] S1923
                                                        refine j_istore F (lv' := [(6, .int r1923), (5, .int r1911), (0, .ref b), (1, .ref (g.2.1 0)), (2, .ref (g.2.1 13)), (3, .ref (g.2.1 28)), (4, .int v4)]) dL_law_1926 (by decide) rfl ?_
                                                        refine j_aload_n F 4 dL_law_1928 rfl ?_
                                                        obtain ⟨r1929, hc1929, hm⟩ := Option.bind_eq_some_iff.mp hm
                                                        refine j_callV F (n := 0) (As := []) (rest := []) (c_X6_thrown l g hg S1923 r1929 hc1929) gw_L_106 (by decide +kernel) ⟨Nat.le_of_ble_eq_true rfl, Nat.le_of_ble_eq_true rfl⟩ ⟨hcc.1, hcc.2⟩ rfl rfl rfl rfl (Nat.le_of_ble_eq_true rfl) dL_law_1929 ?_
                                                        show J p l e room_1 s m args below meth c g A 7 Q (cc0 + 1) (ss0 + 6) 1932 [(6, .int r1923), (5, .int r1911), (0, .ref b), (1, .ref (g.2.1 0)), (2, .ref (g.2.1 13)), (3, .ref (g.2.1 28)), (4, .int v4)] [.int r1929] S1923
                                                        refine j_iload F 1 dL_law_1932 rfl ?_
                                                        refine j_icmp_eq F (tgt := 1939) dL_law_1934 (by decide) hm (fun _ hm => ?_) (fun _ hm => ?_)
                                                        · refine j_iload F 1 dL_law_1939 rfl ?_
                                                          refine j_if_ne F (tgt := 1956) dL_law_1941 (by decide) hm (fun _ hm => ?_) (fun _ hm => ?_)
                                                          · refine j_sub [2, 3, 4, 5, 6] rfl ?_
                                                            exact hj1956 v4 S1923  hm
                                                          · refine j_aload_n F 5 dL_law_1944 rfl ?_
                                                            refine j_iconst F (v := 0) dL_law_1945 (by decide) ?_
                                                            refine j_lald F dL_law_1946 hm (fun hm => ?_)
                                                            refine j_iload F 0 dL_law_1947 rfl ?_
                                                            refine j_i2l F dL_law_1949 ?_
                                                            refine j_lcmp F dL_law_1950 ?_
                                                            refine j_if_eq F (tgt := 1956) dL_law_1951 (by decide) hm (fun _ hm => ?_) (fun _ hm => ?_)
                                                            · refine j_sub [2, 3, 4, 5, 6] rfl ?_
                                                              exact hj1956 v4 S1923  hm
                                                            · refine j_iconst F (v := 0) dL_law_1954 (by decide) ?_
                                                              cases hm
                                                        · refine j_iconst F (v := 0) dL_law_1937 (by decide) ?_
                                                          cases hm
                                                      · refine sw_if hm (fun esw hm => ?_) (fun n26 hm => ?_)
                                                        · refine j_swIn F (tgt := 1959) dL_law_40 esw (by decide +kernel) (by decide +kernel) (off := 1919) (by decide +kernel) (by decide) ?_
                                                          refine j_aload_n F 1 dL_law_1959 rfl ?_
                                                          refine j_aload_n F 0 dL_law_1960 rfl ?_
                                                          refine j_iload F 4 dL_law_1961 rfl ?_
                                                          refine j_iconst F (v := 1) dL_law_1963 (by decide) ?_
                                                          refine j_iadd F dL_law_1964 ?_
                                                          obtain ⟨hin1965, hm⟩ := gd_ok hm
                                                          refine j_sld F hX hbl hbA (inb_in hin1965) dL_law_1965 ?_
                                                          refine j_aload_n F 3 dL_law_1966 rfl ?_
                                                          obtain ⟨r1967, S1967, hc1967, hm⟩ := bndE_ok hm
                                                          refine j_callT F FT (n := 3) (As := [.ref (g.2.1 0), .int (xs (v4 + 1).toNatClampNeg), .ref (g.2.1 28)]) (rest := []) (c_L_restore l hst g hg (xs (v4 + 1).toNatClampNeg) S r1967 S1967 hc1967) gw_L_201 (by decide +kernel) ⟨Nat.le_of_ble_eq_true rfl, Nat.le_of_ble_eq_true rfl⟩ ⟨hcc.1, hcc.2⟩ rfl rfl (Nat.le_of_ble_eq_true rfl) dL_law_1967 ?_
                                                          show J p l e room_1 s m args below meth c g A 7 Q (cc0 + 1) (ss0 + 6) 1970 [(0, .ref b), (1, .ref (g.2.1 0)), (2, .ref (g.2.1 13)), (3, .ref (g.2.1 28)), (4, .int v4)] [.int r1967] S1967
                                                          refine j_istore F (lv' := [(5, .int r1967), (0, .ref b), (1, .ref (g.2.1 0)), (2, .ref (g.2.1 13)), (3, .ref (g.2.1 28)), (4, .int v4)]) dL_law_1970 (by decide) rfl ?_
                                                          refine j_aload_n F 3 dL_law_1972 rfl ?_
                                                          refine j_aload_n F 1 dL_law_1973 rfl ?_
                                                          refine j_iload F 5 dL_law_1974 rfl ?_
                                                          refine j_iconst F (v := 1) dL_law_1976 (by decide) ?_
                                                          refine j_iadd F dL_law_1977 ?_
                                                          obtain ⟨hin1978, hm⟩ := gd_ok hm
                                                          refine j_sld F hX hbl hbA (inb_in hin1978) dL_law_1978 ?_
                                                          obtain ⟨r1979, S1979, hc1979, hm⟩ := bndE_ok hm
                                                          refine j_callV F (n := 1) (As := [.int (xs (v4 + 1).toNatClampNeg)]) (rest := []) (c_X6_restore l g hg (xs (v4 + 1).toNatClampNeg) S1967 r1979 S1979 hc1979) gw_L_203 (by decide +kernel) ⟨Nat.le_of_ble_eq_true rfl, Nat.le_of_ble_eq_true rfl⟩ ⟨hcc.1, hcc.2⟩ rfl rfl rfl rfl (Nat.le_of_ble_eq_true rfl) dL_law_1979 ?_
                                                          show J p l e room_1 s m args below meth c g A 7 Q (cc0 + 1) (ss0 + 6) 1982 [(5, .int r1967), (0, .ref b), (1, .ref (g.2.1 0)), (2, .ref (g.2.1 13)), (3, .ref (g.2.1 28)), (4, .int v4)] [.int r1979] S1979
                                                          refine j_istore F (lv' := [(6, .int r1979), (5, .int r1967), (0, .ref b), (1, .ref (g.2.1 0)), (2, .ref (g.2.1 13)), (3, .ref (g.2.1 28)), (4, .int v4)]) dL_law_1982 (by decide) rfl ?_
                                                          refine j_aload_n F 4 dL_law_1984 rfl ?_
                                                          obtain ⟨r1985, hc1985, hm⟩ := Option.bind_eq_some_iff.mp hm
                                                          refine j_callV F (n := 0) (As := []) (rest := []) (c_X6_thrown l g hg S1979 r1985 hc1985) gw_L_106 (by decide +kernel) ⟨Nat.le_of_ble_eq_true rfl, Nat.le_of_ble_eq_true rfl⟩ ⟨hcc.1, hcc.2⟩ rfl rfl rfl rfl (Nat.le_of_ble_eq_true rfl) dL_law_1985 ?_
                                                          show J p l e room_1 s m args below meth c g A 7 Q (cc0 + 1) (ss0 + 6) 1988 [(6, .int r1979), (5, .int r1967), (0, .ref b), (1, .ref (g.2.1 0)), (2, .ref (g.2.1 13)), (3, .ref (g.2.1 28)), (4, .int v4)] [.int r1985] S1979
                                                          refine j_iload F 1 dL_law_1988 rfl ?_
                                                          refine j_icmp_eq F (tgt := 1995) dL_law_1990 (by decide) hm (fun _ hm => ?_) (fun _ hm => ?_)
                                                          · refine j_iload F 1 dL_law_1995 rfl ?_
                                                            refine j_if_ne F (tgt := 2012) dL_law_1997 (by decide) hm (fun _ hm => ?_) (fun _ hm => ?_)
                                                            · refine j_sub [2, 3, 4, 5, 6] rfl ?_
                                                              exact hj2012 v4 S1979  hm
                                                            · refine j_aload_n F 5 dL_law_2000 rfl ?_
                                                              refine j_iconst F (v := 0) dL_law_2001 (by decide) ?_
                                                              refine j_lald F dL_law_2002 hm (fun hm => ?_)
                                                              refine j_iload F 0 dL_law_2003 rfl ?_
                                                              refine j_i2l F dL_law_2005 ?_
                                                              refine j_lcmp F dL_law_2006 ?_
                                                              refine j_if_eq F (tgt := 2012) dL_law_2007 (by decide) hm (fun _ hm => ?_) (fun _ hm => ?_)
                                                              · refine j_sub [2, 3, 4, 5, 6] rfl ?_
                                                                exact hj2012 v4 S1979  hm
                                                              · refine j_iconst F (v := 0) dL_law_2010 (by decide) ?_
                                                                cases hm
                                                          · refine j_iconst F (v := 0) dL_law_1993 (by decide) ?_
                                                            cases hm
                                                        · refine j_swOut F (tgt := 2015) dL_law_40 (by have a0 := ne_z (z := 0) n0 (by decide +kernel); have a1 := ne_z (z := 1) n1 (by decide +kernel); have a2 := ne_z (z := 2) n2 (by decide +kernel); have a3 := ne_z (z := 3) n3 (by decide +kernel); have a4 := ne_z (z := 4) n4 (by decide +kernel); have a5 := ne_z (z := 5) n5 (by decide +kernel); have a6 := ne_z (z := 6) n6 (by decide +kernel); have a7 := ne_z (z := 7) n7 (by decide +kernel); have a8 := ne_z (z := 8) n8 (by decide +kernel); have a9 := ne_z (z := 9) n9 (by decide +kernel); have a10 := ne_z (z := 10) n10 (by decide +kernel); have a11 := ne_z (z := 11) n11 (by decide +kernel); have a12 := ne_z (z := 12) n12 (by decide +kernel); have a13 := ne_z (z := 13) n13 (by decide +kernel); have a14 := ne_z (z := 14) n14 (by decide +kernel); have a15 := ne_z (z := 15) n15 (by decide +kernel); have a16 := ne_z (z := 16) n16 (by decide +kernel); have a17 := ne_z (z := 17) n17 (by decide +kernel); have a18 := ne_z (z := 18) n18 (by decide +kernel); have a19 := ne_z (z := 19) n19 (by decide +kernel); have a20 := ne_z (z := 20) n20 (by decide +kernel); have a21 := ne_z (z := 21) n21 (by decide +kernel); have a22 := ne_z (z := 22) n22 (by decide +kernel); have a23 := ne_z (z := 23) n23 (by decide +kernel); have a24 := ne_z (z := 24) n24 (by decide +kernel); have a25 := ne_z (z := 25) n25 (by decide +kernel); have a26 := ne_z (z := 26) n26 (by decide +kernel); omega) (by decide) ?_
                                                          refine j_widen (Nat.le_succ _) (Nat.le_add_right _ 6) ?_
                                                          refine j_sub [0, 1, 2, 3, 4] rfl ?_
                                                          exact hj2015 v4 S  hm

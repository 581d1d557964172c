section C60s
variable {g : pm_G} {d : Nat} {Q : pm_Po} {S : pm_SS} {I : pm_MI} {J : pm_ML}
theorem mfr_none {x on : Int32} : ∀ q, mfr I x q on (-9) = -9 := sorry
theorem m_isOn {r m n : Nat} {fr face st : Int32} (hd : 1 ≤ d) (hn9 : I 9 9 = nI n) (hn40 : n ≤ 40) (hm : m < n) (hr : r < 30) (hF : fOk (I 12) n) (f1 : I 81 = I 12) (b1 : I 83 = I 14) (p2 : I 93 = I 25) (hfr : 0 ≤ fr) (hst0 : face = 0 → I 96 r = st) (hst1 : ¬ face = 0 → I 97 r = st) (hs : ∃ i, i < n ∧ st = nI i) (hQ : Q (some (.int (if fr ≤ mfr I (nI m) 40 (I 25 r) st then 1 else 0))) SH I J) : pm_C g d 251 [.ref 68, .int (nI m), .int fr, .int (nI r), .int face] Q SH I J := sorry
theorem nI_p2 (a : Nat) : nI a + 2 = nI (a + 2) := nI_add a 2
theorem nI_p3 (a : Nat) : nI a + 3 = nI (a + 3) := nI_add a 3
theorem nI_p4 (a : Nat) : nI a + 4 = nI (a + 4) := nI_add a 4
abbrev UL (g : pm_G) (d : Nat) (R : Room) (Q : pm_Po) (b i : Nat) (I : pm_MI) (J : pm_ML) (k : Nat × Nat) : Prop := UU g d 302 kL_law R Q b [some .null, some (.ref 0), some (.ref 68), some (.int (nI i))] [] SH I J k
theorem lw_loop {R : Room} {Q : pm_Po} {k : Nat × Nat} (hd : 30 ≤ d) (hL : g.2.2.2.1 ≤ 3072) (hk1 : k.1 ≤ R.cells) (hk2 : k.2 ≤ R.slots) (hQ : ∀ S2 I2 J2, Q (some (.int 1)) S2 I2 J2) : ∀ n i I J, g.2.2.2.1 < i + 6 * n + 6 → i ≤ 4000 → Rel I J → UL g d R Q 1 i I J k := sorry
end C60s

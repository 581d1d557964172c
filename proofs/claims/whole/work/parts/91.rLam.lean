section C91r
variable {g : pm_G} {d : Nat} {Q : pm_Po} {S : pm_SS} {I : pm_MI} {J : pm_ML}
/-! ===== places are nested or apart ===== -/
theorem mfr_f {n : Nat} {x : Int32} (hF : fOk (I 12) n) (hn : I 9 9 = nI n) (hn40 : n ≤ 40) : ∀ (q1 q2 : Nat) (on : Int32) (j : Nat), j < n → j < q1 → j < q2 → mfr I x q1 on (nI j) = mfr I x q2 on (nI j)
  | 0, _, _, _, _, h, _ => by omega
  | _ + 1, 0, _, _, _, _, h => by omega
  | a + 1, b + 1, on, j, hj, h1, h2 => by
    have hix : (nI j).toNatClampNeg = j := ix_nI (by omega)
    have hh := hasM_nI (I := I) hn hj hn40
    rw [mfr, mfr, if_pos hh, if_pos hh, hix]
    by_cases e : nI j = x
    · rw [if_pos e, if_pos e]
    · rw [if_neg e, if_neg e]
      rcases hF j hj with h | ⟨i, hi, h⟩
      · rw [h, mfr_none, mfr_none]
      · rw [h]; exact mfr_f hF hn hn40 a b _ i (by omega) (by omega) (by omega)
theorem mfr_a {n m m' : Nat} (hF : fOk (I 12) n) (hn : I 9 9 = nI n) (hn40 : n ≤ 40) (hm : m < n) (hmm : m' < m) : ∀ (q : Nat) (on : Int32) (i : Nat), i < n → i < q → q ≤ 40 → ¬ mfr I (nI m) q on (nI i) = -9 → mfr I (nI m') q on (nI i) = mfr I (nI m') 40 (I 14 m) (I 12 m)
  | 0, _, _, _, h, _, _ => by omega
  | q + 1, on, i, hi, h1, h2, h3 => by
    have hix : (nI i).toNatClampNeg = i := ix_nI (by omega)
    have hh := hasM_nI (I := I) hn hi hn40
    rw [mfr, if_pos hh, hix] at h3
    rw [mfr, if_pos hh, hix]
    by_cases e : i = m
    · subst e
      rw [if_neg (fun z => by have := nI_inj (by omega) (by omega) z; omega)]
      rcases hF i hi with h | ⟨j, hj, h⟩
      · rw [h, mfr_none, mfr_none]
      · rw [h]; exact mfr_f hF hn hn40 q 40 _ j (by omega) (by omega) (by omega)
    · rw [if_neg (fun z => e (nI_inj (by omega) (by omega) z))] at h3
      rcases hF i hi with h | ⟨j, hj, h⟩
      · rw [h, mfr_none] at h3; exact absurd rfl h3
      · rw [h] at h3
        have hmj : m ≤ j := by
          rcases Nat.lt_or_ge j m with z | z
          · exact absurd (mfr_low hF hn hn40 hm q _ (nI j) (Or.inr ⟨j, z, rfl⟩)) h3
          · exact z
        rw [if_neg (fun z => by have := nI_inj (by omega) (by omega) z; omega), h]
        exact mfr_a hF hn hn40 hm hmm q _ j (by omega) (by omega) (by omega) h3
theorem tb_cv {N e : Nat} {m k : Int32} (hN : N ≤ 30) : tb (cvI I N m k) e = true ↔ e < 2 * N ∧ k ≤ mfr I m 40 (I 25 (e / 2)) (I 28 e) := by
  unfold cvI
  rw [itr_cong (h := fun e a => if k ≤ mfr I m 40 (I 25 (e / 2)) (I 28 e) then a ||| bitL e else a) (fun e _ b => by
    by_cases z : k ≤ mfr I m 40 (I 25 (e / 2)) (I 28 e)
    · rw [if_pos z, if_pos z]
    · rw [if_neg z, if_neg z, l_or0])]
  rw [tb_ito (f := fun k => k) (fun k hk => by omega)]
  constructor
  · rintro ⟨k, h1, h2, rfl⟩; exact ⟨h1, h2⟩
  · rintro ⟨h1, h2⟩; exact ⟨e, h1, h2, rfl⟩
theorem pl_kind {n N p : Nat} (hN : N ≤ 30) (hp : p < (plL I n N).length) : (∃ m y, m < n ∧ y < 1000 ∧ cvL (plL I n N) p = cvI I N (nI m) (nI y)) ∨ ∃ e, e < 2 * N ∧ cvL (plL I n N) p = bitL e := by
  have e := List.getElem?_eq_getElem hp
  have hm : (plL I n N)[p] ∈ plL I n N := List.getElem_mem hp
  rw [cvL_at e]
  generalize (plL I n N)[p] = x at hm
  unfold plL at hm
  rcases List.mem_append.mp hm with h | h
  · left
    unfold plA at h
    obtain ⟨m, h1, h2⟩ := List.mem_flatMap.mp h
    unfold plM at h2
    obtain ⟨y, h3, rfl⟩ := List.mem_map.mp h2
    exact ⟨m, y, List.mem_range.mp h1, (dsc_mem.mp h3).1, rfl⟩
  · right
    unfold plB at h
    obtain ⟨r, h1, h2⟩ := List.mem_flatMap.mp h
    have h1 := List.mem_range.mp h1
    unfold plR at h2
    rcases List.mem_cons.mp h2 with h2 | h2
    · subst h2; exact ⟨2 * r, by omega, rfl⟩
    · rw [List.mem_singleton] at h2
      subst h2; exact ⟨2 * r + 1, by omega, rfl⟩
theorem pl_lam {n N Ty : Nat} (w : wld I n N Ty) : lamC (plL I n N).length (cvL (plL I n N)) := by
  obtain ⟨⟨a1, a2, a3⟩, ⟨n1, n2⟩, _, _, e1, _, _⟩ := w
  have hst : ∀ e, e < 2 * N → ∃ i, i < n ∧ I 28 e = nI i := fun e he => by
    obtain ⟨_, h1, h2, _⟩ := e1 (e / 2) (by omega)
    rcases Nat.mod_two_eq_zero_or_one e with z | z
    · rw [show 2 * (e / 2) = e by omega] at h1; exact h1
    · rw [show 2 * (e / 2) + 1 = e by omega] at h2; exact h2
  have key : ∀ m y m' y' e, m < n → y < 1000 → m' < m → y' < 1000 → tb (cvI I N (nI m) (nI y)) e = true → tb (cvI I N (nI m') (nI y')) e = true → ∀ f, tb (cvI I N (nI m) (nI y)) f = true → tb (cvI I N (nI m') (nI y')) f = true := by
    intro m y m' y' e hm hy hmm hy' h1 h2 f h3
    rw [tb_cv n2] at h1 h2 h3 ⊢
    obtain ⟨i, hi, ei⟩ := hst e h1.1
    obtain ⟨j, hj, ej⟩ := hst f h3.1
    have c1 := mfr_a a3 a1 a2 hm hmm 40 (I 25 (e / 2)) i hi (by omega) (Nat.le_refl _) (fun z => by
      rw [← ei] at z; rw [z] at h1; exact le9 (by omega) h1.2)
    have c2 := mfr_a a3 a1 a2 hm hmm 40 (I 25 (f / 2)) j hj (by omega) (Nat.le_refl _) (fun z => by
      rw [← ej] at z; rw [z] at h3; exact le9 (by omega) h3.2)
    rw [← ei] at c1
    rw [← ej] at c2
    refine ⟨h3.1, ?_⟩
    rw [c2, ← c1]
    exact h2.2
  intro p p' hp hp' e h1 h2
  rcases pl_kind n2 hp with ⟨m, y, k1, k2, k3⟩ | ⟨b, k1, k3⟩
  · rcases pl_kind n2 hp' with ⟨m', y', j1, j2, j3⟩ | ⟨b', j1, j3⟩
    · rw [k3] at h1 ⊢
      rw [j3] at h2 ⊢
      rcases Nat.lt_trichotomy m m' with z | z | z
      · right; exact key m' y' m y e j1 j2 z k2 h2 h1
      · subst z
        rcases Nat.le_total y y' with z | z
        · right
          intro f hf
          rw [tb_cv n2] at hf ⊢
          have := nI_le (a := y) (b := y') z (by omega)
          exact ⟨hf.1, Int32.le_trans this hf.2⟩
        · left
          intro f hf
          rw [tb_cv n2] at hf ⊢
          have := nI_le (a := y') (b := y) z (by omega)
          exact ⟨hf.1, Int32.le_trans this hf.2⟩
      · left; exact key m y m' y' e k1 k2 z j2 h1 h2
    · right
      intro f hf
      rw [j3, tb_bit (by omega), decide_eq_true_eq] at h2 hf
      rw [← hf, h2]; exact h1
  · left
    intro f hf
    rw [k3, tb_bit (by omega), decide_eq_true_eq] at h1 hf
    rw [← hf, h1]; exact h2
end C91r
section C91r2
variable {P ms s : Nat} {c q : Nat → Int64} {need tal : Int64} {mo : Int64 → Nat}
theorem pth_exA0 (hl : lamC P c) (h : ∀ s', s' < s → pth P c q need ms s' 0 0 = []) : ∀ s', s' < s → exA P c q need ms s' = [] := by
  intro s'
  induction s' using Nat.strongRecOn with
  | _ s' ih =>
    intro hs
    have hp := comb (P := P) (c := c) (q := q) (need := need) (ms := ms) (s := s') hl (fun u hu => ih u hu (by omega))
    rw [h s' hs] at hp
    exact List.nil_perm.mp hp
theorem sg_run {st : mdT} (hms : ms ≤ 60) (hmo : ∀ T, mo (orL c T) = pc (orL q T)) (h : st.1 = 0) : sgS (wgT c need ms mo) (nI s) (sb P s 0) st = (exA P c q need ms s).foldl (wgU c q) st := by
  unfold sgS exA
  rw [if_pos (Or.inl h), fo_fil hms hmo]
theorem sg_skip {st : mdT} {s' : Nat} {L : List (List Nat)} {W : mdT → List Nat → mdT} (h : ¬ st.1 = 0) (h2 : st.2.2.1 = nI s) (hs : s ≤ 3) (hs' : s' ≤ 3) (hne : ¬ s = s') : sgS W (nI s') L st = st := by
  unfold sgS
  rw [if_neg (fun z => by
    rcases z with z | z
    · exact h z
    · rw [h2] at z; exact hne (nI_inj (by omega) (by omega) z))]
theorem fi_none {st : mdT} (hl : lamC P c) (hms : ms ≤ 60) (hmo : ∀ T, mo (orL c T) = pc (orL q T)) (h0 : st.1 = 0) (h : ∀ s, s ≤ 3 → pth P c q need ms s 0 0 = []) : fiS P (wgT c need ms mo) st = st := by
  have hA := pth_exA0 (s := 4) hl (fun s' hs' => h s' (by omega))
  have e0 : wgT c need ms mo st [] = st := by
    have e := sg_run (P := P) (need := need) (s := 0) hms hmo h0
    rw [hA 0 (by omega)] at e
    unfold sgS at e
    rw [if_pos (Or.inl h0)] at e
    exact e
  rw [fiS_sb, e0, sg_run hms hmo h0, hA 1 (by omega), List.foldl_nil, sg_run hms hmo h0, hA 2 (by omega), List.foldl_nil, sg_run hms hmo h0, hA 3 (by omega), List.foldl_nil]
theorem fi_some {st : mdT} (hl : lamC P c) (hms : ms ≤ 60) (hmo : ∀ T, mo (orL c T) = pc (orL q T)) (h0 : st.1 = 0) (hs : s ≤ 3) (h : ∀ s', s' < s → exA P c q need ms s' = []) (hne : exA P c q need ms s ≠ []) (hlen : (exA P c q need ms s).length ≤ 4096000) : fiS P (wgT c need ms mo) st = (exA P c q need ms s).foldl (wgU c q) st := by
  have hX1 : ¬ ((exA P c q need ms s).foldl (wgU c q) st).1 = 0 := by
    have hpos := List.length_pos_iff.mpr hne
    rw [fU_1, h0, Int32.zero_add, r_eq (n := 0) (by omega) (by omega)]
    omega
  have hX2 : ((exA P c q need ms s).foldl (wgU c q) st).2.2.1 = nI s := fU_sz _ _ hne (fun T hT => (exA_mem.mp hT).1.1)
  have hW : wgT c need ms mo st [] = (exA P c q need ms 0).foldl (wgU c q) st := by
    have e := sg_run (P := P) (need := need) (s := 0) hms hmo h0
    unfold sgS at e
    rw [if_pos (Or.inl h0)] at e
    exact e
  rw [fiS_sb, hW]
  have h4 : s = 0 ∨ s = 1 ∨ s = 2 ∨ s = 3 := by omega
  rcases h4 with rfl | rfl | rfl | rfl
  · rw [sg_skip hX1 hX2 (by omega) (by omega) (by omega), sg_skip hX1 hX2 (by omega) (by omega) (by omega), sg_skip hX1 hX2 (by omega) (by omega) (by omega)]
  · rw [h 0 (by omega), List.foldl_nil, sg_run hms hmo h0, sg_skip hX1 hX2 (by omega) (by omega) (by omega), sg_skip hX1 hX2 (by omega) (by omega) (by omega)]
  · rw [h 0 (by omega), List.foldl_nil, sg_run hms hmo h0, h 1 (by omega), List.foldl_nil, sg_run hms hmo h0, sg_skip hX1 hX2 (by omega) (by omega) (by omega)]
  · rw [h 0 (by omega), List.foldl_nil, sg_run hms hmo h0, h 1 (by omega), List.foldl_nil, sg_run hms hmo h0, h 2 (by omega), List.foldl_nil, sg_run hms hmo h0]
theorem both {st : mdT} {b : Int64} (hP : P ≤ 160) (hl : lamC P c) (hms : ms ≤ 60) (hmo : ∀ T, mo (orL c T) = pc (orL q T)) (h0 : st.1 = 0) (hs : s ≤ 3) (hmin : ∀ s', s' < s → pth P c q need ms s' 0 0 = []) (hne : pth P c q need ms s 0 0 ≠ []) : ∃ K Tm, (0 < K ∧ K ≤ 4096000) ∧ (Tm.length = s ∧ ∀ x, x ∈ Tm → x < P) ∧ (((pth P c q need ms s 0 0).foldl (tkS c q tal s) (0, b, fun _ => 0)).1 = nI K ∧ ((pth P c q need ms s 0 0).foldl (tkS c q tal s) (0, b, fun _ => 0)).2.1 = lN (rkQ q Tm)) ∧ ((fiS P (wgT c need ms mo) st).1 = nI K ∧ (fiS P (wgT c need ms mo) st).2.1 = nI (pc (orL q Tm)) ∧ (fiS P (wgT c need ms mo) st).2.2.1 = nI s ∧ (fiS P (wgT c need ms mo) st).2.2.2.1 = at3 (chM Tm 0) (chM Tm 1) (chM Tm 2)) ∧ ∀ k, ∃ z, z ≤ K ∧ (fiS P (wgT c need ms mo) st).2.2.2.2 k = st.2.2.2.2 k + nI z ∧ (tb tal k = true → ((pth P c q need ms s 0 0).foldl (tkS c q tal s) (0, b, fun _ => 0)).2.2 k = nI z) := by
  have hA := pth_exA0 hl hmin
  have hp := comb hl hA
  have hK : (exA P c q need ms s).length = (pth P c q need ms s 0 0).length := by rw [← hp.length_eq, List.length_map]
  have hlen := pth_len3 (P := P) (c := c) (q := q) (need := need) (ms := ms) (r := s) (cov := 0) (mis := 0) hP hs
  have hpos : 0 < (pth P c q need ms s 0 0).length := List.length_pos_iff.mpr hne
  have hneA : exA P c q need ms s ≠ [] := List.length_pos_iff.mp (by omega)
  have hpc0 : pc 0 ≤ ms := by
    have : pc 0 = 0 := by decide +kernel
    omega
  have hokP : ∀ T, T ∈ pth P c q need ms s 0 0 → okP s T := fun T hT => by
    obtain ⟨h1, h2, h3, _, _⟩ := pth_spec s 0 0 T hpc0 hT
    exact ⟨h1, h2, fun x hx => by have := (h3 x hx).1; omega⟩
  have hokA : ∀ T, T ∈ exA P c q need ms s → okT T := fun T hT => by
    obtain ⟨⟨h1, _, h3⟩, _, _⟩ := exA_mem.mp hT
    exact ⟨by omega, fun x hx => by have := h3 x hx; omega⟩
  have hpair : (exA P c q need ms s).Pairwise (fun T U => cdr 2 T < cdr 2 U) := List.Pairwise.filter _ (sb_cd (by omega) s 2 0 (by omega))
  obtain ⟨U, u1, u2, u3, u4⟩ := fU_min (c := c) (q := q) h0 hneA (by omega) hpair hokA
  obtain ⟨T, t1, t2, t3⟩ := tk_min (c := c) (q := q) (tal := tal) (L := pth P c q need ms s 0 0) (st := (0, b, fun _ => 0)) hs rfl hne (by omega) hokP
  have hTA : srt T ∈ exA P c q need ms s := hp.mem_iff.mp (List.mem_map.mpr ⟨T, t1, rfl⟩)
  have hrk : rkQ q (srt T) = rkQ q U := by
    refine Nat.le_antisymm ?_ (u4 _ hTA)
    obtain ⟨V, hV, e⟩ := List.mem_map.mp (hp.mem_iff.mpr u1)
    rw [← e]; exact t3 V hV
  obtain ⟨⟨m1, m2, m3⟩, _, _⟩ := exA_mem.mp u1
  rw [fi_some hl hms hmo h0 hs hA hneA (by omega)]
  refine ⟨(exA P c q need ms s).length, U, ⟨by omega, by omega⟩, ⟨m1, m3⟩, ⟨?_, by rw [t2, hrk]⟩, ⟨by rw [fU_1, h0, Int32.zero_add], u2, fU_sz _ _ hneA (fun T hT => (exA_mem.mp hT).1.1), u3⟩, fun k => ⟨(exA P c q need ms s).countP (fun T => tb (orL c T) k), List.countP_le_length, fU_on _ _, fun hk => ?_⟩⟩
  · rw [tkS_1, hK]
    show 0 + _ = _
    rw [Int32.zero_add]
  · rw [tk_on]
    show 0 + _ = _
    rw [Int32.zero_add, ← hp.countP_eq, List.countP_map]
    congr 1
    refine List.countP_congr (fun V _ => ?_)
    show tb (orL c V &&& tal) k = true ↔ tb (orL c (srt V)) k = true
    rw [tb_and, hk, Bool.and_true, orL_srt]
end C91r2

section C91p
/-! ===== ranks ===== -/
theorem lN_lt6 {a b : Nat} (ha : a < 2 ^ 63) (hb : b < 2 ^ 63) : lN a < lN b ↔ a < b := by
  rw [Int64.lt_iff_toInt_lt]
  show (Int64.ofNat a).toInt < (Int64.ofNat b).toInt ↔ a < b
  rw [Int64.toInt_ofNat_of_lt ha, Int64.toInt_ofNat_of_lt hb]
  omega
theorem nI_toL {b : Nat} (h : b < 256) : (nI b).toInt64 = lN b := by
  have key : ∀ b : Fin 256, (nI b.val).toInt64 = lN b.val := by decide +kernel
  exact key ⟨b, h⟩
theorem shl8 {a b : Nat} (ha : a < 2 ^ 40) (hb : b < 256) : (lN a <<< ((8 : Int32).toInt64 &&& 63)) ||| (nI b).toInt64 = lN (a * 256 + b) := by
  rw [nI_toL hb]
  apply Int64.toBitVec_inj.1
  rw [Int64.toBitVec_or, Int64.toBitVec_shiftLeft]
  have e8 : (((8 : Int32).toInt64 &&& 63).toBitVec.smod 64).toNat = 8 := by decide +kernel
  rw [BitVec.shiftLeft_eq', e8]
  show (BitVec.ofNat 64 a <<< 8) ||| BitVec.ofNat 64 b = BitVec.ofNat 64 (a * 256 + b)
  apply BitVec.eq_of_toNat_eq
  rw [BitVec.toNat_or, BitVec.toNat_shiftLeft, BitVec.toNat_ofNat, BitVec.toNat_ofNat, BitVec.toNat_ofNat, Nat.shiftLeft_eq, Nat.mod_eq_of_lt (a := a) (by omega), Nat.mod_eq_of_lt (a := b) (by omega), Nat.mod_eq_of_lt (a := a * 2 ^ 8) (by omega), Nat.mod_eq_of_lt (a := a * 256 + b) (by omega), Nat.mul_comm a (2 ^ 8), ← Nat.two_pow_add_eq_or_of_lt (i := 8) (by omega) a]
/-- the next of the chosen -/
theorem nx_ok {T : List Nat} {lo : Nat} (hlo : lo ≤ 160) : ∀ {j : Nat}, j ≤ T.length → (∀ x, x ∈ T → x < 160) → ∃ v, nxC (chT T) j (nI lo - 1) = nI v ∧ v ≤ 160 ∧ (v = 160 ∨ (v ∈ T ∧ lo ≤ v)) ∧ ∀ i, i < j → lo ≤ T.getD i 0 → v ≤ T.getD i 0
  | 0, _, _ => ⟨160, rfl, Nat.le_refl _, Or.inl rfl, fun i hi => by omega⟩
  | j + 1, hj, hT => by
    obtain ⟨v, h1, h2, h3, h4⟩ := nx_ok (T := T) hlo (j := j) (by omega) hT
    have hm : T.getD j 0 ∈ T := by
      rw [List.getD_eq_getElem?_getD, List.getElem?_eq_getElem (by omega)]
      exact List.getElem_mem _
    have hx := hT _ hm
    have hs : nxC (chT T) (j + 1) (nI lo - 1) = if nI lo - 1 < chT T j ∧ chT T j < nI v then chT T j else nI v := by
      unfold nxC at h1 ⊢
      rw [itr_s, h1]
    rw [hs]
    unfold chT
    have c1 : (nI lo - 1 < nI (T.getD j 0)) ↔ lo ≤ T.getD j 0 := by
      cases lo with
      | zero =>
        refine ⟨fun _ => Nat.zero_le _, fun _ => ?_⟩
        have := nI_pos' (n := T.getD j 0) (by omega)
        rw [nI_0]
        generalize nI (T.getD j 0) = y at this
        grind
      | succ lo =>
        rw [nI_pred, nI_ltP (by omega) (by omega)]
        omega
    have c2 : (nI (T.getD j 0) < nI v) ↔ T.getD j 0 < v := by rw [nI_ltP (by omega) (by omega)]
    generalize hg : T.getD j 0 = y at hm hx c1 c2
    by_cases hc : lo ≤ y ∧ y < v
    · rw [if_pos ⟨c1.mpr hc.1, c2.mpr hc.2⟩]
      refine ⟨y, rfl, by omega, Or.inr ⟨hm, hc.1⟩, fun i hi hl => ?_⟩
      by_cases e : i = j
      · rw [e, hg]; exact Nat.le_refl _
      · have := h4 i (by omega) hl; omega
    · rw [if_neg (fun z => hc ⟨c1.mp z.1, c2.mp z.2⟩)]
      refine ⟨v, rfl, h2, h3, fun i hi hl => ?_⟩
      by_cases e : i = j
      · rw [e, hg] at hl ⊢; omega
      · exact h4 i (by omega) hl
theorem nx_eq {T : List Nat} {lo y : Nat} (hT : ∀ x, x ∈ T → x < 160) (hy : y ∈ T) (hlo : lo ≤ y) (hmin : ∀ z, z ∈ T → lo ≤ z → y ≤ z) : nxC (chT T) T.length (nI lo - 1) = nI y := by
  have hy2 := hT y hy
  obtain ⟨v, h1, h2, h3, h4⟩ := nx_ok (T := T) (lo := lo) (by omega) (Nat.le_refl _) hT
  rw [h1]
  obtain ⟨i, hi, e⟩ := List.getElem_of_mem hy
  have h5 := h4 i hi (by rw [List.getD_eq_getElem?_getD, List.getElem?_eq_getElem hi, Option.getD_some, e]; exact hlo)
  rw [List.getD_eq_getElem?_getD, List.getElem?_eq_getElem hi, Option.getD_some, e] at h5
  rcases h3 with h3 | ⟨h3, h6⟩
  · omega
  · have := hmin v h3 h6
    rw [show v = y by omega]
theorem rkF_eq {T : List Nat} {s : Nat} {x : Int64} (hs : T.length = s) (hs3 : s ≤ 3) (hn : T.Nodup) (hT : ∀ z, z ∈ T → z < 160) : rkF (chT T) s x = lN (rkT (pc x) (srt T)) := by
  have hm64 := pc_le (x := x)
  have hmem : ∀ z, z ∈ srt T ↔ z ∈ T := fun z => srt_perm.mem_iff
  have hso := srt_so hn
  have hl : (srt T).length = s := by rw [srt_perm.length_eq, hs]
  subst hs
  have em : (nI (pc x)).toInt64 = lN (pc x) := nI_toL (by omega)
  have e1 : (-1 : Int32) = nI 0 - 1 := by decide
  have e0 : (0 : Int32) = nI 0 := nI_0.symm
  have ep : ∀ y : Nat, nI y = nI (y + 1) - 1 := fun y => (nI_pred y).symm
  unfold rkF rkT
  rw [itr_s, itr_s, itr_s, itr_0]
  simp only []
  generalize pc x = m at hm64 em
  rw [em, e1]
  generalize hU : srt T = U at hmem hso hl
  match U, hmem, hso, hl with
  | [], hmem, hso, hl =>
    have hl : 0 = T.length := hl
    rw [if_neg (by omega), if_neg (by omega), if_neg (by omega), e0, shl8 (by omega) (by omega), shl8 (by omega) (by omega), shl8 (by omega) (by omega)]
    refine congrArg lN ?_
    show _ = m * 16777216 + 0
    omega
  | [a], hmem, hso, hl =>
    have hl : 1 = T.length := hl
    have ha : a ∈ T := (hmem a).mp (by simp)
    have ha2 := hT a ha
    have n0 : nxC (chT T) T.length (nI 0 - 1) = nI a := nx_eq hT ha (by omega) (fun z hz _ => by have := (hmem z).mpr hz; simp at this; omega)
    rw [if_pos (show 0 < T.length by omega), if_neg (show ¬ 1 < T.length by omega), if_neg (show ¬ 2 < T.length by omega), n0, e0, shl8 (by omega) (by omega), shl8 (by omega) (by omega), shl8 (by omega) (by omega)]
    refine congrArg lN ?_
    show _ = m * 16777216 + (a * 256 ^ 2 + 0)
    omega
  | [a, b], hmem, hso, hl =>
    have hl : 2 = T.length := hl
    have ha : a ∈ T := (hmem a).mp (by simp)
    have hb : b ∈ T := (hmem b).mp (by simp)
    have ha2 := hT a ha
    have hb2 := hT b hb
    have hab : a < b := by simp at hso; omega
    have n0 : nxC (chT T) T.length (nI 0 - 1) = nI a := nx_eq hT ha (by omega) (fun z hz _ => by have := (hmem z).mpr hz; simp at this; omega)
    have n1 : nxC (chT T) T.length (nI a) = nI b := by rw [ep a]; exact nx_eq hT hb (by omega) (fun z hz _ => by have := (hmem z).mpr hz; simp at this; omega)
    rw [if_pos (show 0 < T.length by omega), if_pos (show 1 < T.length by omega), if_neg (show ¬ 2 < T.length by omega), n0, n1, e0, shl8 (by omega) (by omega), shl8 (by omega) (by omega), shl8 (by omega) (by omega)]
    refine congrArg lN ?_
    show _ = m * 16777216 + (a * 256 ^ 2 + (b * 256 ^ 1 + 0))
    omega
  | [a, b, e], hmem, hso, hl =>
    have hl : 3 = T.length := hl
    have ha : a ∈ T := (hmem a).mp (by simp)
    have hb : b ∈ T := (hmem b).mp (by simp)
    have he : e ∈ T := (hmem e).mp (by simp)
    have ha2 := hT a ha
    have hb2 := hT b hb
    have he2 := hT e he
    have hab : a < b ∧ b < e := by simp at hso; omega
    have n0 : nxC (chT T) T.length (nI 0 - 1) = nI a := nx_eq hT ha (by omega) (fun z hz _ => by have := (hmem z).mpr hz; simp at this; omega)
    have n1 : nxC (chT T) T.length (nI a) = nI b := by rw [ep a]; exact nx_eq hT hb (by omega) (fun z hz _ => by have := (hmem z).mpr hz; simp at this; omega)
    have n2 : nxC (chT T) T.length (nI b) = nI e := by rw [ep b]; exact nx_eq hT he (by omega) (fun z hz _ => by have := (hmem z).mpr hz; simp at this; omega)
    rw [if_pos (show 0 < T.length by omega), if_pos (show 1 < T.length by omega), if_pos (show 2 < T.length by omega), n0, n1, n2, shl8 (by omega) (by omega), shl8 (by omega) (by omega), shl8 (by omega) (by omega)]
    refine congrArg lN ?_
    show _ = m * 16777216 + (a * 256 ^ 2 + (b * 256 ^ 1 + (e * 256 ^ 0 + 0)))
    omega
  | a :: b :: e :: f :: r, _, _, hl => simp only [List.length_cons] at hl; omega
end C91p

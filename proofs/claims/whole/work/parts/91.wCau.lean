section C91w
variable {g : pm_G} {d : Nat} {Q : pm_Po} {S : pm_SS} {I : pm_MI} {J : pm_ML}
/-! ===== the cause that is told ===== -/
theorem shrN {r k : Nat} (hr : r < 2 ^ 62) (hk : k < 64) : lN r >>> ((nI k).toInt64 &&& 63) = lN (r / 2 ^ k) := by
  apply Int64.toBitVec_inj.1
  rw [Int64.toBitVec_shiftRight, BitVec.sshiftRight_eq', sh_e hk]
  show (BitVec.ofNat 64 r).sshiftRight k = BitVec.ofNat 64 (r / 2 ^ k)
  have hm : (BitVec.ofNat 64 r).msb = false := by
    rw [BitVec.msb_eq_false_iff_two_mul_lt, BitVec.toNat_ofNat, Nat.mod_eq_of_lt (by omega)]
    omega
  rw [BitVec.sshiftRight_eq_of_msb_false hm]
  apply BitVec.eq_of_toNat_eq
  have h2 : r / 2 ^ k < 2 ^ 64 := Nat.lt_of_le_of_lt (Nat.div_le_self _ _) (by omega)
  rw [BitVec.toNat_ushiftRight, BitVec.toNat_ofNat, BitVec.toNat_ofNat, Nat.mod_eq_of_lt (by omega), Nat.mod_eq_of_lt h2, Nat.shiftRight_eq_div_pow]
theorem an255 {r : Nat} : (lN r &&& 255).toInt32 = nI (r % 256) := by
  rw [show (255 : Int64) = lN 255 from rfl, lN_and, lN_i, show (255 : Nat) = 2 ^ 8 - 1 from rfl, Nat.and_two_pow_sub_one_eq_mod]
theorem rk_dg {m : Nat} {T : List Nat} {i : Nat} (hm : m ≤ 64) (hl : T.length ≤ 3) (hi : i < T.length) (hT : ∀ x, x ∈ T → x < 160) : (lN (rkT m T) >>> ((8 * (2 - nI i)).toInt64 &&& 63) &&& 255).toInt32 = nI (T.getD i 0) := by
  have hc := cdr2_lt hl (fun x hx => by have := hT x hx; omega)
  have e : 8 * (2 - nI i) = nI (16 - 8 * i) := by
    have h : i = 0 ∨ i = 1 ∨ i = 2 := by omega
    rcases h with rfl | rfl | rfl <;> decide
  have hr : rkT m T < 2 ^ 62 := by unfold rkT; omega
  rw [e, shrN hr (by omega), an255]
  refine congrArg nI ?_
  clear e
  unfold rkT
  match T, hl, hi, hT with
  | [a], _, hi, hT =>
    have h0 : i = 0 := by simp at hi; omega
    subst h0
    have ha := hT a (by simp)
    show (m * 16777216 + (a * 256 ^ 2 + 0)) / 2 ^ 16 % 256 = a
    omega
  | [a, b], _, hi, hT =>
    have ha := hT a (by simp)
    have hb := hT b (by simp)
    have h0 : i = 0 ∨ i = 1 := by simp at hi; omega
    rcases h0 with rfl | rfl
    · show (m * 16777216 + (a * 256 ^ 2 + (b * 256 ^ 1 + 0))) / 2 ^ 16 % 256 = a
      omega
    · show (m * 16777216 + (a * 256 ^ 2 + (b * 256 ^ 1 + 0))) / 2 ^ 8 % 256 = b
      omega
  | [a, b, e], _, hi, hT =>
    have ha := hT a (by simp)
    have hb := hT b (by simp)
    have he := hT e (by simp)
    have h0 : i = 0 ∨ i = 1 ∨ i = 2 := by simp at hi; omega
    rcases h0 with rfl | rfl | rfl
    · show (m * 16777216 + (a * 256 ^ 2 + (b * 256 ^ 1 + (e * 256 ^ 0 + 0)))) / 2 ^ 16 % 256 = a
      omega
    · show (m * 16777216 + (a * 256 ^ 2 + (b * 256 ^ 1 + (e * 256 ^ 0 + 0)))) / 2 ^ 8 % 256 = b
      omega
    · show (m * 16777216 + (a * 256 ^ 2 + (b * 256 ^ 1 + (e * 256 ^ 0 + 0)))) / 2 ^ 0 % 256 = e
      omega
  | a :: b :: e :: f :: r, hl, _, _ => simp only [List.length_cons] at hl; omega
theorem rk_mi {m : Nat} {T : List Nat} (hm : m ≤ 64) (hl : T.length ≤ 3) (hT : ∀ x, x ∈ T → x < 160) : (lN (rkT m T) >>> ((24 : Int32).toInt64 &&& 63)).toInt32 = nI m := by
  have hc := cdr2_lt hl (fun x hx => by have := hT x hx; omega)
  have hr : rkT m T < 2 ^ 62 := by unfold rkT; omega
  rw [show (24 : Int32) = nI 24 from rfl, shrN hr (by omega), lN_i]
  refine congrArg nI ?_
  unfold rkT
  omega
/-! a place's six facts -/
def tuI (I : pm_MI) (m t : Int32) : Int32 := if (if hasM I m then I 10 m.toNatClampNeg else -9) = 1 ∨ (if hasM I m then I 10 m.toNatClampNeg else -9) = 3 then 999 - t else t
def coI (I : pm_MI) (N : Nat) (x : Int64) : Int32 := itr (fun k a => if x >>> ((nI (2 * k)).toInt64 &&& 63) &&& 3 = 0 then a else a + I 26 k) 0 N
theorem c_turnT {I0 : pm_MI} {m t : Int32} (hd : 3 ≤ d) (h9 : I 9 = I0 9) (h10 : I 10 = I0 10) (hQ : Q (some (.int (tuI I0 m t))) SH I J) : pm_C g d 20 [.ref 9, .int m, .int t] Q SH I J := by
  refine c_turnOn hd ?_
  unfold tuI at hQ
  have e : hasM I m = hasM I0 m := by unfold hasM; rw [h9]
  simp only [e, h10]
  exact hQ
theorem c_copT {I0 : pm_MI} {N : Nat} {x : Int64} (hd : 1 ≤ d) (h23 : I 23 7 = nI N) (hN : N ≤ 30) (h26 : I 26 = I0 26) (hQ : Q (some (.int (coI I0 N x))) SH I J) : pm_C g d 85 [.ref 23, .long x] Q SH I J := by
  refine c_R_copiesOn hd h23 hN ?_
  unfold coI at hQ
  rw [h26]
  exact hQ
theorem m_copT {I0 : pm_MI} {N : Nat} {x : Int64} (hd : 1 ≤ d) (h38 : I 68 38 = nI N) (hN : N ≤ 30) (h94 : I 94 = I0 26) (hQ : Q (some (.int (coI I0 N x))) SH I J) : pm_C g d 259 [.ref 68, .long x] Q SH I J := by
  unfold coI at hQ
  refine eX12_copiesOn (by omega) ?_
  refine bX12_copiesOn_0 ?_
  simp (disch := first | omega | decide) only [w_nl0, w_nli, w_nlr, ↓w_ts1, ↓w_ts0, w_rcv, w_rfv, w_cs, true_and, and_true, List.length_nil, List.length_cons, Nat.reduceAdd, Nat.reduceLeDiff, Nat.zero_le, Nat.reduceLT, ↓w_nil, ix_nI, nI_leP, nI_ltP, nI_eqP, nI_1, ↓i_inN, i_inN, l_le, l_lt, l_eq, r_le, r_lt, r_eq, sh68_0, sh68_1, sh68_2, sh68_3, sh68_4, ↓w_iconst, ↓w_istore_3, ↓w_istore_4]
  refine pm_for (f := fun k (a : Int32) => if x >>> ((nI (2 * k)).toInt64 &&& 63) &&& 3 = 0 then a else a + I0 26 k) (U := fun k a => UU g (d - 1) 259 kX12_copiesOn (pm_rm d 259) Q 1 [some (.ref 68), some (.long x), none, some (.int a), some (.int (nI k))] [] SH I J (0, 0)) N (fun k b hk hb w => ?_) ?_
  · clear hQ hb
    by_cases hc : x >>> ((nI (2 * k)).toInt64 &&& 63) &&& 3 = 0
    · rw [if_pos hc] at w
      refine bX12_copiesOn_1 ?_
      simp (disch := first | omega | decide) only [w_nl0, w_nli, w_nlr, ↓w_ts1, ↓w_ts0, w_rcv, w_rfv, w_cs, true_and, and_true, List.length_nil, List.length_cons, Nat.reduceAdd, Nat.reduceLeDiff, Nat.zero_le, Nat.reduceLT, ↓w_nil, ix_nI, nI_leP, nI_ltP, nI_eqP, nI_1, ↓i_inN, i_inN, l_le, l_lt, l_eq, r_le, r_lt, r_eq, sh68_0, sh68_1, sh68_2, sh68_3, sh68_4, ↓w_iload_4, ↓w_aload_0, ↓w_gf0, ↓w_icge, ↓w_iload_3, ↓w_lload_1, ↓w_iconst, ↓w_imul, ↓w_lshr, ↓w_ldc2_18, ↓w_land, ↓w_lconst0, ↓w_lcmp, ↓w_ifeq, ↓w_gf3, ↓w_iaload, ↓w_goto, h38, nI_2m, lg_eq0, hc]
      repeat' (first
        | (apply And.intro)
        | (with_reducible refine bX12_copiesOn_2 ?_; simp (disch := first | omega | decide) only [w_nl0, w_nli, w_nlr, ↓w_ts1, ↓w_ts0, w_rcv, w_rfv, w_cs, true_and, and_true, List.length_nil, List.length_cons, Nat.reduceAdd, Nat.reduceLeDiff, Nat.zero_le, Nat.reduceLT, ↓w_nil, ix_nI, nI_leP, nI_ltP, nI_eqP, nI_1, ↓i_inN, i_inN, l_le, l_lt, l_eq, r_le, r_lt, r_eq, sh68_0, sh68_1, sh68_2, sh68_3, sh68_4, ↓w_iconst, ↓w_istore_3, ↓w_istore_4, ↓w_iload_4, ↓w_aload_0, ↓w_gf0, ↓w_icge, ↓w_iload_3, ↓w_lload_1, ↓w_imul, ↓w_lshr, ↓w_ldc2_18, ↓w_land, ↓w_lconst0, ↓w_lcmp, ↓w_ifeq, ↓w_gf3, ↓w_iaload, ↓w_goto, ↓w_iadd, ↓w_iinc_4, ↓w_ret, lg_eq0, hc, Int32.add_zero])
        | (with_reducible refine bX12_copiesOn_3 ?_; simp (disch := first | omega | decide) only [w_nl0, w_nli, w_nlr, ↓w_ts1, ↓w_ts0, w_rcv, w_rfv, w_cs, true_and, and_true, List.length_nil, List.length_cons, Nat.reduceAdd, Nat.reduceLeDiff, Nat.zero_le, Nat.reduceLT, ↓w_nil, ix_nI, nI_leP, nI_ltP, nI_eqP, nI_1, ↓i_inN, i_inN, l_le, l_lt, l_eq, r_le, r_lt, r_eq, sh68_0, sh68_1, sh68_2, sh68_3, sh68_4, ↓w_iconst, ↓w_istore_3, ↓w_istore_4, ↓w_iload_4, ↓w_aload_0, ↓w_gf0, ↓w_icge, ↓w_iload_3, ↓w_lload_1, ↓w_imul, ↓w_lshr, ↓w_ldc2_18, ↓w_land, ↓w_lconst0, ↓w_lcmp, ↓w_ifeq, ↓w_gf3, ↓w_iaload, ↓w_goto, ↓w_iadd, ↓w_iinc_4, ↓w_ret, lg_eq0, hc, Int32.add_zero])
        | (simp only [w_in])
        | (intro _))
      all_goals first | (with_reducible exact w) | omega | grind
    · rw [if_neg hc] at w
      refine bX12_copiesOn_1 ?_
      simp (disch := first | omega | decide) only [w_nl0, w_nli, w_nlr, ↓w_ts1, ↓w_ts0, w_rcv, w_rfv, w_cs, true_and, and_true, List.length_nil, List.length_cons, Nat.reduceAdd, Nat.reduceLeDiff, Nat.zero_le, Nat.reduceLT, ↓w_nil, ix_nI, nI_leP, nI_ltP, nI_eqP, nI_1, ↓i_inN, i_inN, l_le, l_lt, l_eq, r_le, r_lt, r_eq, sh68_0, sh68_1, sh68_2, sh68_3, sh68_4, ↓w_iload_4, ↓w_aload_0, ↓w_gf0, ↓w_icge, ↓w_iload_3, ↓w_lload_1, ↓w_iconst, ↓w_imul, ↓w_lshr, ↓w_ldc2_18, ↓w_land, ↓w_lconst0, ↓w_lcmp, ↓w_ifeq, ↓w_gf3, ↓w_iaload, ↓w_goto, h38, nI_2m, lg_eq0, h94]
      repeat' (first
        | (apply And.intro)
        | (with_reducible refine bX12_copiesOn_2 ?_; simp (disch := first | omega | decide) only [w_nl0, w_nli, w_nlr, ↓w_ts1, ↓w_ts0, w_rcv, w_rfv, w_cs, true_and, and_true, List.length_nil, List.length_cons, Nat.reduceAdd, Nat.reduceLeDiff, Nat.zero_le, Nat.reduceLT, ↓w_nil, ix_nI, nI_leP, nI_ltP, nI_eqP, nI_1, ↓i_inN, i_inN, l_le, l_lt, l_eq, r_le, r_lt, r_eq, sh68_0, sh68_1, sh68_2, sh68_3, sh68_4, ↓w_iconst, ↓w_istore_3, ↓w_istore_4, ↓w_iload_4, ↓w_aload_0, ↓w_gf0, ↓w_icge, ↓w_iload_3, ↓w_lload_1, ↓w_imul, ↓w_lshr, ↓w_ldc2_18, ↓w_land, ↓w_lconst0, ↓w_lcmp, ↓w_ifeq, ↓w_gf3, ↓w_iaload, ↓w_goto, ↓w_iadd, ↓w_iinc_4, ↓w_ret, lg_eq0, h94])
        | (with_reducible refine bX12_copiesOn_3 ?_; simp (disch := first | omega | decide) only [w_nl0, w_nli, w_nlr, ↓w_ts1, ↓w_ts0, w_rcv, w_rfv, w_cs, true_and, and_true, List.length_nil, List.length_cons, Nat.reduceAdd, Nat.reduceLeDiff, Nat.zero_le, Nat.reduceLT, ↓w_nil, ix_nI, nI_leP, nI_ltP, nI_eqP, nI_1, ↓i_inN, i_inN, l_le, l_lt, l_eq, r_le, r_lt, r_eq, sh68_0, sh68_1, sh68_2, sh68_3, sh68_4, ↓w_iconst, ↓w_istore_3, ↓w_istore_4, ↓w_iload_4, ↓w_aload_0, ↓w_gf0, ↓w_icge, ↓w_iload_3, ↓w_lload_1, ↓w_imul, ↓w_lshr, ↓w_ldc2_18, ↓w_land, ↓w_lconst0, ↓w_lcmp, ↓w_ifeq, ↓w_gf3, ↓w_iaload, ↓w_goto, ↓w_iadd, ↓w_iinc_4, ↓w_ret, lg_eq0, h94])
        | (simp only [w_in])
        | (intro _))
      all_goals first | (with_reducible exact w) | omega | grind
  · refine bX12_copiesOn_1 ?_
    simp (disch := first | omega | decide) only [w_nl0, w_nli, w_nlr, ↓w_ts1, ↓w_ts0, w_rcv, w_rfv, w_cs, true_and, and_true, List.length_nil, List.length_cons, Nat.reduceAdd, Nat.reduceLeDiff, Nat.zero_le, Nat.reduceLT, ↓w_nil, ix_nI, nI_leP, nI_ltP, nI_eqP, nI_1, ↓i_inN, i_inN, l_le, l_lt, l_eq, r_le, r_lt, r_eq, sh68_0, sh68_1, sh68_2, sh68_3, sh68_4, ↓w_iload_4, ↓w_aload_0, ↓w_gf0, ↓w_icge, ↓w_iload_3, ↓w_lload_1, ↓w_iconst, ↓w_imul, ↓w_lshr, ↓w_ldc2_18, ↓w_land, ↓w_lconst0, ↓w_lcmp, ↓w_ifeq, ↓w_gf3, ↓w_iaload, ↓w_goto, h38]
    repeat' (first
      | (apply And.intro)
      | (with_reducible refine bX12_copiesOn_4 ?_; simp (disch := first | omega | decide) only [w_nl0, w_nli, w_nlr, ↓w_ts1, ↓w_ts0, w_rcv, w_rfv, w_cs, true_and, and_true, List.length_nil, List.length_cons, Nat.reduceAdd, Nat.reduceLeDiff, Nat.zero_le, Nat.reduceLT, ↓w_nil, ix_nI, nI_leP, nI_ltP, nI_eqP, nI_1, ↓i_inN, i_inN, l_le, l_lt, l_eq, r_le, r_lt, r_eq, sh68_0, sh68_1, sh68_2, sh68_3, sh68_4, ↓w_iconst, ↓w_istore_3, ↓w_istore_4, ↓w_iload_4, ↓w_aload_0, ↓w_gf0, ↓w_icge, ↓w_iload_3, ↓w_lload_1, ↓w_imul, ↓w_lshr, ↓w_ldc2_18, ↓w_land, ↓w_lconst0, ↓w_lcmp, ↓w_ifeq, ↓w_gf3, ↓w_iaload, ↓w_goto, ↓w_iadd, ↓w_iinc_4, ↓w_ret])
      | (simp only [w_in])
      | (intro _))
    all_goals first | (with_reducible exact hQ) | omega | grind
def fwI (I : pm_MI) (N : Nat) (t : Int32) (x : plT) (w : Nat) : Int32 := if w = 0 then x.1 else if w = 1 then x.2.1 else if w = 2 then x.2.2.1 else if w = 3 then x.2.2.2.1 else if w = 4 then tuI I x.1 t else coI I N x.2.2.2.2
theorem six {I2 : pm_MI} {a i : Nat} {v0 v1 v2 v3 v4 v5 : Int32} : ∀ k, pm_up (pm_up (pm_up (pm_up (pm_up (pm_up I2 a (6 * i) v0) a (6 * i + 1) v1) a (6 * i + 2) v2) a (6 * i + 3) v3) a (6 * i + 4) v4) a (6 * i + 5) v5 a k = if k = 6 * i then v0 else if k = 6 * i + 1 then v1 else if k = 6 * i + 2 then v2 else if k = 6 * i + 3 then v3 else if k = 6 * i + 4 then v4 else if k = 6 * i + 5 then v5 else I2 a k := by
  intro k
  rw [up_at, up_at, up_at, up_at, up_at, up_at]
  repeat' split
  all_goals first | rfl | omega
theorem nI_m6 (a : Nat) : nI a * 6 = nI (6 * a) := by rw [Nat.mul_comm 6 a, ← pk_mul]; rfl
theorem nI_6m (a : Nat) : 6 * nI a = nI (6 * a) := by rw [← pk_mul]; rfl
end C91w

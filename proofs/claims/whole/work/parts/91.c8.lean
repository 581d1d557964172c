section C91c8
variable {g : pm_G} {d f : Nat} {R : Room} {Q : pm_Po} {pc : Nat} {ls : pm_LS} {S : pm_SS} {I : pm_MI} {J : pm_ML} {k : Nat × Nat}
/-! ===== a call with five ints below its arguments: layPlaces has the only one ===== -/
theorem pm_r_call8 {f2 n idx : Nat} {st : List Value} {Q2 : pm_Po} (kn : Nat) (hkn2 : kn = 0 ∨ kn = 2) (hf2 : f2 < 297) (hkn : pm_kn f2 = kn) (hl : Cond.methodLink (pm_cn (pm_ow f)) idx (pm_y f2) ∈ pm_w ∨ Cond.methodLinkNest (pm_cn (pm_ow f)) idx (pm_y f2) RX11 ∈ pm_nest) (hn : n = 1 + pm_na f2) (h1 : n ≤ st.length) (h2 : (((st.drop n).map (pm_v g)).map fun v => v.category).sum ≤ 8) (h3 : pm_rcv S (pm_ow f2) (st.take n).reverse) (hC : pm_C g d f2 (st.take n).reverse Q2 S I J) (hc : k.1 + pm_mc f2 ≤ R.cells) (hs : k.2 + pm_ms f2 ≤ R.slots)
    (hdg : decode (pm_bc f) pc = .ok (if kn = 0 then .invokevirtual idx else .invokespecial idx, 3)) (w : ∀ r S I J, Q2 r S I J → pm_V g d f R Q (pc + 3) ls (r.toList ++ st.drop n) S I J (k.1 + pm_mc f2, k.2 + pm_ms f2)) : pm_V g d f R Q pc ls st S I J k := by
  intro hR p e s m args below meth c H locs lsA hB hK hP hS hl2
  obtain ⟨hx, hb, hml, hr, hlk, hown, hts, hnm⟩ := id hB
  obtain ⟨a1, a2, a3, a4, a5, a6, a7, a8, a9⟩ := pm_mfacts hf2
  obtain ⟨q, As, hargs, hq⟩ := pm_rcv_s h3
  have hlen := pm_len_args h1
  rw [hargs] at hC hlen
  have hAs : (As.map (pm_v g)).length = pm_na f2 := by simp at hlen ⊢; omega
  have hst : st.map (pm_v g) = (As.map (pm_v g)).reverse ++ .ref (g.2.1 + q) :: (st.drop n).map (pm_v g) := by
    conv => lhs; rw [pm_split (n := n) st, hargs]
    simp [pm_v]
  have hroom : 2 * (F0 m pc lsA (st.map (pm_v g))).monitorRoom + (((st.drop n).map (pm_v g)).map fun v => v.category).sum ≤ 8 := lv_room h2
  have hcode := pm_codeIn (show f2 < 302 by omega)
  have hRm : (pm_rm d f2).frames + 1 ≤ R.frames ∧ 8 + (pm_mx f2 + 11) + (pm_rm d f2).locals ≤ R.locals := ⟨hR.1, by have := hR.2.1; show 8 + (pm_mx f2 + 11) + 40 * d ≤ R.locals; omega⟩
  have hpre : ∀ U : State, U.heap = H → s.WarmedH U.vm → pm_P g (.ref q :: As) S I J (Value.ref (g.2.1 + q) :: As.map (pm_v g)).toArray U := fun U hU hW => ⟨rfl, by rw [hU]; exact hP, hK.at hS hU hW⟩
  have hfix : CallFix p m c (pm_bc f) (pm_mx f) s args pm_w (pm_cn (pm_ow f)) := ⟨hx, hb, hml, hown, hts⟩
  rcases hkn2 with rfl | rfl
  · obtain ⟨b1, b2, b3⟩ := a7 hkn
    have hrecv := va_recv hK.1 hP.2 (pm_vw (pm_ow f2) b3) (pm_ws_at (pm_sh hq (show pm_ow f2 + 4 ≠ 999 by omega)))
    rcases hl with hl | hl
    · refine pm_after hR hB hK hS hl2 hc hs (va_runV (As := As.map (pm_v g)) (b := g.2.1 + q) hfix hC ⟨callB_of (pm_na f2) hts (pm_good hcode) rfl rfl rfl (hts _ a6) (hts _ hl) ⟨a2.1, a2.2, a4⟩ hRm, hts _ b1, hts _ b2⟩ ⟨pm_P_blind, by rw [a1]; exact hrecv, hpre⟩ rfl hAs hl2.1 hst hroom hdg ⟨hc, hs⟩) w
    · refine pm_after hR hB hK hS hl2 hc hs (va_runVN (As := As.map (pm_v g)) (b := g.2.1 + q) hfix hC ⟨va_cnB (pm_na f2) hts (pm_good hcode) rfl rfl rfl (hK.2.1 _ hl) (hts _ a6) ⟨a2.1, a2.2, a4⟩ hRm, hts _ b1, hts _ b2⟩ ⟨pm_P_blind, by rw [a1]; exact hrecv, hpre⟩ rfl hAs hl2.1 hst hroom hdg ⟨hc, hs⟩) w
  · obtain ⟨b1, b2, b3⟩ := a9 hkn
    have hcode2 := hcode
    rw [b3] at hcode2
    have hww : pm_ww f2 = Cond.code (pm_y f2) (pm_bc f2) (pm_mx f2) none :: pm_w := by rw [← b3]; rfl
    rcases hl with hl | hl
    · refine pm_after hR hB hK hS hl2 hc hs (va_runI (As := As.map (pm_v g)) (b := g.2.1 + q) hfix hC ⟨callB_of (pm_na f2) hts (pm_good hcode) hww rfl rfl (hts _ a6) (hts _ hl) ⟨a2.1, a2.2, a4⟩ hRm, b2, hts _ b1⟩ ⟨pm_P_blind, hpre⟩ rfl hAs hl2.1 hst hroom hdg ⟨hc, hs⟩) w
    · refine pm_after hR hB hK hS hl2 hc hs (va_runIN (As := As.map (pm_v g)) (b := g.2.1 + q) hfix hC ⟨va_cnB (pm_na f2) hts (pm_good hcode) hww rfl rfl (hK.2.1 _ hl) (hts _ a6) ⟨a2.1, a2.2, a4⟩ hRm, b2, hts _ b1⟩ ⟨pm_P_blind, hpre⟩ rfl hAs hl2.1 hst hroom hdg ⟨hc, hs⟩) w
theorem dec_of {b : ByteArray} {pc : Nat} {ins : Instr} (h : pm_dc b pc ins = true) (hs : pm_isw ins = false) : decode b pc = .ok (ins, pm_len ins) := by
  unfold pm_dc at h
  split at h
  · rename_i i n e
    rw [hs, Bool.false_or, Bool.and_eq_true] at h
    have h1 := of_decide_eq_true h.1
    have h2 := of_decide_eq_true h.2
    rw [e, h1, h2]
  · cases h
def kLP : List pm_Bl := kX12_layPlaces ++ [
  (20, 11, [(.iload_n 2, []), (.aload_n 0, []), (.getfield 53, [12, 28, 3, 153]), (.iload_n 1, []), (.iaload, []), (.if_icmp .lt 34, [4]), (.aload_n 0, []), (.iload_n 1, []), (.iload_n 2, []), (.invokevirtual 337, [253, 3, 294, 0, 0, 12]), (.ifCond .eq 19, [3]), (.aload_n 0, []), (.iload_n 1, []), (.iload_n 2, []), (.bipush (-9), []), (.bipush (-9), []), (.aload_n 0, []), (.iload_n 1, []), (.iload_n 2, [])]),
  (49, 0, []),
  (52, 3, [(.invokevirtual 344, [254, 6, 297, 0, 0, 12])])]
theorem kLP_10 : pm_ckb 255 kLP 10 = true := by decide +kernel
theorem kLP_12 : pm_ckb 255 kLP 12 = true := by decide +kernel
theorem lp_to {b c : Nat} {st : List Value} (hb : (kLP.map (fun b => b.1)).getD c 0 = (kX12_layPlaces.map (fun b => b.1)).getD b 0) (h : UU g d 255 kX12_layPlaces R Q b ls st S I J k) : UU g d 255 kLP R Q c ls st S I J k := ⟨trivial, by have := h.2; unfold pm_U at this ⊢; rw [hb]; exact this⟩
theorem lp_from {b c : Nat} {st : List Value} (hb : (kLP.map (fun b => b.1)).getD c 0 = (kX12_layPlaces.map (fun b => b.1)).getD b 0) (h : UU g d 255 kLP R Q c ls st S I J k) : UU g d 255 kX12_layPlaces R Q b ls st S I J k := ⟨trivial, by have := h.2; unfold pm_U at this ⊢; rw [← hb]; exact this⟩
theorem bLP_10 {st : List Value} (w : pm_wp g d R Q (UU g d 255 kLP R Q) 11 [(.iload_n 2, []), (.aload_n 0, []), (.getfield 53, [12, 28, 3, 153]), (.iload_n 1, []), (.iaload, []), (.if_icmp .lt 34, [4]), (.aload_n 0, []), (.iload_n 1, []), (.iload_n 2, []), (.invokevirtual 337, [253, 3, 294, 0, 0, 12]), (.ifCond .eq 19, [3]), (.aload_n 0, []), (.iload_n 1, []), (.iload_n 2, []), (.bipush (-9), []), (.bipush (-9), []), (.aload_n 0, []), (.iload_n 1, []), (.iload_n 2, [])] ls st S I J k) : UU g d 255 kLP R Q 10 ls st S I J k := u_go kLP_10 rfl w
theorem bLP_12 {st : List Value} (w : pm_wp g d R Q (UU g d 255 kLP R Q) 3 [(.invokevirtual 344, [254, 6, 297, 0, 0, 12])] ls st S I J k) : UU g d 255 kLP R Q 12 ls st S I J k := u_go kLP_12 rfl w
theorem lp_call {a b : Int32} (hS : pm_kd S 68 = 16) (hk1 : k.1 ≤ R.cells) (hk2 : k.2 ≤ R.slots) (hC : pm_C g d 252 [.ref 68, .int a, .int b] (fun r S' I' J' => ∃ x, r = some (.long x) ∧ UU g d 255 kLP R Q 12 ls [.long x, .int (-9), .int (-9), .int b, .int a, .ref 68] S' I' J' k) S I J) : UU g d 255 kLP R Q 11 ls [.int b, .int a, .ref 68, .int (-9), .int (-9), .int b, .int a, .ref 68] S I J k := by
  obtain ⟨e1, e2, e3, e4, e5, e6, e7⟩ := pm_ckcf (f := 255) (i := 340) (kn := 0) (ax := [252, 3, 295, 0, 0, 12]) (by decide +kernel)
  have m1 : pm_mc 252 = 0 := by decide +kernel
  have m2 : pm_ms 252 = 0 := by decide +kernel
  have m3 : pm_ow 252 = 12 := by decide +kernel
  have m4 : pm_na 252 = 2 := by decide +kernel
  refine ⟨trivial, ?_⟩
  show pm_V g d 255 R Q 49 ls _ S I J k
  refine pm_r_call8 (f2 := 252) (n := 3) (idx := 340) 0 (Or.inl rfl) e1 e2 e7 (by rw [m4]) (Nat.le_of_ble_eq_true rfl) (Nat.le_of_ble_eq_true rfl) (by rw [m3]; exact hS) hC (by rw [m1]; exact hk1) (by rw [m2]; exact hk2) (dec_of (ins := .invokevirtual 340) (by decide +kernel) rfl) (fun r S' I' J' h => ?_)
  obtain ⟨x, rfl, h⟩ := h
  rw [m1, m2]
  exact h.2
end C91c8

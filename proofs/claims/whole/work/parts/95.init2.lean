section C95
variable {g : pm_G} {d : Nat}
def xM1 : xM := [(65, 8, -9), (65, 7, -9), (65, 6, -9), (65, 5, -9), (65, 4, -9), (65, 3, -9), (65, 2, -9), (65, 1, -9), (65, 0, -9), (31, 8, 1), (20, 11, -9), (20, 10, -9), (20, 9, -9), (20, 8, -9), (20, 7, -9), (20, 6, -9), (20, 5, -9), (20, 4, -9), (20, 3, -9), (20, 2, -9), (20, 1, -9), (20, 0, -9), (7, 3, -1), (7, 2, -1), (7, 1, -1), (7, 0, -1), (6, 1, 32), (6, 0, 48), (4, 5, -1), (4, 4, -1), (4, 3, -1), (4, 2, -1), (4, 1, -1), (4, 0, -1), (3, 0, 24)]
def xN1 : xN := [(1, 4, 1)]
def xM2 : xM := [(121, 8, -9), (121, 7, -9), (121, 6, -9), (121, 5, -9), (121, 4, -9), (121, 3, -9), (121, 2, -9), (121, 1, -9), (121, 0, -9), (73, 3, -1), (73, 2, -1), (73, 1, -1), (73, 0, -1), (89, 5, -9), (88, 5, -9), (70, 5, -1), (89, 4, -9), (88, 4, -9), (70, 4, -1), (89, 3, -9), (88, 3, -9), (70, 3, -1), (89, 2, -9), (88, 2, -9), (70, 2, -1), (89, 1, -9), (88, 1, -9), (70, 1, -1), (89, 0, -9), (88, 0, -9), (70, 0, -1), (65, 8, -9), (65, 7, -9), (65, 6, -9), (65, 5, -9), (65, 4, -9), (65, 3, -9), (65, 2, -9), (65, 1, -9), (65, 0, -9), (31, 8, 1), (20, 11, -9), (20, 10, -9), (20, 9, -9), (20, 8, -9), (20, 7, -9), (20, 6, -9), (20, 5, -9), (20, 4, -9), (20, 3, -9), (20, 2, -9), (20, 1, -9), (20, 0, -9), (7, 3, -1), (7, 2, -1), (7, 1, -1), (7, 0, -1), (6, 1, 32), (6, 0, 48), (4, 5, -1), (4, 4, -1), (4, 3, -1), (4, 2, -1), (4, 1, -1), (4, 0, -1), (3, 0, 24)]
def xN2 : xN := [(68, 4, 1), (1, 4, 1)]
def xS1 : pm_SS := SH.take 68
def xB (f : Nat) : pm_Bl := ((xK f)[0]?).getD (0, 0, [])
def xck (o : Option (pm_SS × xM × xN)) (S : pm_SS) (M : xM) (N : xN) : Bool := match o with
  | some r => decide (r.1 = S) && (decide (r.2.1 = M) && decide (r.2.2 = N))
  | none => false
theorem xck_e {o : Option (pm_SS × xM × xN)} {S : pm_SS} {M : xM} {N : xN} (h : xck o S M N = true) : o = some (S, M, N) := by
  unfold xck at h
  split at h
  · rename_i r
    rw [Bool.and_eq_true, Bool.and_eq_true] at h
    obtain ⟨a, b, c⟩ := r
    have h1 : a = S := of_decide_eq_true h.1
    have h2 : b = M := of_decide_eq_true h.2.1
    have h3 : c = N := of_decide_eq_true h.2.2
    rw [h1, h2, h3]
  · cases h
theorem x_p : xck (xe 3000 99 122 (pm_mc 122) (pm_ms 122) (xB 122).2.1 (xB 122).2.2 (pm_el [.ref 0] ++ List.replicate (pm_mx 122 - (lg_sl [.ref 0]).length) none) [] [(15, 12, List.replicate 12 none)] [] [] (0, 0)) xS1 xM1 xN1 = true := by decide +kernel
theorem x_m : xck (xe 3000 99 187 (pm_mc 187) (pm_ms 187) (xB 187).2.1 (xB 187).2.2 (pm_el [.ref 68] ++ List.replicate (pm_mx 187 - (lg_sl [.ref 68]).length) none) [] (xS1 ++ [(16, 81, List.replicate 81 none)]) xM1 xN1 (0, 0)) SH xM2 xN2 = true := by decide +kernel
theorem xK_122 : (xK 122)[0]? = some (xB 122) := rfl
theorem xK_187 : (xK 187)[0]? = some (xB 187) := rfl
theorem c_plant0 {Q : pm_Po} (hd : d = 100) (hQ : Q none xS1 (xI xM1) (xJ xN1)) : pm_C g d 122 [.ref 0] Q [(15, 12, List.replicate 12 none)] (xI []) (xJ []) := by
  subst hd
  exact x_C (by decide) (by decide) (by decide +kernel) xK_122 (by decide +kernel) (xck_e x_p) hQ
theorem c_model0 {Q : pm_Po} (hd : d = 100) (hQ : Q none SH (xI xM2) (xJ xN2)) : pm_C g d 187 [.ref 68] Q (xS1 ++ [(16, 81, List.replicate 81 none)]) (xI xM1) (xJ xN1) := by
  subst hd
  exact x_C (by decide) (by decide) (by decide +kernel) xK_187 (by decide +kernel) (xck_e x_m) hQ
def xcl (a : Nat) : xM → Nat → Int32
  | [] => fun _ => 0
  | e :: r => if e.1 = a then upd (xcl a r) e.2.1 e.2.2 else xcl a r
theorem xI_c {a : Nat} : ∀ {M : xM}, xI M a = xcl a M
  | [] => rfl
  | e :: r => by
    have ih := xI_c (a := a) (M := r)
    show pm_up (xI r) e.1 e.2.1 e.2.2 a = (if e.1 = a then upd (xcl a r) e.2.1 e.2.2 else xcl a r)
    unfold pm_up
    by_cases h : a = e.1
    · rw [if_pos h, if_pos h.symm, ← h, ih]
    · rw [if_neg h, if_neg (fun q => h q.symm), ih]
theorem xzz {a b : Nat} (ha : xM2.all (fun e => e.1 != a) = true) (hb : xM2.all (fun e => e.1 != b) = true) : xI xM2 a = xI xM2 b := by rw [xI_z ha, xI_z hb]
theorem rel0 : Rel (xI xM2) (xJ xN2) := by
  refine ⟨?_, ?_, ?_, ?_, ?_, ?_, ?_, ?_, ?_, ?_, ?_, ?_⟩
  · exact ⟨by decide +kernel, by decide +kernel, xzz (by decide +kernel) (by decide +kernel), by decide +kernel, by decide +kernel, by decide +kernel⟩
  · exact ⟨by decide +kernel, 0, by omega, by decide +kernel⟩
  · refine ⟨by decide +kernel, by decide +kernel, by rw [xI_c, xI_c]; rfl, fun r hr => Or.inl ?_⟩
    have h : ∀ r : Fin 6, xI xM2 4 r = -1 := by decide +kernel
    exact h ⟨r, hr⟩
  · refine ⟨by decide +kernel, by decide +kernel, by rw [xI_c, xI_c]; rfl, fun r hr => Or.inl ?_⟩
    have h : ∀ r : Fin 4, xI xM2 7 r = -1 := by decide +kernel
    exact h ⟨r, hr⟩
  · refine ⟨by decide +kernel, by decide +kernel, xzz (by decide +kernel) (by decide +kernel), xzz (by decide +kernel) (by decide +kernel), xzz (by decide +kernel) (by decide +kernel), xzz (by decide +kernel) (by decide +kernel), xzz (by decide +kernel) (by decide +kernel), xzz (by decide +kernel) (by decide +kernel), xzz (by decide +kernel) (by decide +kernel), xzz (by decide +kernel) (by decide +kernel), xzz (by decide +kernel) (by decide +kernel), ⟨0, by omega, by decide +kernel⟩, 0, by omega, by decide +kernel, fun i hi => by omega, fun i j hi hj => by omega⟩
  · refine ⟨xzz (by decide +kernel) (by decide +kernel), xzz (by decide +kernel) (by decide +kernel), fun p hp => ?_⟩
    have h : ∀ p : Fin 6, xI xM2 88 p = xI xM2 20 (2 * p) ∧ xI xM2 89 p = xI xM2 20 (2 * p + 1) ∧ (xI xM2 20 (2 * p) = -9 ∧ xI xM2 20 (2 * p + 1) = -9) := by decide +kernel
    have := h ⟨p, hp⟩
    exact ⟨this.1, this.2.1, Or.inl this.2.2⟩
  · exact ⟨by decide +kernel, xzz (by decide +kernel) (by decide +kernel), xzz (by decide +kernel) (by decide +kernel), xzz (by decide +kernel) (by decide +kernel), xzz (by decide +kernel) (by decide +kernel), xzz (by decide +kernel) (by decide +kernel), xzz (by decide +kernel) (by decide +kernel), 0, by omega, by decide +kernel, fun r hr => by omega⟩
  · exact ⟨by decide +kernel, xzz (by decide +kernel) (by decide +kernel), xzz (by decide +kernel) (by decide +kernel), 0, by omega, by decide +kernel, fun r hr => by omega⟩
  · exact ⟨by decide +kernel, xzz (by decide +kernel) (by decide +kernel), xzz (by decide +kernel) (by decide +kernel), xzz (by decide +kernel) (by decide +kernel), xzz (by decide +kernel) (by decide +kernel), 0, by omega, by decide +kernel, fun r hr => by omega⟩
  · exact ⟨by decide +kernel, xzz (by decide +kernel) (by decide +kernel), xzz (by decide +kernel) (by decide +kernel), xzz (by decide +kernel) (by decide +kernel), xzz (by decide +kernel) (by decide +kernel), 0, by omega, by decide +kernel, fun r hr => by omega⟩
  · refine ⟨by decide +kernel, xzz (by decide +kernel) (by decide +kernel), xzz (by decide +kernel) (by decide +kernel), fun k hk => ?_, 0, by omega, by decide +kernel, fun r hr => by omega⟩
    have h : ∀ p : Fin 9, xI xM2 121 p = xI xM2 65 p := by decide +kernel
    exact h ⟨k, hk⟩
  · exact ⟨by decide +kernel, 0, by omega, by decide +kernel, fun r hr => by omega⟩
theorem lw_init (hL : g.2.2.2.1 ≤ 3072) : UU g 100 302 kL_law room_1 (fun r _ _ _ => r = some (.int 1)) 0 [some .null, none, none, none] [] [] (fun _ _ => 0) (fun _ _ => 0) (0, 0) := by
  have z1 : pm_z (fun _ _ => 0) 0 = xI [] := by funext a b; unfold pm_z; split <;> rfl
  have z2 : pm_zL (fun _ _ => 0) 0 = xJ [] := by funext a b; unfold pm_zL; split <;> rfl
  have z3 := xz_e (M := xM1) (N := xN1) (a := 68) (by decide +kernel)
  have f1 : (pm_fks 11).length = 12 := by decide +kernel
  have f2 : (pm_fks 12).length = 81 := by decide +kernel
  have l1 : xS1.length = 68 := by decide +kernel
  have rc : room_1.cells = 600000 := rfl
  have rs : room_1.slots = 7302250 := rfl
  refine bL_law_0 ?_
  rw [w_new, f1, rc, rs]
  refine ⟨by decide, by decide, ?_⟩
  rw [w_dup_r, w_ix (by omega), rc, rs]
  refine ⟨by decide, by decide, ?_⟩
  rw [pm_cl2_1]
  simp only [List.length_nil, z1, z2, List.nil_append]
  refine ⟨Nat.le_of_ble_eq_true rfl, (by show pm_kd [(15, 12, List.replicate 12 none)] 0 = 15; decide), ?_⟩
  refine c_plant0 rfl ?_
  simp only [Option.toList_none, List.nil_append]
  rw [w_astore_1, w_new, f2, rc, rs, l1, z3.1, z3.2]
  refine ⟨by decide, by decide, ?_⟩
  rw [w_dup_r, w_ix (by omega), rc, rs]
  refine ⟨by decide, by decide, ?_⟩
  rw [pm_cl2_1]
  refine ⟨Nat.le_of_ble_eq_true rfl, Nat.le_of_ble_eq_true rfl, (by show pm_kd (xS1 ++ [(16, 81, List.replicate 81 none)]) 68 = 16; decide +kernel), ?_⟩
  refine c_model0 rfl ?_
  simp only [Option.toList_none, List.nil_append]
  rw [w_astore_2, w_iconst, w_istore_3, w_nil]
  have h := fun (k : Nat × Nat) (h1 : k.1 ≤ room_1.cells) (h2 : k.2 ≤ room_1.slots) => lw_loop (g := g) (d := 100) (R := room_1) (Q := fun r _ _ _ => r = some (.int 1)) (k := k) (by omega) hL h1 h2 (fun _ _ _ => rfl) 512 0 (xI xM2) (xJ xN2) (by omega) (by omega) rel0
  refine ⟨rfl, rfl, h _ ?_ ?_⟩
  · exact Nat.le_of_ble_eq_true rfl
  · exact Nat.le_of_ble_eq_true rfl
end C95

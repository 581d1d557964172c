/-! ===== an evaluator of the pure machine, for the constructors ===== -/
section C94
variable {g : pm_G} {d : Nat} {R : Room} {Q : pm_Po} {Jm : Nat → pm_T} {nx : Nat}
abbrev xM : Type := List (Nat × Nat × Int32)
abbrev xN : Type := List (Nat × Nat × Int64)
abbrev xT : Type := pm_LS × List Value × pm_SS × xM × xN × (Nat × Nat)
def xI : xM → pm_MI
  | [] => fun _ _ => 0
  | e :: r => pm_up (xI r) e.1 e.2.1 e.2.2
def xJ : xN → pm_ML
  | [] => fun _ _ => 0
  | e :: r => pm_upL (xJ r) e.1 e.2.1 e.2.2
def xup (M : xM) (a i : Nat) (x : Int32) : xM := if x = 0 ∧ M.all (fun e => e.1 != a || e.2.1 != i) = true then M else (a, i, x) :: M
def xupL (M : xN) (a i : Nat) (x : Int64) : xN := if x = 0 ∧ M.all (fun e => e.1 != a || e.2.1 != i) = true then M else (a, i, x) :: M
def xfree (M : xM) (N : xN) (a : Nat) : Bool := M.all (fun e => e.1 != a) && N.all (fun e => e.1 != a)
theorem xI_0 {a i : Nat} : ∀ {M : xM}, M.all (fun e => e.1 != a || e.2.1 != i) = true → xI M a i = 0
  | [], _ => rfl
  | e :: r, h => by
    rw [List.all_cons, Bool.and_eq_true] at h
    have ih := xI_0 h.2
    have h1 := h.1
    show pm_up (xI r) e.1 e.2.1 e.2.2 a i = 0
    by_cases q : a = e.1
    · subst q
      by_cases p : i = e.2.1
      · subst p
        simp at h1
      · rw [pm_up_n p]; exact ih
    · rw [pm_up_o q]; exact ih
theorem xJ_0 {a i : Nat} : ∀ {M : xN}, M.all (fun e => e.1 != a || e.2.1 != i) = true → xJ M a i = 0
  | [], _ => rfl
  | e :: r, h => by
    rw [List.all_cons, Bool.and_eq_true] at h
    have ih := xJ_0 h.2
    have h1 := h.1
    show pm_upL (xJ r) e.1 e.2.1 e.2.2 a i = 0
    by_cases q : a = e.1
    · subst q
      by_cases p : i = e.2.1
      · subst p
        simp at h1
      · rw [pm_upL_n p]; exact ih
    · rw [pm_upL_o q]; exact ih
theorem xI_z {a : Nat} : ∀ {M : xM}, M.all (fun e => e.1 != a) = true → xI M a = fun _ => 0
  | [], _ => rfl
  | e :: r, h => by
    rw [List.all_cons, Bool.and_eq_true] at h
    have ih := xI_z h.2
    have h1 := h.1
    show pm_up (xI r) e.1 e.2.1 e.2.2 a = _
    have q : a ≠ e.1 := by intro q; subst q; simp at h1
    rw [pm_up_o q]; exact ih
theorem xJ_z {a : Nat} : ∀ {M : xN}, M.all (fun e => e.1 != a) = true → xJ M a = fun _ => 0
  | [], _ => rfl
  | e :: r, h => by
    rw [List.all_cons, Bool.and_eq_true] at h
    have ih := xJ_z h.2
    have h1 := h.1
    show pm_upL (xJ r) e.1 e.2.1 e.2.2 a = _
    have q : a ≠ e.1 := by intro q; subst q; simp at h1
    rw [pm_upL_o q]; exact ih
theorem xup_e {M : xM} {a i : Nat} {x : Int32} : pm_up (xI M) a i x = xI (xup M a i x) := by
  unfold xup
  split
  · rename_i h
    obtain ⟨h1, h2⟩ := h
    have h0 := xI_0 h2
    funext b j
    by_cases q : b = a
    · subst q
      by_cases p : j = i
      · subst p; rw [pm_up_s, h0, h1]
      · rw [pm_up_n p]
    · rw [pm_up_o q]
  · rfl
theorem xupL_e {M : xN} {a i : Nat} {x : Int64} : pm_upL (xJ M) a i x = xJ (xupL M a i x) := by
  unfold xupL
  split
  · rename_i h
    obtain ⟨h1, h2⟩ := h
    have h0 := xJ_0 h2
    funext b j
    by_cases q : b = a
    · subst q
      by_cases p : j = i
      · subst p; rw [pm_upL_s, h0, h1]
      · rw [pm_upL_n p]
    · rw [pm_upL_o q]
  · rfl
theorem xz_e {M : xM} {N : xN} {a : Nat} (h : xfree M N a = true) : pm_z (xI M) a = xI M ∧ pm_zL (xJ N) a = xJ N := by
  unfold xfree at h
  rw [Bool.and_eq_true] at h
  have h1 := xI_z h.1
  have h2 := xJ_z h.2
  constructor
  · funext b
    unfold pm_z
    by_cases e : b = a
    · rw [if_pos e, e, h1]
    · rw [if_neg e]
  · funext b
    unfold pm_zL
    by_cases e : b = a
    · rw [if_pos e, e, h2]
    · rw [if_neg e]
/-- one instruction that goes on to the next -/
def xs (C L : Nat) (ins : Instr) (ax : List Nat) (ls : pm_LS) (st : List Value) (S : pm_SS) (M : xM) (N : xN) (k : Nat × Nat) : Option xT :=
  match ins with
  | .iconst n => some (ls, .int (Int32.ofInt n) :: st, S, M, N, k)
  | .bipush n => some (ls, .int (Int8.ofInt n).toInt32 :: st, S, M, N, k)
  | .sipush n => some (ls, .int (Int16.ofInt n).toInt32 :: st, S, M, N, k)
  | .lconst n => some (ls, .long (Int64.ofNat n.val) :: st, S, M, N, k)
  | .iload i => match ls.getD i none with
    | some (.int x) => some (ls, .int x :: st, S, M, N, k)
    | _ => none
  | .iload_n i => match ls.getD i.val none with
    | some (.int x) => some (ls, .int x :: st, S, M, N, k)
    | _ => none
  | .aload_n i => match ls.getD i.val none with
    | some (.ref x) => some (ls, .ref x :: st, S, M, N, k)
    | _ => none
  | .istore i => match st with
    | .int x :: st => if pm_ok ls i = true then some (ls.set i (some (.int x)), st, S, M, N, k) else none
    | _ => none
  | .istore_n i => match st with
    | .int x :: st => if pm_ok ls i.val = true then some (ls.set i.val (some (.int x)), st, S, M, N, k) else none
    | _ => none
  | .iinc i n => match ls.getD i none with
    | some (.int x) => if pm_ok ls i = true then some (ls.set i (some (.int (x + Int32.ofInt n))), st, S, M, N, k) else none
    | _ => none
  | .imul => match st with
    | .int y :: .int x :: st => some (ls, .int (x * y) :: st, S, M, N, k)
    | _ => none
  | .dup => match st with
    | .ref a :: st => some (ls, .ref a :: .ref a :: st, S, M, N, k)
    | _ => none
  | .iastore => match st with
    | .int x :: .int i :: .ref a :: st => if pm_kd S a = 0 ∧ 0 ≤ i.toInt ∧ i.toInt < (pm_n S a : Int) then some (ls, st, S, xup M a i.toNatClampNeg x, N, k) else none
    | _ => none
  | .arraylength => match st with
    | .ref a :: st => if pm_kd S a < 4 then some (ls, .int (Int32.ofNat (pm_n S a)) :: st, S, M, N, k) else none
    | _ => none
  | .getfield _ => match ax with
    | [ci, j, t, _] => match st with
      | .ref a :: st => match pm_rf S a j with
        | some q => if t = 3 ∧ pm_kd S a = ci + 4 then some (ls, .ref q :: st, S, M, N, k) else none
        | none => none
      | _ => none
    | _ => none
  | .putfield _ => match ax with
    | [ci, j, t, _] => match st with
      | .int x :: .ref a :: st => if t = 0 ∧ pm_kd S a = ci + 4 then some (ls, st, S, xup M a j x, N, k) else if t = 2 ∧ pm_kd S a = ci + 4 ∧ (x = 0 ∨ x = 1) then some (ls, st, S, xup M a j x, N, k) else none
      | .long x :: .ref a :: st => if t = 1 ∧ pm_kd S a = ci + 4 then some (ls, st, S, M, xupL N a j x, k) else none
      | .ref x :: .ref a :: st => if t = 3 ∧ pm_kd S a = ci + 4 ∧ j < (S.getD a (999, 0, [])).2.2.length then some (ls, st, pm_sr S a j x, M, N, k) else none
      | _ => none
    | _ => none
  | .new _ => match ax with
    | [ci, _] => if k.1 + 1 ≤ C ∧ k.2 + (pm_fks ci).length ≤ L ∧ xfree M N S.length = true then some (ls, .ref S.length :: st, S ++ [(ci + 4, (pm_fks ci).length, List.replicate (pm_fks ci).length none)], M, N, (k.1 + 1, k.2 + (pm_fks ci).length)) else none
    | _ => none
  | .newarray _ => match ax with
    | [kd] => match st with
      | .int n :: st => if ¬ n < 0 ∧ n.toNatClampNeg ≤ 100000 ∧ k.1 + 1 ≤ C ∧ k.2 + n.toNatClampNeg ≤ L ∧ xfree M N S.length = true then some (ls, .ref S.length :: st, S ++ [(kd, n.toNatClampNeg, [])], M, N, (k.1 + 1, k.2 + n.toNatClampNeg)) else none
      | _ => none
    | _ => none
  | .invokespecial _ => match ax with
    | [u, _] => match st with
      | .ref _ :: st => if u = 9999 ∧ st.length ≤ 4 then some (ls, st, S, M, N, k) else none
      | _ => none
    | _ => none
  | _ => none
theorem xs_ok {ins : Instr} {ax : List Nat} {is : List pm_I} {ls : pm_LS} {st : List Value} {S : pm_SS} {M : xM} {N : xN} {k : Nat × Nat} {t : xT} (h : xs R.cells R.slots ins ax ls st S M N k = some t) (w : pm_wp g d R Q Jm nx is t.1 t.2.1 t.2.2.1 (xI t.2.2.2.1) (xJ t.2.2.2.2.1) t.2.2.2.2.2) : pm_wp g d R Q Jm nx ((ins, ax) :: is) ls st S (xI M) (xJ N) k := by
  unfold xs at h
  split at h
  · cases h; exact w
  · cases h; exact w
  · cases h; exact w
  · cases h; exact w
  · split at h
    · rename_i e
      cases h
      show pm_li _ (ls.getD _ none)
      rw [e]; exact w
    · cases h
  · split at h
    · rename_i e
      cases h
      show pm_li _ (ls.getD _ none)
      rw [e]; exact w
    · cases h
  · split at h
    · rename_i e
      cases h
      exact Eq.mpr (congrArg (pm_la (fun x => pm_wp g d R Q Jm nx is ls (x :: st) S (xI M) (xJ N) k)) e) w
    · cases h
  · split at h
    · split at h
      · rename_i e
        cases h
        exact And.intro e w
      · cases h
    · cases h
  · split at h
    · split at h
      · rename_i e
        cases h
        exact And.intro e w
      · cases h
    · cases h
  · split at h
    · rename_i e
      split at h
      · rename_i e2
        cases h
        refine And.intro e2 ?_
        show pm_li _ (ls.getD _ none)
        rw [e]; exact w
      · cases h
    · cases h
  · split at h
    · cases h; exact w
    · cases h
  · split at h
    · cases h; exact And.intro rfl w
    · cases h
  · split at h
    · split at h
      · rename_i e
        cases h
        rw [w_iastore, xup_e]
        exact ⟨e.1, vp_in_iff.mpr e.2, w⟩
      · cases h
    · cases h
  · split at h
    · split at h
      · rename_i e
        cases h
        rw [w_alen]
        exact ⟨e, w⟩
      · cases h
    · cases h
  · split at h
    · split at h
      · split at h
        · rename_i q e
          split at h
          · rename_i e2
            cases h
            obtain ⟨rfl, e3⟩ := e2
            rw [w_gf3, e]
            exact ⟨e3, rfl, w⟩
          · cases h
        · cases h
      · cases h
    · cases h
  · split at h
    · split at h
      · split at h
        · rename_i e
          cases h
          obtain ⟨rfl, e3⟩ := e
          rw [w_pf0, xup_e]
          exact ⟨e3, w⟩
        · split at h
          · rename_i e
            cases h
            obtain ⟨rfl, e3, e4⟩ := e
            rw [w_pf2, xup_e]
            exact ⟨e3, e4, w⟩
          · cases h
      · split at h
        · rename_i e
          cases h
          obtain ⟨rfl, e3⟩ := e
          rw [w_pf1, xupL_e]
          exact ⟨e3, w⟩
        · cases h
      · split at h
        · rename_i e
          cases h
          obtain ⟨rfl, e3, e4⟩ := e
          rw [w_pf3]
          exact ⟨e3, e4, w⟩
        · cases h
      · cases h
    · cases h
  · split at h
    · split at h
      · rename_i e
        cases h
        rw [w_new, (xz_e e.2.2).1, (xz_e e.2.2).2]
        exact ⟨e.1, e.2.1, w⟩
      · cases h
    · cases h
  · split at h
    · split at h
      · split at h
        · rename_i e
          cases h
          obtain ⟨e1, e2, e3, e4, e5⟩ := e
          rw [w_newarray, (xz_e e5).1, (xz_e e5).2]
          exact ⟨e1, e2, e3, e4, w⟩
        · cases h
      · cases h
    · cases h
  · split at h
    · split at h
      · split at h
        · rename_i e
          cases h
          obtain ⟨rfl, e3⟩ := e
          rw [w_io]
          exact ⟨e3, w⟩
        · cases h
      · cases h
    · cases h
  · cases h
def xK (f : Nat) : List pm_Bl := if f = 0 then kX0_init else if f = 22 then kX1_init else if f = 34 then kX2_init else if f = 40 then kX3_init else if f = 47 then kX4_init else if f = 53 then kX5_init else if f = 72 then kX6_init else if f = 86 then kX7_init else if f = 91 then kX8_init else if f = 104 then kX9_init else if f = 117 then kX10_init else if f = 122 then kX11_init else if f = 187 then kX12_init else []
theorem xK_ok {f b : Nat} {q : pm_Bl} (h : (xK f)[b]? = some q) : pm_ckb f (xK f) b = true := by
  unfold xK at h ⊢
  by_cases e : f = 0
  · subst e; rw [if_pos rfl] at h ⊢; exact pm_ck_at kX0_init_ok h
  rw [if_neg e] at h ⊢
  clear e
  by_cases e : f = 22
  · subst e; rw [if_pos rfl] at h ⊢; exact pm_ck_at kX1_init_ok h
  rw [if_neg e] at h ⊢
  clear e
  by_cases e : f = 34
  · subst e; rw [if_pos rfl] at h ⊢; exact pm_ck_at kX2_init_ok h
  rw [if_neg e] at h ⊢
  clear e
  by_cases e : f = 40
  · subst e; rw [if_pos rfl] at h ⊢; exact pm_ck_at kX3_init_ok h
  rw [if_neg e] at h ⊢
  clear e
  by_cases e : f = 47
  · subst e; rw [if_pos rfl] at h ⊢; exact pm_ck_at kX4_init_ok h
  rw [if_neg e] at h ⊢
  clear e
  by_cases e : f = 53
  · subst e; rw [if_pos rfl] at h ⊢; exact pm_ck_at kX5_init_ok h
  rw [if_neg e] at h ⊢
  clear e
  by_cases e : f = 72
  · subst e; rw [if_pos rfl] at h ⊢; exact pm_ck_at kX6_init_ok h
  rw [if_neg e] at h ⊢
  clear e
  by_cases e : f = 86
  · subst e; rw [if_pos rfl] at h ⊢; exact pm_ck_at kX7_init_ok h
  rw [if_neg e] at h ⊢
  clear e
  by_cases e : f = 91
  · subst e; rw [if_pos rfl] at h ⊢; exact pm_ck_at kX8_init_ok h
  rw [if_neg e] at h ⊢
  clear e
  by_cases e : f = 104
  · subst e; rw [if_pos rfl] at h ⊢; exact pm_ck_at kX9_init_ok h
  rw [if_neg e] at h ⊢
  clear e
  by_cases e : f = 117
  · subst e; rw [if_pos rfl] at h ⊢; exact pm_ck_at kX10_init_ok h
  rw [if_neg e] at h ⊢
  clear e
  by_cases e : f = 122
  · subst e; rw [if_pos rfl] at h ⊢; exact pm_ck_at kX11_init_ok h
  rw [if_neg e] at h ⊢
  clear e
  by_cases e : f = 187
  · subst e; rw [if_pos rfl] at h ⊢; exact pm_ck_at kX12_init_ok h
  rw [if_neg e] at h ⊢
  clear e
  simp at h
def xrcv (S : pm_SS) (c : Nat) : List Value → Bool
  | .ref q :: _ => decide (pm_kd S q = c + 4)
  | _ => false
def xe : Nat → Nat → Nat → Nat → Nat → Nat → List pm_I → pm_LS → List Value → pm_SS → xM → xN → Nat × Nat → Option (pm_SS × xM × xN)
  | 0, _, _, _, _, _, _, _, _, _, _, _, _ => none
  | n + 1, d, f, C, L, nx, [], ls, st, S, M, N, k => match (xK f)[nx]? with
    | some q => xe n d f C L q.2.1 q.2.2 ls st S M N k
    | none => none
  | n + 1, d, f, C, L, nx, i :: is, ls, st, S, M, N, k =>
    match xs C L i.1 i.2 ls st S M N k with
    | some t => xe n d f C L nx is t.1 t.2.1 t.2.2.1 t.2.2.2.1 t.2.2.2.2.1 t.2.2.2.2.2
    | none => match i.1 with
      | .goto _ => match i.2 with
        | [b] => match (xK f)[b]? with
          | some q => xe n d f C L q.2.1 q.2.2 ls st S M N k
          | none => none
        | _ => none
      | .if_icmp .ge _ => match i.2 with
        | [b] => match st with
          | .int y :: .int x :: st => if y ≤ x then (match (xK f)[b]? with
              | some q => xe n d f C L q.2.1 q.2.2 ls st S M N k
              | none => none) else xe n d f C L nx is ls st S M N k
          | _ => none
        | _ => none
      | .return_ => match st with
        | [] => some (S, M, N)
        | _ => none
      | .invokespecial _ => match i.2 with
        | [f2, na, _, mc, ms, c] => if k.1 + mc ≤ C ∧ k.2 + ms ≤ L ∧ f2 < 297 ∧ na ≤ st.length ∧ (st.drop na).length ≤ 4 ∧ xrcv S c (st.take na).reverse = true ∧ 1 ≤ d ∧ (lg_sl (st.take na).reverse).length ≤ pm_mx f2 then
            (match (xK f2)[0]? with
              | some q => if q.1 = 0 then
                  (match xe n (d - 1) f2 (pm_mc f2) (pm_ms f2) q.2.1 q.2.2 (pm_el (st.take na).reverse ++ List.replicate (pm_mx f2 - (lg_sl (st.take na).reverse).length) none) [] S M N (0, 0) with
                    | some r => xe n d f C L nx is ls (st.drop na) r.1 r.2.1 r.2.2 (k.1 + mc, k.2 + ms)
                    | none => none) else none
              | none => none) else none
        | _ => none
      | _ => none
theorem xe_ok : ∀ (n d f C L nx : Nat) (is : List pm_I) (ls : pm_LS) (st : List Value) (S : pm_SS) (M : xM) (N : xN) (k : Nat × Nat) (R : Room) (Q : pm_Po) (r : pm_SS × xM × xN), R.cells = C → R.slots = L → xe n d f C L nx is ls st S M N k = some r → Q none r.1 (xI r.2.1) (xJ r.2.2) → pm_wp g d R Q (UU g d f (xK f) R Q) nx is ls st S (xI M) (xJ N) k := by
  intro n
  induction n with
  | zero => intro d f C L nx is ls st S M N k R Q r hC hL h; unfold xe at h; cases h
  | succ n ih =>
    intro d f C L nx is ls st S M N k R Q r hC hL h hQ
    have jmp : ∀ b st (o : Option (pm_SS × xM × xN)), o = some r → (match (xK f)[b]? with
        | some q => xe n d f C L q.2.1 q.2.2 ls st S M N k
        | none => none) = o → UU g d f (xK f) R Q b ls st S (xI M) (xJ N) k := by
      intro b st o ho hb
      rw [ho] at hb
      split at hb
      · rename_i q e
        exact u_go (xK_ok e) e (ih _ _ _ _ _ _ _ _ _ _ _ _ _ _ _ hC hL hb hQ)
      · cases hb
    cases is with
    | nil =>
      unfold xe at h
      exact jmp nx st _ h rfl
    | cons i is =>
      obtain ⟨ins, ax⟩ := i
      unfold xe at h
      dsimp only at h
      split at h
      · rename_i t e
        refine xs_ok (t := t) ?_ (ih _ _ _ _ _ _ _ _ _ _ _ _ _ _ _ hC hL h hQ)
        rw [hC, hL]; exact e
      · clear jmp
        split at h
        · split at h
          · rw [w_goto]
            split at h
            · rename_i q e
              exact u_go (xK_ok e) e (ih _ _ _ _ _ _ _ _ _ _ _ _ _ _ _ hC hL h hQ)
            · cases h
          · cases h
        · split at h
          · split at h
            · rw [w_icge]
              split at h
              · rename_i hc
                split at h
                · rename_i q e
                  exact ⟨fun _ => u_go (xK_ok e) e (ih _ _ _ _ _ _ _ _ _ _ _ _ _ _ _ hC hL h hQ), fun z => absurd hc z⟩
                · cases h
              · rename_i hc
                exact ⟨fun z => absurd z hc, fun _ => ih _ _ _ _ _ _ _ _ _ _ _ _ _ _ _ hC hL h hQ⟩
            · cases h
          · cases h
        · split at h
          · cases h
            exact And.intro rfl hQ
          · cases h
        · split at h
          · split at h
            · rename_i hc
              obtain ⟨c1, c2, c3, c4, c5, c6, c7, c8⟩ := hc
              split at h
              · rename_i q eq
                split at h
                · rename_i hz
                  split at h
                  · rename_i r2 er
                    rw [w_ix (by omega)]
                    refine ⟨by omega, by omega, c4, c5, ?_, ?_⟩
                    · generalize List.reverse (List.take _ _) = A at c6
                      unfold xrcv at c6
                      split at c6
                      · have c9 := of_decide_eq_true c6
                        exact c9
                      · cases c6
                    · refine pm_ent (K := xK _) c3 eq hz c7 c8 ?_
                      refine (u_go (xK_ok eq) eq (ih _ _ _ _ _ _ _ _ _ _ _ _ (pm_rm d _) _ r2 rfl rfl er ?_)).2
                      exact ih _ _ _ _ _ _ _ _ _ _ _ _ _ _ _ hC hL h hQ
                  · cases h
                · cases h
              · cases h
            · cases h
          · cases h
        · cases h
theorem x_C {n f : Nat} {args : List Value} {S : pm_SS} {M : xM} {N : xN} {q : pm_Bl} {r : pm_SS × xM × xN} (hf : f < 297) (hd : 1 ≤ d) (hl : (lg_sl args).length ≤ pm_mx f) (h0 : (xK f)[0]? = some q) (hz : q.1 = 0) (h : xe n (d - 1) f (pm_mc f) (pm_ms f) q.2.1 q.2.2 (pm_el args ++ List.replicate (pm_mx f - (lg_sl args).length) none) [] S M N (0, 0) = some r) (hQ : Q none r.1 (xI r.2.1) (xJ r.2.2)) : pm_C g d f args Q S (xI M) (xJ N) :=
  pm_ent (K := xK f) hf h0 hz hd hl (u_go (xK_ok h0) h0 (xe_ok _ _ _ _ _ _ _ _ _ _ _ _ _ (pm_rm d f) Q r rfl rfl h hQ)).2
end C94

/-- pm_U, closed, so that no tactic looks into it -/
def UU (g : pm_G) (d f : Nat) (K : List pm_Bl) (R : Room) (Q : pm_Po) (b : Nat) : pm_T := fun ls st S I J k => ∃ _ : True, pm_U g d f K R Q b ls st S I J k
theorem u_go {g : pm_G} {d f : Nat} {R : Room} {Q : pm_Po} {S : pm_SS} {I : pm_MI} {J : pm_ML} {k : Nat × Nat} {K : List pm_Bl} {b pc nx : Nat} {is : List pm_I} {ls : pm_LS} {st : List Value} (hck : pm_ckb f K b = true) (hb : K[b]? = some (pc, nx, is)) (w : pm_wp g d R Q (UU g d f K R Q) nx is ls st S I J k) : UU g d f K R Q b ls st S I J k := by
  unfold pm_ckb at hck
  rw [hb] at hck
  have e : (K.map (fun b => b.1)).getD b 0 = pc := by rw [List.getD_eq_getElem?_getD, List.getElem?_map, hb]; rfl
  refine ⟨trivial, ?_⟩
  show pm_V g d f R Q ((K.map (fun b => b.1)).getD b 0) ls st S I J k
  rw [e]
  exact pm_sound (Jm := UU g d f K R Q) (pcs := K.map (fun b : pm_Bl => b.1)) (fun b ls st S I J k h => h.2) is pc ls st S I J k hck w
theorem u_less {g : pm_G} {d f : Nat} {R : Room} {Q : pm_Po} {S : pm_SS} {I : pm_MI} {J : pm_ML} {k : Nat × Nat} {K : List pm_Bl} {b : Nat} {ls : pm_LS} {st : List Value} (ls' : pm_LS) (h : pm_le ls' ls) (w : UU g d f K R Q b ls' st S I J k) : UU g d f K R Q b ls st S I J k := ⟨trivial, pm_U.less ls' h w.2⟩
def pm_nlg : Option Value → Bool
  | some (.long _) => false
  | some (.double _) => false
  | _ => true
section WR
variable {g : pm_G} {d : Nat} {R : Room} {Q : pm_Po} {Jm : Nat → pm_T} {nx : Nat} {is : List pm_I} {ls : pm_LS} {st : List Value} {S : pm_SS} {I : pm_MI} {J : pm_ML} {k : Nat × Nat} {ax : List Nat}
theorem w_nil : (pm_wp g d R Q Jm nx [] ls st S I J k) = (Jm nx ls st S I J k) := rfl
theorem w_iconst {n : Int} : (pm_wp g d R Q Jm nx ((.iconst n, ax) :: is) ls st S I J k) = (pm_wp g d R Q Jm nx is ls (.int (Int32.ofInt n) :: st) S I J k) := rfl
theorem w_bipush {n : Int} : (pm_wp g d R Q Jm nx ((.bipush n, ax) :: is) ls st S I J k) = (pm_wp g d R Q Jm nx is ls (.int (Int8.ofInt n).toInt32 :: st) S I J k) := rfl
theorem w_sipush {n : Int} : (pm_wp g d R Q Jm nx ((.sipush n, ax) :: is) ls st S I J k) = (pm_wp g d R Q Jm nx is ls (.int (Int16.ofInt n).toInt32 :: st) S I J k) := rfl
theorem w_lconst0 : (pm_wp g d R Q Jm nx ((.lconst 0, ax) :: is) ls st S I J k) = (pm_wp g d R Q Jm nx is ls (.long 0 :: st) S I J k) := rfl
theorem w_lconst1 : (pm_wp g d R Q Jm nx ((.lconst 1, ax) :: is) ls st S I J k) = (pm_wp g d R Q Jm nx is ls (.long 1 :: st) S I J k) := rfl
theorem w_ldcw0 {i : Nat} : (pm_wp g d R Q Jm nx ((.ldc_w i, [0]) :: is) ls st S I J k) = (pm_wp g d R Q Jm nx is ls (.int 100000 :: st) S I J k) := rfl
theorem w_ldcw1 {i : Nat} : (pm_wp g d R Q Jm nx ((.ldc_w i, [1]) :: is) ls st S I J k) = (pm_wp g d R Q Jm nx is ls (.int 1431655765 :: st) S I J k) := rfl
theorem w_ldcw2 {i : Nat} : (pm_wp g d R Q Jm nx ((.ldc_w i, [2]) :: is) ls st S I J k) = (pm_wp g d R Q Jm nx is ls (.int 858993459 :: st) S I J k) := rfl
theorem w_ldcw3 {i : Nat} : (pm_wp g d R Q Jm nx ((.ldc_w i, [3]) :: is) ls st S I J k) = (pm_wp g d R Q Jm nx is ls (.int 252645135 :: st) S I J k) := rfl
theorem w_ldcw4 {i : Nat} : (pm_wp g d R Q Jm nx ((.ldc_w i, [4]) :: is) ls st S I J k) = (pm_wp g d R Q Jm nx is ls (.int 1000000000 :: st) S I J k) := rfl
theorem w_ldcw5 {i : Nat} : (pm_wp g d R Q Jm nx ((.ldc_w i, [5]) :: is) ls st S I J k) = (pm_wp g d R Q Jm nx is ls (.int 100000 :: st) S I J k) := rfl
theorem w_ldc2_0 {i : Nat} : (pm_wp g d R Q Jm nx ((.ldc2_w i, [0]) :: is) ls st S I J k) = (pm_wp g d R Q Jm nx is ls (.long 6148914691236517205 :: st) S I J k) := rfl
theorem w_ldc2_1 {i : Nat} : (pm_wp g d R Q Jm nx ((.ldc2_w i, [1]) :: is) ls st S I J k) = (pm_wp g d R Q Jm nx is ls (.long 3689348814741910323 :: st) S I J k) := rfl
theorem w_ldc2_2 {i : Nat} : (pm_wp g d R Q Jm nx ((.ldc2_w i, [2]) :: is) ls st S I J k) = (pm_wp g d R Q Jm nx is ls (.long 1085102592571150095 :: st) S I J k) := rfl
theorem w_ldc2_3 {i : Nat} : (pm_wp g d R Q Jm nx ((.ldc2_w i, [3]) :: is) ls st S I J k) = (pm_wp g d R Q Jm nx is ls (.long (-1) :: st) S I J k) := rfl
theorem w_ldc2_4 {i : Nat} : (pm_wp g d R Q Jm nx ((.ldc2_w i, [4]) :: is) ls st S I J k) = (pm_wp g d R Q Jm nx is ls (.long 255 :: st) S I J k) := rfl
theorem w_ldc2_5 {i : Nat} : (pm_wp g d R Q Jm nx ((.ldc2_w i, [5]) :: is) ls st S I J k) = (pm_wp g d R Q Jm nx is ls (.long 3 :: st) S I J k) := rfl
theorem w_ldc2_6 {i : Nat} : (pm_wp g d R Q Jm nx ((.ldc2_w i, [6]) :: is) ls st S I J k) = (pm_wp g d R Q Jm nx is ls (.long (-1) :: st) S I J k) := rfl
theorem w_ldc2_7 {i : Nat} : (pm_wp g d R Q Jm nx ((.ldc2_w i, [7]) :: is) ls st S I J k) = (pm_wp g d R Q Jm nx is ls (.long 1000000000 :: st) S I J k) := rfl
theorem w_ldc2_8 {i : Nat} : (pm_wp g d R Q Jm nx ((.ldc2_w i, [8]) :: is) ls st S I J k) = (pm_wp g d R Q Jm nx is ls (.long 17 :: st) S I J k) := rfl
theorem w_ldc2_9 {i : Nat} : (pm_wp g d R Q Jm nx ((.ldc2_w i, [9]) :: is) ls st S I J k) = (pm_wp g d R Q Jm nx is ls (.long 31 :: st) S I J k) := rfl
theorem w_ldc2_10 {i : Nat} : (pm_wp g d R Q Jm nx ((.ldc2_w i, [10]) :: is) ls st S I J k) = (pm_wp g d R Q Jm nx is ls (.long 31 :: st) S I J k) := rfl
theorem w_ldc2_11 {i : Nat} : (pm_wp g d R Q Jm nx ((.ldc2_w i, [11]) :: is) ls st S I J k) = (pm_wp g d R Q Jm nx is ls (.long 31 :: st) S I J k) := rfl
theorem w_ldc2_12 {i : Nat} : (pm_wp g d R Q Jm nx ((.ldc2_w i, [12]) :: is) ls st S I J k) = (pm_wp g d R Q Jm nx is ls (.long 31 :: st) S I J k) := rfl
theorem w_ldc2_13 {i : Nat} : (pm_wp g d R Q Jm nx ((.ldc2_w i, [13]) :: is) ls st S I J k) = (pm_wp g d R Q Jm nx is ls (.long 31 :: st) S I J k) := rfl
theorem w_ldc2_14 {i : Nat} : (pm_wp g d R Q Jm nx ((.ldc2_w i, [14]) :: is) ls st S I J k) = (pm_wp g d R Q Jm nx is ls (.long 31 :: st) S I J k) := rfl
theorem w_ldc2_15 {i : Nat} : (pm_wp g d R Q Jm nx ((.ldc2_w i, [15]) :: is) ls st S I J k) = (pm_wp g d R Q Jm nx is ls (.long 31 :: st) S I J k) := rfl
theorem w_ldc2_16 {i : Nat} : (pm_wp g d R Q Jm nx ((.ldc2_w i, [16]) :: is) ls st S I J k) = (pm_wp g d R Q Jm nx is ls (.long 31 :: st) S I J k) := rfl
theorem w_ldc2_17 {i : Nat} : (pm_wp g d R Q Jm nx ((.ldc2_w i, [17]) :: is) ls st S I J k) = (pm_wp g d R Q Jm nx is ls (.long (-1) :: st) S I J k) := rfl
theorem w_ldc2_18 {i : Nat} : (pm_wp g d R Q Jm nx ((.ldc2_w i, [18]) :: is) ls st S I J k) = (pm_wp g d R Q Jm nx is ls (.long 3 :: st) S I J k) := rfl
theorem w_ldc2_19 {i : Nat} : (pm_wp g d R Q Jm nx ((.ldc2_w i, [19]) :: is) ls st S I J k) = (pm_wp g d R Q Jm nx is ls (.long 1000000000 :: st) S I J k) := rfl
theorem w_ldc2_20 {i : Nat} : (pm_wp g d R Q Jm nx ((.ldc2_w i, [20]) :: is) ls st S I J k) = (pm_wp g d R Q Jm nx is ls (.long 17 :: st) S I J k) := rfl
theorem w_ldc2_21 {i : Nat} : (pm_wp g d R Q Jm nx ((.ldc2_w i, [21]) :: is) ls st S I J k) = (pm_wp g d R Q Jm nx is ls (.long 31 :: st) S I J k) := rfl
theorem w_iload_0 {r : pm_LS} {x : Int32} : (pm_wp g d R Q Jm nx ((.iload_n 0, ax) :: is) (some (.int x) :: r) st S I J k) = (pm_wp g d R Q Jm nx is (some (.int x) :: r) (.int x :: st) S I J k) := rfl
theorem w_lload_0 {r : pm_LS} {x : Int64} : (pm_wp g d R Q Jm nx ((.lload_n 0, ax) :: is) (some (.long x) :: r) st S I J k) = (pm_wp g d R Q Jm nx is (some (.long x) :: r) (.long x :: st) S I J k) := rfl
theorem w_aload_0 {r : pm_LS} {x : Nat} : (pm_wp g d R Q Jm nx ((.aload_n 0, ax) :: is) (some (.ref x) :: r) st S I J k) = (pm_wp g d R Q Jm nx is (some (.ref x) :: r) (.ref x :: st) S I J k) := rfl
theorem w_naload_0 {r : pm_LS}  : (pm_wp g d R Q Jm nx ((.aload_n 0, ax) :: is) (some .null :: r) st S I J k) = (pm_wp g d R Q Jm nx is (some .null :: r) (.null :: st) S I J k) := rfl
theorem w_istore_0 {r : pm_LS} {z : Option Value} {x : Int32} : (pm_wp g d R Q Jm nx ((.istore_n 0, ax) :: is) (z :: r) (.int x :: st) S I J k) = (pm_wp g d R Q Jm nx is (some (.int x) :: r) st S I J k) := propext ⟨fun h => h.2, fun h => ⟨rfl, h⟩⟩
theorem w_lstore_0 {r : pm_LS} {z z2 : Option Value} {x : Int64} : (pm_wp g d R Q Jm nx ((.lstore_n 0, ax) :: is) (z :: z2 :: r) (.long x :: st) S I J k) = (pm_wp g d R Q Jm nx is (some (.long x) :: none :: r) st S I J k) := propext ⟨fun h => h.2, fun h => ⟨rfl, h⟩⟩
theorem w_astore_0 {r : pm_LS} {z : Option Value} {x : Nat} : (pm_wp g d R Q Jm nx ((.astore_n 0, ax) :: is) (z :: r) (.ref x :: st) S I J k) = (pm_wp g d R Q Jm nx is (some (.ref x) :: r) st S I J k) := propext ⟨fun h => h.2, fun h => ⟨rfl, h⟩⟩
theorem w_iinc_0 {r : pm_LS} {x : Int32} {n : Int} : (pm_wp g d R Q Jm nx ((.iinc 0 n, ax) :: is) (some (.int x) :: r) st S I J k) = (pm_wp g d R Q Jm nx is (some (.int (x + Int32.ofInt n)) :: r) st S I J k) := propext ⟨fun h => h.2, fun h => ⟨rfl, h⟩⟩
theorem w_iload_1 {y0 : Option Value} {r : pm_LS} {x : Int32} : (pm_wp g d R Q Jm nx ((.iload_n 1, ax) :: is) (y0 :: some (.int x) :: r) st S I J k) = (pm_wp g d R Q Jm nx is (y0 :: some (.int x) :: r) (.int x :: st) S I J k) := rfl
theorem w_lload_1 {y0 : Option Value} {r : pm_LS} {x : Int64} : (pm_wp g d R Q Jm nx ((.lload_n 1, ax) :: is) (y0 :: some (.long x) :: r) st S I J k) = (pm_wp g d R Q Jm nx is (y0 :: some (.long x) :: r) (.long x :: st) S I J k) := rfl
theorem w_aload_1 {y0 : Option Value} {r : pm_LS} {x : Nat} : (pm_wp g d R Q Jm nx ((.aload_n 1, ax) :: is) (y0 :: some (.ref x) :: r) st S I J k) = (pm_wp g d R Q Jm nx is (y0 :: some (.ref x) :: r) (.ref x :: st) S I J k) := rfl
theorem w_naload_1 {y0 : Option Value} {r : pm_LS}  : (pm_wp g d R Q Jm nx ((.aload_n 1, ax) :: is) (y0 :: some .null :: r) st S I J k) = (pm_wp g d R Q Jm nx is (y0 :: some .null :: r) (.null :: st) S I J k) := rfl
theorem w_istore_1 {y0 : Option Value} {r : pm_LS} {z : Option Value} {x : Int32} : (pm_wp g d R Q Jm nx ((.istore_n 1, ax) :: is) (y0 :: z :: r) (.int x :: st) S I J k) = (pm_nlg y0 = true ∧ pm_wp g d R Q Jm nx is (y0 :: some (.int x) :: r) st S I J k) := rfl
theorem w_lstore_1 {y0 : Option Value} {r : pm_LS} {z z2 : Option Value} {x : Int64} : (pm_wp g d R Q Jm nx ((.lstore_n 1, ax) :: is) (y0 :: z :: z2 :: r) (.long x :: st) S I J k) = (pm_nlg y0 = true ∧ pm_wp g d R Q Jm nx is (y0 :: some (.long x) :: none :: r) st S I J k) := rfl
theorem w_astore_1 {y0 : Option Value} {r : pm_LS} {z : Option Value} {x : Nat} : (pm_wp g d R Q Jm nx ((.astore_n 1, ax) :: is) (y0 :: z :: r) (.ref x :: st) S I J k) = (pm_nlg y0 = true ∧ pm_wp g d R Q Jm nx is (y0 :: some (.ref x) :: r) st S I J k) := rfl
theorem w_iinc_1 {y0 : Option Value} {r : pm_LS} {x : Int32} {n : Int} : (pm_wp g d R Q Jm nx ((.iinc 1 n, ax) :: is) (y0 :: some (.int x) :: r) st S I J k) = (pm_nlg y0 = true ∧ pm_wp g d R Q Jm nx is (y0 :: some (.int (x + Int32.ofInt n)) :: r) st S I J k) := rfl
theorem w_iload_2 {y0 y1 : Option Value} {r : pm_LS} {x : Int32} : (pm_wp g d R Q Jm nx ((.iload_n 2, ax) :: is) (y0 :: y1 :: some (.int x) :: r) st S I J k) = (pm_wp g d R Q Jm nx is (y0 :: y1 :: some (.int x) :: r) (.int x :: st) S I J k) := rfl
theorem w_lload_2 {y0 y1 : Option Value} {r : pm_LS} {x : Int64} : (pm_wp g d R Q Jm nx ((.lload_n 2, ax) :: is) (y0 :: y1 :: some (.long x) :: r) st S I J k) = (pm_wp g d R Q Jm nx is (y0 :: y1 :: some (.long x) :: r) (.long x :: st) S I J k) := rfl
theorem w_aload_2 {y0 y1 : Option Value} {r : pm_LS} {x : Nat} : (pm_wp g d R Q Jm nx ((.aload_n 2, ax) :: is) (y0 :: y1 :: some (.ref x) :: r) st S I J k) = (pm_wp g d R Q Jm nx is (y0 :: y1 :: some (.ref x) :: r) (.ref x :: st) S I J k) := rfl
theorem w_naload_2 {y0 y1 : Option Value} {r : pm_LS}  : (pm_wp g d R Q Jm nx ((.aload_n 2, ax) :: is) (y0 :: y1 :: some .null :: r) st S I J k) = (pm_wp g d R Q Jm nx is (y0 :: y1 :: some .null :: r) (.null :: st) S I J k) := rfl
theorem w_istore_2 {y0 y1 : Option Value} {r : pm_LS} {z : Option Value} {x : Int32} : (pm_wp g d R Q Jm nx ((.istore_n 2, ax) :: is) (y0 :: y1 :: z :: r) (.int x :: st) S I J k) = (pm_nlg y1 = true ∧ pm_wp g d R Q Jm nx is (y0 :: y1 :: some (.int x) :: r) st S I J k) := rfl
theorem w_lstore_2 {y0 y1 : Option Value} {r : pm_LS} {z z2 : Option Value} {x : Int64} : (pm_wp g d R Q Jm nx ((.lstore_n 2, ax) :: is) (y0 :: y1 :: z :: z2 :: r) (.long x :: st) S I J k) = (pm_nlg y1 = true ∧ pm_wp g d R Q Jm nx is (y0 :: y1 :: some (.long x) :: none :: r) st S I J k) := rfl
theorem w_astore_2 {y0 y1 : Option Value} {r : pm_LS} {z : Option Value} {x : Nat} : (pm_wp g d R Q Jm nx ((.astore_n 2, ax) :: is) (y0 :: y1 :: z :: r) (.ref x :: st) S I J k) = (pm_nlg y1 = true ∧ pm_wp g d R Q Jm nx is (y0 :: y1 :: some (.ref x) :: r) st S I J k) := rfl
theorem w_iinc_2 {y0 y1 : Option Value} {r : pm_LS} {x : Int32} {n : Int} : (pm_wp g d R Q Jm nx ((.iinc 2 n, ax) :: is) (y0 :: y1 :: some (.int x) :: r) st S I J k) = (pm_nlg y1 = true ∧ pm_wp g d R Q Jm nx is (y0 :: y1 :: some (.int (x + Int32.ofInt n)) :: r) st S I J k) := rfl
theorem w_iload_3 {y0 y1 y2 : Option Value} {r : pm_LS} {x : Int32} : (pm_wp g d R Q Jm nx ((.iload_n 3, ax) :: is) (y0 :: y1 :: y2 :: some (.int x) :: r) st S I J k) = (pm_wp g d R Q Jm nx is (y0 :: y1 :: y2 :: some (.int x) :: r) (.int x :: st) S I J k) := rfl
theorem w_lload_3 {y0 y1 y2 : Option Value} {r : pm_LS} {x : Int64} : (pm_wp g d R Q Jm nx ((.lload_n 3, ax) :: is) (y0 :: y1 :: y2 :: some (.long x) :: r) st S I J k) = (pm_wp g d R Q Jm nx is (y0 :: y1 :: y2 :: some (.long x) :: r) (.long x :: st) S I J k) := rfl
theorem w_aload_3 {y0 y1 y2 : Option Value} {r : pm_LS} {x : Nat} : (pm_wp g d R Q Jm nx ((.aload_n 3, ax) :: is) (y0 :: y1 :: y2 :: some (.ref x) :: r) st S I J k) = (pm_wp g d R Q Jm nx is (y0 :: y1 :: y2 :: some (.ref x) :: r) (.ref x :: st) S I J k) := rfl
theorem w_naload_3 {y0 y1 y2 : Option Value} {r : pm_LS}  : (pm_wp g d R Q Jm nx ((.aload_n 3, ax) :: is) (y0 :: y1 :: y2 :: some .null :: r) st S I J k) = (pm_wp g d R Q Jm nx is (y0 :: y1 :: y2 :: some .null :: r) (.null :: st) S I J k) := rfl
theorem w_istore_3 {y0 y1 y2 : Option Value} {r : pm_LS} {z : Option Value} {x : Int32} : (pm_wp g d R Q Jm nx ((.istore_n 3, ax) :: is) (y0 :: y1 :: y2 :: z :: r) (.int x :: st) S I J k) = (pm_nlg y2 = true ∧ pm_wp g d R Q Jm nx is (y0 :: y1 :: y2 :: some (.int x) :: r) st S I J k) := rfl
theorem w_lstore_3 {y0 y1 y2 : Option Value} {r : pm_LS} {z z2 : Option Value} {x : Int64} : (pm_wp g d R Q Jm nx ((.lstore_n 3, ax) :: is) (y0 :: y1 :: y2 :: z :: z2 :: r) (.long x :: st) S I J k) = (pm_nlg y2 = true ∧ pm_wp g d R Q Jm nx is (y0 :: y1 :: y2 :: some (.long x) :: none :: r) st S I J k) := rfl
theorem w_astore_3 {y0 y1 y2 : Option Value} {r : pm_LS} {z : Option Value} {x : Nat} : (pm_wp g d R Q Jm nx ((.astore_n 3, ax) :: is) (y0 :: y1 :: y2 :: z :: r) (.ref x :: st) S I J k) = (pm_nlg y2 = true ∧ pm_wp g d R Q Jm nx is (y0 :: y1 :: y2 :: some (.ref x) :: r) st S I J k) := rfl
theorem w_iinc_3 {y0 y1 y2 : Option Value} {r : pm_LS} {x : Int32} {n : Int} : (pm_wp g d R Q Jm nx ((.iinc 3 n, ax) :: is) (y0 :: y1 :: y2 :: some (.int x) :: r) st S I J k) = (pm_nlg y2 = true ∧ pm_wp g d R Q Jm nx is (y0 :: y1 :: y2 :: some (.int (x + Int32.ofInt n)) :: r) st S I J k) := rfl
theorem w_iload_4 {y0 y1 y2 y3 : Option Value} {r : pm_LS} {x : Int32} : (pm_wp g d R Q Jm nx ((.iload 4, ax) :: is) (y0 :: y1 :: y2 :: y3 :: some (.int x) :: r) st S I J k) = (pm_wp g d R Q Jm nx is (y0 :: y1 :: y2 :: y3 :: some (.int x) :: r) (.int x :: st) S I J k) := rfl
theorem w_lload_4 {y0 y1 y2 y3 : Option Value} {r : pm_LS} {x : Int64} : (pm_wp g d R Q Jm nx ((.lload 4, ax) :: is) (y0 :: y1 :: y2 :: y3 :: some (.long x) :: r) st S I J k) = (pm_wp g d R Q Jm nx is (y0 :: y1 :: y2 :: y3 :: some (.long x) :: r) (.long x :: st) S I J k) := rfl
theorem w_istore_4 {y0 y1 y2 y3 : Option Value} {r : pm_LS} {z : Option Value} {x : Int32} : (pm_wp g d R Q Jm nx ((.istore 4, ax) :: is) (y0 :: y1 :: y2 :: y3 :: z :: r) (.int x :: st) S I J k) = (pm_nlg y3 = true ∧ pm_wp g d R Q Jm nx is (y0 :: y1 :: y2 :: y3 :: some (.int x) :: r) st S I J k) := rfl
theorem w_lstore_4 {y0 y1 y2 y3 : Option Value} {r : pm_LS} {z z2 : Option Value} {x : Int64} : (pm_wp g d R Q Jm nx ((.lstore 4, ax) :: is) (y0 :: y1 :: y2 :: y3 :: z :: z2 :: r) (.long x :: st) S I J k) = (pm_nlg y3 = true ∧ pm_wp g d R Q Jm nx is (y0 :: y1 :: y2 :: y3 :: some (.long x) :: none :: r) st S I J k) := rfl
theorem w_iinc_4 {y0 y1 y2 y3 : Option Value} {r : pm_LS} {x : Int32} {n : Int} : (pm_wp g d R Q Jm nx ((.iinc 4 n, ax) :: is) (y0 :: y1 :: y2 :: y3 :: some (.int x) :: r) st S I J k) = (pm_nlg y3 = true ∧ pm_wp g d R Q Jm nx is (y0 :: y1 :: y2 :: y3 :: some (.int (x + Int32.ofInt n)) :: r) st S I J k) := rfl
theorem w_iload_5 {y0 y1 y2 y3 y4 : Option Value} {r : pm_LS} {x : Int32} : (pm_wp g d R Q Jm nx ((.iload 5, ax) :: is) (y0 :: y1 :: y2 :: y3 :: y4 :: some (.int x) :: r) st S I J k) = (pm_wp g d R Q Jm nx is (y0 :: y1 :: y2 :: y3 :: y4 :: some (.int x) :: r) (.int x :: st) S I J k) := rfl
theorem w_lload_5 {y0 y1 y2 y3 y4 : Option Value} {r : pm_LS} {x : Int64} : (pm_wp g d R Q Jm nx ((.lload 5, ax) :: is) (y0 :: y1 :: y2 :: y3 :: y4 :: some (.long x) :: r) st S I J k) = (pm_wp g d R Q Jm nx is (y0 :: y1 :: y2 :: y3 :: y4 :: some (.long x) :: r) (.long x :: st) S I J k) := rfl
theorem w_istore_5 {y0 y1 y2 y3 y4 : Option Value} {r : pm_LS} {z : Option Value} {x : Int32} : (pm_wp g d R Q Jm nx ((.istore 5, ax) :: is) (y0 :: y1 :: y2 :: y3 :: y4 :: z :: r) (.int x :: st) S I J k) = (pm_nlg y4 = true ∧ pm_wp g d R Q Jm nx is (y0 :: y1 :: y2 :: y3 :: y4 :: some (.int x) :: r) st S I J k) := rfl
theorem w_lstore_5 {y0 y1 y2 y3 y4 : Option Value} {r : pm_LS} {z z2 : Option Value} {x : Int64} : (pm_wp g d R Q Jm nx ((.lstore 5, ax) :: is) (y0 :: y1 :: y2 :: y3 :: y4 :: z :: z2 :: r) (.long x :: st) S I J k) = (pm_nlg y4 = true ∧ pm_wp g d R Q Jm nx is (y0 :: y1 :: y2 :: y3 :: y4 :: some (.long x) :: none :: r) st S I J k) := rfl
theorem w_iinc_5 {y0 y1 y2 y3 y4 : Option Value} {r : pm_LS} {x : Int32} {n : Int} : (pm_wp g d R Q Jm nx ((.iinc 5 n, ax) :: is) (y0 :: y1 :: y2 :: y3 :: y4 :: some (.int x) :: r) st S I J k) = (pm_nlg y4 = true ∧ pm_wp g d R Q Jm nx is (y0 :: y1 :: y2 :: y3 :: y4 :: some (.int (x + Int32.ofInt n)) :: r) st S I J k) := rfl
theorem w_iload_6 {y0 y1 y2 y3 y4 y5 : Option Value} {r : pm_LS} {x : Int32} : (pm_wp g d R Q Jm nx ((.iload 6, ax) :: is) (y0 :: y1 :: y2 :: y3 :: y4 :: y5 :: some (.int x) :: r) st S I J k) = (pm_wp g d R Q Jm nx is (y0 :: y1 :: y2 :: y3 :: y4 :: y5 :: some (.int x) :: r) (.int x :: st) S I J k) := rfl
theorem w_lload_6 {y0 y1 y2 y3 y4 y5 : Option Value} {r : pm_LS} {x : Int64} : (pm_wp g d R Q Jm nx ((.lload 6, ax) :: is) (y0 :: y1 :: y2 :: y3 :: y4 :: y5 :: some (.long x) :: r) st S I J k) = (pm_wp g d R Q Jm nx is (y0 :: y1 :: y2 :: y3 :: y4 :: y5 :: some (.long x) :: r) (.long x :: st) S I J k) := rfl
theorem w_istore_6 {y0 y1 y2 y3 y4 y5 : Option Value} {r : pm_LS} {z : Option Value} {x : Int32} : (pm_wp g d R Q Jm nx ((.istore 6, ax) :: is) (y0 :: y1 :: y2 :: y3 :: y4 :: y5 :: z :: r) (.int x :: st) S I J k) = (pm_nlg y5 = true ∧ pm_wp g d R Q Jm nx is (y0 :: y1 :: y2 :: y3 :: y4 :: y5 :: some (.int x) :: r) st S I J k) := rfl
theorem w_lstore_6 {y0 y1 y2 y3 y4 y5 : Option Value} {r : pm_LS} {z z2 : Option Value} {x : Int64} : (pm_wp g d R Q Jm nx ((.lstore 6, ax) :: is) (y0 :: y1 :: y2 :: y3 :: y4 :: y5 :: z :: z2 :: r) (.long x :: st) S I J k) = (pm_nlg y5 = true ∧ pm_wp g d R Q Jm nx is (y0 :: y1 :: y2 :: y3 :: y4 :: y5 :: some (.long x) :: none :: r) st S I J k) := rfl
theorem w_iinc_6 {y0 y1 y2 y3 y4 y5 : Option Value} {r : pm_LS} {x : Int32} {n : Int} : (pm_wp g d R Q Jm nx ((.iinc 6 n, ax) :: is) (y0 :: y1 :: y2 :: y3 :: y4 :: y5 :: some (.int x) :: r) st S I J k) = (pm_nlg y5 = true ∧ pm_wp g d R Q Jm nx is (y0 :: y1 :: y2 :: y3 :: y4 :: y5 :: some (.int (x + Int32.ofInt n)) :: r) st S I J k) := rfl
theorem w_iload_7 {y0 y1 y2 y3 y4 y5 y6 : Option Value} {r : pm_LS} {x : Int32} : (pm_wp g d R Q Jm nx ((.iload 7, ax) :: is) (y0 :: y1 :: y2 :: y3 :: y4 :: y5 :: y6 :: some (.int x) :: r) st S I J k) = (pm_wp g d R Q Jm nx is (y0 :: y1 :: y2 :: y3 :: y4 :: y5 :: y6 :: some (.int x) :: r) (.int x :: st) S I J k) := rfl
theorem w_lload_7 {y0 y1 y2 y3 y4 y5 y6 : Option Value} {r : pm_LS} {x : Int64} : (pm_wp g d R Q Jm nx ((.lload 7, ax) :: is) (y0 :: y1 :: y2 :: y3 :: y4 :: y5 :: y6 :: some (.long x) :: r) st S I J k) = (pm_wp g d R Q Jm nx is (y0 :: y1 :: y2 :: y3 :: y4 :: y5 :: y6 :: some (.long x) :: r) (.long x :: st) S I J k) := rfl
theorem w_istore_7 {y0 y1 y2 y3 y4 y5 y6 : Option Value} {r : pm_LS} {z : Option Value} {x : Int32} : (pm_wp g d R Q Jm nx ((.istore 7, ax) :: is) (y0 :: y1 :: y2 :: y3 :: y4 :: y5 :: y6 :: z :: r) (.int x :: st) S I J k) = (pm_nlg y6 = true ∧ pm_wp g d R Q Jm nx is (y0 :: y1 :: y2 :: y3 :: y4 :: y5 :: y6 :: some (.int x) :: r) st S I J k) := rfl
theorem w_lstore_7 {y0 y1 y2 y3 y4 y5 y6 : Option Value} {r : pm_LS} {z z2 : Option Value} {x : Int64} : (pm_wp g d R Q Jm nx ((.lstore 7, ax) :: is) (y0 :: y1 :: y2 :: y3 :: y4 :: y5 :: y6 :: z :: z2 :: r) (.long x :: st) S I J k) = (pm_nlg y6 = true ∧ pm_wp g d R Q Jm nx is (y0 :: y1 :: y2 :: y3 :: y4 :: y5 :: y6 :: some (.long x) :: none :: r) st S I J k) := rfl
theorem w_iinc_7 {y0 y1 y2 y3 y4 y5 y6 : Option Value} {r : pm_LS} {x : Int32} {n : Int} : (pm_wp g d R Q Jm nx ((.iinc 7 n, ax) :: is) (y0 :: y1 :: y2 :: y3 :: y4 :: y5 :: y6 :: some (.int x) :: r) st S I J k) = (pm_nlg y6 = true ∧ pm_wp g d R Q Jm nx is (y0 :: y1 :: y2 :: y3 :: y4 :: y5 :: y6 :: some (.int (x + Int32.ofInt n)) :: r) st S I J k) := rfl
theorem w_iload_8 {y0 y1 y2 y3 y4 y5 y6 y7 : Option Value} {r : pm_LS} {x : Int32} : (pm_wp g d R Q Jm nx ((.iload 8, ax) :: is) (y0 :: y1 :: y2 :: y3 :: y4 :: y5 :: y6 :: y7 :: some (.int x) :: r) st S I J k) = (pm_wp g d R Q Jm nx is (y0 :: y1 :: y2 :: y3 :: y4 :: y5 :: y6 :: y7 :: some (.int x) :: r) (.int x :: st) S I J k) := rfl
theorem w_lload_8 {y0 y1 y2 y3 y4 y5 y6 y7 : Option Value} {r : pm_LS} {x : Int64} : (pm_wp g d R Q Jm nx ((.lload 8, ax) :: is) (y0 :: y1 :: y2 :: y3 :: y4 :: y5 :: y6 :: y7 :: some (.long x) :: r) st S I J k) = (pm_wp g d R Q Jm nx is (y0 :: y1 :: y2 :: y3 :: y4 :: y5 :: y6 :: y7 :: some (.long x) :: r) (.long x :: st) S I J k) := rfl
theorem w_istore_8 {y0 y1 y2 y3 y4 y5 y6 y7 : Option Value} {r : pm_LS} {z : Option Value} {x : Int32} : (pm_wp g d R Q Jm nx ((.istore 8, ax) :: is) (y0 :: y1 :: y2 :: y3 :: y4 :: y5 :: y6 :: y7 :: z :: r) (.int x :: st) S I J k) = (pm_nlg y7 = true ∧ pm_wp g d R Q Jm nx is (y0 :: y1 :: y2 :: y3 :: y4 :: y5 :: y6 :: y7 :: some (.int x) :: r) st S I J k) := rfl
theorem w_lstore_8 {y0 y1 y2 y3 y4 y5 y6 y7 : Option Value} {r : pm_LS} {z z2 : Option Value} {x : Int64} : (pm_wp g d R Q Jm nx ((.lstore 8, ax) :: is) (y0 :: y1 :: y2 :: y3 :: y4 :: y5 :: y6 :: y7 :: z :: z2 :: r) (.long x :: st) S I J k) = (pm_nlg y7 = true ∧ pm_wp g d R Q Jm nx is (y0 :: y1 :: y2 :: y3 :: y4 :: y5 :: y6 :: y7 :: some (.long x) :: none :: r) st S I J k) := rfl
theorem w_iinc_8 {y0 y1 y2 y3 y4 y5 y6 y7 : Option Value} {r : pm_LS} {x : Int32} {n : Int} : (pm_wp g d R Q Jm nx ((.iinc 8 n, ax) :: is) (y0 :: y1 :: y2 :: y3 :: y4 :: y5 :: y6 :: y7 :: some (.int x) :: r) st S I J k) = (pm_nlg y7 = true ∧ pm_wp g d R Q Jm nx is (y0 :: y1 :: y2 :: y3 :: y4 :: y5 :: y6 :: y7 :: some (.int (x + Int32.ofInt n)) :: r) st S I J k) := rfl
theorem w_iload_9 {y0 y1 y2 y3 y4 y5 y6 y7 y8 : Option Value} {r : pm_LS} {x : Int32} : (pm_wp g d R Q Jm nx ((.iload 9, ax) :: is) (y0 :: y1 :: y2 :: y3 :: y4 :: y5 :: y6 :: y7 :: y8 :: some (.int x) :: r) st S I J k) = (pm_wp g d R Q Jm nx is (y0 :: y1 :: y2 :: y3 :: y4 :: y5 :: y6 :: y7 :: y8 :: some (.int x) :: r) (.int x :: st) S I J k) := rfl
theorem w_lload_9 {y0 y1 y2 y3 y4 y5 y6 y7 y8 : Option Value} {r : pm_LS} {x : Int64} : (pm_wp g d R Q Jm nx ((.lload 9, ax) :: is) (y0 :: y1 :: y2 :: y3 :: y4 :: y5 :: y6 :: y7 :: y8 :: some (.long x) :: r) st S I J k) = (pm_wp g d R Q Jm nx is (y0 :: y1 :: y2 :: y3 :: y4 :: y5 :: y6 :: y7 :: y8 :: some (.long x) :: r) (.long x :: st) S I J k) := rfl
theorem w_istore_9 {y0 y1 y2 y3 y4 y5 y6 y7 y8 : Option Value} {r : pm_LS} {z : Option Value} {x : Int32} : (pm_wp g d R Q Jm nx ((.istore 9, ax) :: is) (y0 :: y1 :: y2 :: y3 :: y4 :: y5 :: y6 :: y7 :: y8 :: z :: r) (.int x :: st) S I J k) = (pm_nlg y8 = true ∧ pm_wp g d R Q Jm nx is (y0 :: y1 :: y2 :: y3 :: y4 :: y5 :: y6 :: y7 :: y8 :: some (.int x) :: r) st S I J k) := rfl
theorem w_lstore_9 {y0 y1 y2 y3 y4 y5 y6 y7 y8 : Option Value} {r : pm_LS} {z z2 : Option Value} {x : Int64} : (pm_wp g d R Q Jm nx ((.lstore 9, ax) :: is) (y0 :: y1 :: y2 :: y3 :: y4 :: y5 :: y6 :: y7 :: y8 :: z :: z2 :: r) (.long x :: st) S I J k) = (pm_nlg y8 = true ∧ pm_wp g d R Q Jm nx is (y0 :: y1 :: y2 :: y3 :: y4 :: y5 :: y6 :: y7 :: y8 :: some (.long x) :: none :: r) st S I J k) := rfl
theorem w_iinc_9 {y0 y1 y2 y3 y4 y5 y6 y7 y8 : Option Value} {r : pm_LS} {x : Int32} {n : Int} : (pm_wp g d R Q Jm nx ((.iinc 9 n, ax) :: is) (y0 :: y1 :: y2 :: y3 :: y4 :: y5 :: y6 :: y7 :: y8 :: some (.int x) :: r) st S I J k) = (pm_nlg y8 = true ∧ pm_wp g d R Q Jm nx is (y0 :: y1 :: y2 :: y3 :: y4 :: y5 :: y6 :: y7 :: y8 :: some (.int (x + Int32.ofInt n)) :: r) st S I J k) := rfl
theorem w_iload_10 {y0 y1 y2 y3 y4 y5 y6 y7 y8 y9 : Option Value} {r : pm_LS} {x : Int32} : (pm_wp g d R Q Jm nx ((.iload 10, ax) :: is) (y0 :: y1 :: y2 :: y3 :: y4 :: y5 :: y6 :: y7 :: y8 :: y9 :: some (.int x) :: r) st S I J k) = (pm_wp g d R Q Jm nx is (y0 :: y1 :: y2 :: y3 :: y4 :: y5 :: y6 :: y7 :: y8 :: y9 :: some (.int x) :: r) (.int x :: st) S I J k) := rfl
theorem w_lload_10 {y0 y1 y2 y3 y4 y5 y6 y7 y8 y9 : Option Value} {r : pm_LS} {x : Int64} : (pm_wp g d R Q Jm nx ((.lload 10, ax) :: is) (y0 :: y1 :: y2 :: y3 :: y4 :: y5 :: y6 :: y7 :: y8 :: y9 :: some (.long x) :: r) st S I J k) = (pm_wp g d R Q Jm nx is (y0 :: y1 :: y2 :: y3 :: y4 :: y5 :: y6 :: y7 :: y8 :: y9 :: some (.long x) :: r) (.long x :: st) S I J k) := rfl
theorem w_istore_10 {y0 y1 y2 y3 y4 y5 y6 y7 y8 y9 : Option Value} {r : pm_LS} {z : Option Value} {x : Int32} : (pm_wp g d R Q Jm nx ((.istore 10, ax) :: is) (y0 :: y1 :: y2 :: y3 :: y4 :: y5 :: y6 :: y7 :: y8 :: y9 :: z :: r) (.int x :: st) S I J k) = (pm_nlg y9 = true ∧ pm_wp g d R Q Jm nx is (y0 :: y1 :: y2 :: y3 :: y4 :: y5 :: y6 :: y7 :: y8 :: y9 :: some (.int x) :: r) st S I J k) := rfl
theorem w_lstore_10 {y0 y1 y2 y3 y4 y5 y6 y7 y8 y9 : Option Value} {r : pm_LS} {z z2 : Option Value} {x : Int64} : (pm_wp g d R Q Jm nx ((.lstore 10, ax) :: is) (y0 :: y1 :: y2 :: y3 :: y4 :: y5 :: y6 :: y7 :: y8 :: y9 :: z :: z2 :: r) (.long x :: st) S I J k) = (pm_nlg y9 = true ∧ pm_wp g d R Q Jm nx is (y0 :: y1 :: y2 :: y3 :: y4 :: y5 :: y6 :: y7 :: y8 :: y9 :: some (.long x) :: none :: r) st S I J k) := rfl
theorem w_iinc_10 {y0 y1 y2 y3 y4 y5 y6 y7 y8 y9 : Option Value} {r : pm_LS} {x : Int32} {n : Int} : (pm_wp g d R Q Jm nx ((.iinc 10 n, ax) :: is) (y0 :: y1 :: y2 :: y3 :: y4 :: y5 :: y6 :: y7 :: y8 :: y9 :: some (.int x) :: r) st S I J k) = (pm_nlg y9 = true ∧ pm_wp g d R Q Jm nx is (y0 :: y1 :: y2 :: y3 :: y4 :: y5 :: y6 :: y7 :: y8 :: y9 :: some (.int (x + Int32.ofInt n)) :: r) st S I J k) := rfl
theorem w_iload_11 {y0 y1 y2 y3 y4 y5 y6 y7 y8 y9 y10 : Option Value} {r : pm_LS} {x : Int32} : (pm_wp g d R Q Jm nx ((.iload 11, ax) :: is) (y0 :: y1 :: y2 :: y3 :: y4 :: y5 :: y6 :: y7 :: y8 :: y9 :: y10 :: some (.int x) :: r) st S I J k) = (pm_wp g d R Q Jm nx is (y0 :: y1 :: y2 :: y3 :: y4 :: y5 :: y6 :: y7 :: y8 :: y9 :: y10 :: some (.int x) :: r) (.int x :: st) S I J k) := rfl
theorem w_lload_11 {y0 y1 y2 y3 y4 y5 y6 y7 y8 y9 y10 : Option Value} {r : pm_LS} {x : Int64} : (pm_wp g d R Q Jm nx ((.lload 11, ax) :: is) (y0 :: y1 :: y2 :: y3 :: y4 :: y5 :: y6 :: y7 :: y8 :: y9 :: y10 :: some (.long x) :: r) st S I J k) = (pm_wp g d R Q Jm nx is (y0 :: y1 :: y2 :: y3 :: y4 :: y5 :: y6 :: y7 :: y8 :: y9 :: y10 :: some (.long x) :: r) (.long x :: st) S I J k) := rfl
theorem w_istore_11 {y0 y1 y2 y3 y4 y5 y6 y7 y8 y9 y10 : Option Value} {r : pm_LS} {z : Option Value} {x : Int32} : (pm_wp g d R Q Jm nx ((.istore 11, ax) :: is) (y0 :: y1 :: y2 :: y3 :: y4 :: y5 :: y6 :: y7 :: y8 :: y9 :: y10 :: z :: r) (.int x :: st) S I J k) = (pm_nlg y10 = true ∧ pm_wp g d R Q Jm nx is (y0 :: y1 :: y2 :: y3 :: y4 :: y5 :: y6 :: y7 :: y8 :: y9 :: y10 :: some (.int x) :: r) st S I J k) := rfl
theorem w_lstore_11 {y0 y1 y2 y3 y4 y5 y6 y7 y8 y9 y10 : Option Value} {r : pm_LS} {z z2 : Option Value} {x : Int64} : (pm_wp g d R Q Jm nx ((.lstore 11, ax) :: is) (y0 :: y1 :: y2 :: y3 :: y4 :: y5 :: y6 :: y7 :: y8 :: y9 :: y10 :: z :: z2 :: r) (.long x :: st) S I J k) = (pm_nlg y10 = true ∧ pm_wp g d R Q Jm nx is (y0 :: y1 :: y2 :: y3 :: y4 :: y5 :: y6 :: y7 :: y8 :: y9 :: y10 :: some (.long x) :: none :: r) st S I J k) := rfl
theorem w_iinc_11 {y0 y1 y2 y3 y4 y5 y6 y7 y8 y9 y10 : Option Value} {r : pm_LS} {x : Int32} {n : Int} : (pm_wp g d R Q Jm nx ((.iinc 11 n, ax) :: is) (y0 :: y1 :: y2 :: y3 :: y4 :: y5 :: y6 :: y7 :: y8 :: y9 :: y10 :: some (.int x) :: r) st S I J k) = (pm_nlg y10 = true ∧ pm_wp g d R Q Jm nx is (y0 :: y1 :: y2 :: y3 :: y4 :: y5 :: y6 :: y7 :: y8 :: y9 :: y10 :: some (.int (x + Int32.ofInt n)) :: r) st S I J k) := rfl
theorem w_iload_12 {y0 y1 y2 y3 y4 y5 y6 y7 y8 y9 y10 y11 : Option Value} {r : pm_LS} {x : Int32} : (pm_wp g d R Q Jm nx ((.iload 12, ax) :: is) (y0 :: y1 :: y2 :: y3 :: y4 :: y5 :: y6 :: y7 :: y8 :: y9 :: y10 :: y11 :: some (.int x) :: r) st S I J k) = (pm_wp g d R Q Jm nx is (y0 :: y1 :: y2 :: y3 :: y4 :: y5 :: y6 :: y7 :: y8 :: y9 :: y10 :: y11 :: some (.int x) :: r) (.int x :: st) S I J k) := rfl
theorem w_lload_12 {y0 y1 y2 y3 y4 y5 y6 y7 y8 y9 y10 y11 : Option Value} {r : pm_LS} {x : Int64} : (pm_wp g d R Q Jm nx ((.lload 12, ax) :: is) (y0 :: y1 :: y2 :: y3 :: y4 :: y5 :: y6 :: y7 :: y8 :: y9 :: y10 :: y11 :: some (.long x) :: r) st S I J k) = (pm_wp g d R Q Jm nx is (y0 :: y1 :: y2 :: y3 :: y4 :: y5 :: y6 :: y7 :: y8 :: y9 :: y10 :: y11 :: some (.long x) :: r) (.long x :: st) S I J k) := rfl
theorem w_istore_12 {y0 y1 y2 y3 y4 y5 y6 y7 y8 y9 y10 y11 : Option Value} {r : pm_LS} {z : Option Value} {x : Int32} : (pm_wp g d R Q Jm nx ((.istore 12, ax) :: is) (y0 :: y1 :: y2 :: y3 :: y4 :: y5 :: y6 :: y7 :: y8 :: y9 :: y10 :: y11 :: z :: r) (.int x :: st) S I J k) = (pm_nlg y11 = true ∧ pm_wp g d R Q Jm nx is (y0 :: y1 :: y2 :: y3 :: y4 :: y5 :: y6 :: y7 :: y8 :: y9 :: y10 :: y11 :: some (.int x) :: r) st S I J k) := rfl
theorem w_lstore_12 {y0 y1 y2 y3 y4 y5 y6 y7 y8 y9 y10 y11 : Option Value} {r : pm_LS} {z z2 : Option Value} {x : Int64} : (pm_wp g d R Q Jm nx ((.lstore 12, ax) :: is) (y0 :: y1 :: y2 :: y3 :: y4 :: y5 :: y6 :: y7 :: y8 :: y9 :: y10 :: y11 :: z :: z2 :: r) (.long x :: st) S I J k) = (pm_nlg y11 = true ∧ pm_wp g d R Q Jm nx is (y0 :: y1 :: y2 :: y3 :: y4 :: y5 :: y6 :: y7 :: y8 :: y9 :: y10 :: y11 :: some (.long x) :: none :: r) st S I J k) := rfl
theorem w_iinc_12 {y0 y1 y2 y3 y4 y5 y6 y7 y8 y9 y10 y11 : Option Value} {r : pm_LS} {x : Int32} {n : Int} : (pm_wp g d R Q Jm nx ((.iinc 12 n, ax) :: is) (y0 :: y1 :: y2 :: y3 :: y4 :: y5 :: y6 :: y7 :: y8 :: y9 :: y10 :: y11 :: some (.int x) :: r) st S I J k) = (pm_nlg y11 = true ∧ pm_wp g d R Q Jm nx is (y0 :: y1 :: y2 :: y3 :: y4 :: y5 :: y6 :: y7 :: y8 :: y9 :: y10 :: y11 :: some (.int (x + Int32.ofInt n)) :: r) st S I J k) := rfl
theorem w_iadd {x y : Int32} : (pm_wp g d R Q Jm nx ((.iadd, ax) :: is) ls (.int y :: .int x :: st) S I J k) = (pm_wp g d R Q Jm nx is ls (.int (x + y) :: st) S I J k) := rfl
theorem w_isub {x y : Int32} : (pm_wp g d R Q Jm nx ((.isub, ax) :: is) ls (.int y :: .int x :: st) S I J k) = (pm_wp g d R Q Jm nx is ls (.int (x - y) :: st) S I J k) := rfl
theorem w_imul {x y : Int32} : (pm_wp g d R Q Jm nx ((.imul, ax) :: is) ls (.int y :: .int x :: st) S I J k) = (pm_wp g d R Q Jm nx is ls (.int (x * y) :: st) S I J k) := rfl
theorem w_iand {x y : Int32} : (pm_wp g d R Q Jm nx ((.iand, ax) :: is) ls (.int y :: .int x :: st) S I J k) = (pm_wp g d R Q Jm nx is ls (.int (x &&& y) :: st) S I J k) := rfl
theorem w_ior {x y : Int32} : (pm_wp g d R Q Jm nx ((.ior, ax) :: is) ls (.int y :: .int x :: st) S I J k) = (pm_wp g d R Q Jm nx is ls (.int (x ||| y) :: st) S I J k) := rfl
theorem w_ixor {x y : Int32} : (pm_wp g d R Q Jm nx ((.ixor, ax) :: is) ls (.int y :: .int x :: st) S I J k) = (pm_wp g d R Q Jm nx is ls (.int (x ^^^ y) :: st) S I J k) := rfl
theorem w_ishl {x y : Int32} : (pm_wp g d R Q Jm nx ((.ishl, ax) :: is) ls (.int y :: .int x :: st) S I J k) = (pm_wp g d R Q Jm nx is ls (.int (x <<< (y &&& 31)) :: st) S I J k) := rfl
theorem w_ishr {x y : Int32} : (pm_wp g d R Q Jm nx ((.ishr, ax) :: is) ls (.int y :: .int x :: st) S I J k) = (pm_wp g d R Q Jm nx is ls (.int (x >>> (y &&& 31)) :: st) S I J k) := rfl
theorem w_iushr {x y : Int32} : (pm_wp g d R Q Jm nx ((.iushr, ax) :: is) ls (.int y :: .int x :: st) S I J k) = (pm_wp g d R Q Jm nx is ls (.int ((x.toUInt32 >>> (y.toUInt32 &&& Int32.toUInt32 31)).toInt32) :: st) S I J k) := rfl
theorem w_idiv {x y : Int32} : (pm_wp g d R Q Jm nx ((.idiv, ax) :: is) ls (.int y :: .int x :: st) S I J k) = (¬ y = 0 ∧ pm_wp g d R Q Jm nx is ls (.int (x / y) :: st) S I J k) := rfl
theorem w_irem {x y : Int32} : (pm_wp g d R Q Jm nx ((.irem, ax) :: is) ls (.int y :: .int x :: st) S I J k) = (¬ y = 0 ∧ pm_wp g d R Q Jm nx is ls (.int (x - x / y * y) :: st) S I J k) := rfl
theorem w_ineg {x : Int32} : (pm_wp g d R Q Jm nx ((.ineg, ax) :: is) ls (.int x :: st) S I J k) = (pm_wp g d R Q Jm nx is ls (.int (-x) :: st) S I J k) := rfl
theorem w_ladd {x y : Int64} : (pm_wp g d R Q Jm nx ((.ladd, ax) :: is) ls (.long y :: .long x :: st) S I J k) = (pm_wp g d R Q Jm nx is ls (.long (x + y) :: st) S I J k) := rfl
theorem w_lsub {x y : Int64} : (pm_wp g d R Q Jm nx ((.lsub, ax) :: is) ls (.long y :: .long x :: st) S I J k) = (pm_wp g d R Q Jm nx is ls (.long (x - y) :: st) S I J k) := rfl
theorem w_lmul {x y : Int64} : (pm_wp g d R Q Jm nx ((.lmul, ax) :: is) ls (.long y :: .long x :: st) S I J k) = (pm_wp g d R Q Jm nx is ls (.long (x * y) :: st) S I J k) := rfl
theorem w_land {x y : Int64} : (pm_wp g d R Q Jm nx ((.land, ax) :: is) ls (.long y :: .long x :: st) S I J k) = (pm_wp g d R Q Jm nx is ls (.long (x &&& y) :: st) S I J k) := rfl
theorem w_lor {x y : Int64} : (pm_wp g d R Q Jm nx ((.lor, ax) :: is) ls (.long y :: .long x :: st) S I J k) = (pm_wp g d R Q Jm nx is ls (.long (x ||| y) :: st) S I J k) := rfl
theorem w_lxor {x y : Int64} : (pm_wp g d R Q Jm nx ((.lxor, ax) :: is) ls (.long y :: .long x :: st) S I J k) = (pm_wp g d R Q Jm nx is ls (.long (x ^^^ y) :: st) S I J k) := rfl
theorem w_ldiv {x y : Int64} : (pm_wp g d R Q Jm nx ((.ldiv, ax) :: is) ls (.long y :: .long x :: st) S I J k) = (¬ y = 0 ∧ pm_wp g d R Q Jm nx is ls (.long (x / y) :: st) S I J k) := rfl
theorem w_lrem {x y : Int64} : (pm_wp g d R Q Jm nx ((.lrem, ax) :: is) ls (.long y :: .long x :: st) S I J k) = (¬ y = 0 ∧ pm_wp g d R Q Jm nx is ls (.long (x - x / y * y) :: st) S I J k) := rfl
theorem w_lneg {x : Int64} : (pm_wp g d R Q Jm nx ((.lneg, ax) :: is) ls (.long x :: st) S I J k) = (pm_wp g d R Q Jm nx is ls (.long (-x) :: st) S I J k) := rfl
theorem w_lshl {x : Int64} {y : Int32} : (pm_wp g d R Q Jm nx ((.lshl, ax) :: is) ls (.int y :: .long x :: st) S I J k) = (pm_wp g d R Q Jm nx is ls (.long (x <<< (y.toInt64 &&& 63)) :: st) S I J k) := rfl
theorem w_lshr {x : Int64} {y : Int32} : (pm_wp g d R Q Jm nx ((.lshr, ax) :: is) ls (.int y :: .long x :: st) S I J k) = (pm_wp g d R Q Jm nx is ls (.long (x >>> (y.toInt64 &&& 63)) :: st) S I J k) := rfl
theorem w_lushr {x : Int64} {y : Int32} : (pm_wp g d R Q Jm nx ((.lushr, ax) :: is) ls (.int y :: .long x :: st) S I J k) = (pm_wp g d R Q Jm nx is ls (.long ((x.toUInt64 >>> (y.toInt64.toUInt64 &&& Int64.toUInt64 63)).toInt64) :: st) S I J k) := rfl
theorem w_lcmp {x y : Int64} : (pm_wp g d R Q Jm nx ((.lcmp, ax) :: is) ls (.long y :: .long x :: st) S I J k) = (pm_wp g d R Q Jm nx is ls (.int (lg_cmp x y) :: st) S I J k) := rfl
theorem w_i2l {x : Int32} : (pm_wp g d R Q Jm nx ((.i2l, ax) :: is) ls (.int x :: st) S I J k) = (pm_wp g d R Q Jm nx is ls (.long x.toInt64 :: st) S I J k) := rfl
theorem w_l2i {x : Int64} : (pm_wp g d R Q Jm nx ((.l2i, ax) :: is) ls (.long x :: st) S I J k) = (pm_wp g d R Q Jm nx is ls (.int x.toInt32 :: st) S I J k) := rfl
theorem w_i2b {x : Int32} : (pm_wp g d R Q Jm nx ((.i2b, ax) :: is) ls (.int x :: st) S I J k) = (pm_wp g d R Q Jm nx is ls (.int x.toInt8.toInt32 :: st) S I J k) := rfl
theorem w_dup_i {x : Int32} : (pm_wp g d R Q Jm nx ((.dup, ax) :: is) ls (.int x :: st) S I J k) = (pm_wp g d R Q Jm nx is ls (.int x :: .int x :: st) S I J k) := propext ⟨fun h => h.2, fun h => ⟨rfl, h⟩⟩
theorem w_dup_r {x : Nat} : (pm_wp g d R Q Jm nx ((.dup, ax) :: is) ls (.ref x :: st) S I J k) = (pm_wp g d R Q Jm nx is ls (.ref x :: .ref x :: st) S I J k) := propext ⟨fun h => h.2, fun h => ⟨rfl, h⟩⟩
theorem w_pop {x : Int32} : (pm_wp g d R Q Jm nx ((.pop, ax) :: is) ls (.int x :: st) S I J k) = (pm_wp g d R Q Jm nx is ls st S I J k) := propext ⟨fun h => h.2, fun h => ⟨rfl, h⟩⟩
theorem w_dup_x1 {x : Int32} {a : Nat} : (pm_wp g d R Q Jm nx ((.dup_x1, ax) :: is) ls (.int x :: .ref a :: st) S I J k) = (pm_wp g d R Q Jm nx is ls (.int x :: .ref a :: .int x :: st) S I J k) := propext ⟨fun h => h.2.2, fun h => ⟨rfl, rfl, h⟩⟩
theorem w_dup2 {i : Int32} {a : Nat} : (pm_wp g d R Q Jm nx ((.dup2, ax) :: is) ls (.int i :: .ref a :: st) S I J k) = (pm_wp g d R Q Jm nx is ls (.int i :: .ref a :: .int i :: .ref a :: st) S I J k) := propext ⟨fun h => h.2.2, fun h => ⟨rfl, rfl, h⟩⟩
theorem w_iaload {a : Nat} {i : Int32} : (pm_wp g d R Q Jm nx ((.iaload, ax) :: is) ls (.int i :: .ref a :: st) S I J k) = (pm_kd S a = 0 ∧ vp_in i (pm_n S a) ∧ pm_wp g d R Q Jm nx is ls (.int (I a i.toNatClampNeg) :: st) S I J k) := rfl
theorem w_saload {i : Int32} : (pm_wp g d R Q Jm nx ((.iaload, ax) :: is) ls (.int i :: .null :: st) S I J k) = (vp_in i g.2.2.2.1 ∧ pm_wp g d R Q Jm nx is ls (.int (g.2.2.2.2.1 i.toNatClampNeg) :: st) S I J k) := rfl
theorem w_laload {a : Nat} {i : Int32} : (pm_wp g d R Q Jm nx ((.laload, ax) :: is) ls (.int i :: .ref a :: st) S I J k) = (pm_kd S a = 1 ∧ vp_in i (pm_n S a) ∧ pm_wp g d R Q Jm nx is ls (.long (J a i.toNatClampNeg) :: st) S I J k) := rfl
theorem w_baload {a : Nat} {i : Int32} : (pm_wp g d R Q Jm nx ((.baload, ax) :: is) ls (.int i :: .ref a :: st) S I J k) = ((pm_kd S a = 2 ∨ pm_kd S a = 3) ∧ vp_in i (pm_n S a) ∧ pm_wp g d R Q Jm nx is ls (.int (I a i.toNatClampNeg) :: st) S I J k) := rfl
theorem w_iastore {a : Nat} {i x : Int32} : (pm_wp g d R Q Jm nx ((.iastore, ax) :: is) ls (.int x :: .int i :: .ref a :: st) S I J k) = (pm_kd S a = 0 ∧ vp_in i (pm_n S a) ∧ pm_wp g d R Q Jm nx is ls st S (pm_up I a i.toNatClampNeg x) J k) := rfl
theorem w_lastore {a : Nat} {i : Int32} {x : Int64} : (pm_wp g d R Q Jm nx ((.lastore, ax) :: is) ls (.long x :: .int i :: .ref a :: st) S I J k) = (pm_kd S a = 1 ∧ vp_in i (pm_n S a) ∧ pm_wp g d R Q Jm nx is ls st S I (pm_upL J a i.toNatClampNeg x) k) := rfl
theorem w_bastore {a : Nat} {i x : Int32} : (pm_wp g d R Q Jm nx ((.bastore, ax) :: is) ls (.int x :: .int i :: .ref a :: st) S I J k) = (vp_in i (pm_n S a) ∧ ((pm_kd S a = 2 ∧ pm_wp g d R Q Jm nx is ls st S (pm_up I a i.toNatClampNeg x.toInt8.toInt32) J k) ∨ (pm_kd S a = 3 ∧ pm_wp g d R Q Jm nx is ls st S (pm_up I a i.toNatClampNeg (x &&& 1)) J k))) := rfl
theorem w_alen {a : Nat} : (pm_wp g d R Q Jm nx ((.arraylength, ax) :: is) ls (.ref a :: st) S I J k) = (pm_kd S a < 4 ∧ pm_wp g d R Q Jm nx is ls (.int (Int32.ofNat (pm_n S a)) :: st) S I J k) := rfl
theorem w_slen : (pm_wp g d R Q Jm nx ((.arraylength, ax) :: is) ls (.null :: st) S I J k) = (pm_wp g d R Q Jm nx is ls (.int (Int32.ofNat g.2.2.2.1) :: st) S I J k) := rfl
theorem w_gf0 {a i ci j h : Nat} : (pm_wp g d R Q Jm nx ((.getfield i, [ci, j, 0, h]) :: is) ls (.ref a :: st) S I J k) = (pm_kd S a = ci + 4 ∧ pm_wp g d R Q Jm nx is ls (.int (I a j) :: st) S I J k) := rfl
theorem w_gf1 {a i ci j h : Nat} : (pm_wp g d R Q Jm nx ((.getfield i, [ci, j, 1, h]) :: is) ls (.ref a :: st) S I J k) = (pm_kd S a = ci + 4 ∧ pm_wp g d R Q Jm nx is ls (.long (J a j) :: st) S I J k) := rfl
theorem w_gf2 {a i ci j h : Nat} : (pm_wp g d R Q Jm nx ((.getfield i, [ci, j, 2, h]) :: is) ls (.ref a :: st) S I J k) = (pm_kd S a = ci + 4 ∧ pm_wp g d R Q Jm nx is ls (.int (I a j) :: st) S I J k) := rfl
theorem w_gf3 {a i ci j h : Nat} : (pm_wp g d R Q Jm nx ((.getfield i, [ci, j, 3, h]) :: is) ls (.ref a :: st) S I J k) = (pm_kd S a = ci + 4 ∧ pm_rf S a j = some (pm_rfv (pm_rf S a j)) ∧ pm_wp g d R Q Jm nx is ls (.ref (pm_rfv (pm_rf S a j)) :: st) S I J k) := rfl
theorem w_pf0 {a i ci j h : Nat} {x : Int32} : (pm_wp g d R Q Jm nx ((.putfield i, [ci, j, 0, h]) :: is) ls (.int x :: .ref a :: st) S I J k) = (pm_kd S a = ci + 4 ∧ pm_wp g d R Q Jm nx is ls st S (pm_up I a j x) J k) := rfl
theorem w_pf1 {a i ci j h : Nat} {x : Int64} : (pm_wp g d R Q Jm nx ((.putfield i, [ci, j, 1, h]) :: is) ls (.long x :: .ref a :: st) S I J k) = (pm_kd S a = ci + 4 ∧ pm_wp g d R Q Jm nx is ls st S I (pm_upL J a j x) k) := rfl
theorem w_pf2 {a i ci j h : Nat} {x : Int32} : (pm_wp g d R Q Jm nx ((.putfield i, [ci, j, 2, h]) :: is) ls (.int x :: .ref a :: st) S I J k) = (pm_kd S a = ci + 4 ∧ (x = 0 ∨ x = 1) ∧ pm_wp g d R Q Jm nx is ls st S (pm_up I a j x) J k) := rfl
theorem w_pf3 {a i ci j h x : Nat} : (pm_wp g d R Q Jm nx ((.putfield i, [ci, j, 3, h]) :: is) ls (.ref x :: .ref a :: st) S I J k) = (pm_kd S a = ci + 4 ∧ j < (S.getD a (999, 0, [])).2.2.length ∧ pm_wp g d R Q Jm nx is ls st (pm_sr S a j x) I J k) := rfl
theorem w_new {i ci h : Nat} : (pm_wp g d R Q Jm nx ((.new i, [ci, h]) :: is) ls st S I J k) = (k.1 + 1 ≤ R.cells ∧ k.2 + (pm_fks ci).length ≤ R.slots ∧ pm_wp g d R Q Jm nx is ls (.ref S.length :: st) (S ++ [(ci + 4, (pm_fks ci).length, List.replicate (pm_fks ci).length none)]) (pm_z I S.length) (pm_zL J S.length) (k.1 + 1, k.2 + (pm_fks ci).length)) := rfl
theorem w_newarray {t : ArrayType} {n : Int32} {kd : Nat} : (pm_wp g d R Q Jm nx ((.newarray t, [kd]) :: is) ls (.int n :: st) S I J k) = (¬ n < 0 ∧ n.toNatClampNeg ≤ 100000 ∧ k.1 + 1 ≤ R.cells ∧ k.2 + n.toNatClampNeg ≤ R.slots ∧ pm_wp g d R Q Jm nx is ls (.ref S.length :: st) (S ++ [(kd, n.toNatClampNeg, [])]) (pm_z I S.length) (pm_zL J S.length) (k.1 + 1, k.2 + n.toNatClampNeg)) := rfl
theorem pm_cl2_1 {go : Option Value → List Value → pm_SS → pm_MI → pm_ML → Prop} {f c : Nat} {a0 : Value} : pm_cl2 g d f 1 c go (a0 :: st) S I J = (st.length ≤ 4 ∧ pm_rcv S c [a0] ∧ pm_C g d f [a0] (fun r S I J => go r st S I J) S I J) := propext ⟨fun h => h.2, fun h => ⟨by simp, h⟩⟩
theorem pm_cl2_2 {go : Option Value → List Value → pm_SS → pm_MI → pm_ML → Prop} {f c : Nat} {a0 a1 : Value} : pm_cl2 g d f 2 c go (a1 :: a0 :: st) S I J = (st.length ≤ 4 ∧ pm_rcv S c [a0, a1] ∧ pm_C g d f [a0, a1] (fun r S I J => go r st S I J) S I J) := propext ⟨fun h => h.2, fun h => ⟨by simp, h⟩⟩
theorem pm_cl2_3 {go : Option Value → List Value → pm_SS → pm_MI → pm_ML → Prop} {f c : Nat} {a0 a1 a2 : Value} : pm_cl2 g d f 3 c go (a2 :: a1 :: a0 :: st) S I J = (st.length ≤ 4 ∧ pm_rcv S c [a0, a1, a2] ∧ pm_C g d f [a0, a1, a2] (fun r S I J => go r st S I J) S I J) := propext ⟨fun h => h.2, fun h => ⟨by simp, h⟩⟩
theorem pm_cl2_4 {go : Option Value → List Value → pm_SS → pm_MI → pm_ML → Prop} {f c : Nat} {a0 a1 a2 a3 : Value} : pm_cl2 g d f 4 c go (a3 :: a2 :: a1 :: a0 :: st) S I J = (st.length ≤ 4 ∧ pm_rcv S c [a0, a1, a2, a3] ∧ pm_C g d f [a0, a1, a2, a3] (fun r S I J => go r st S I J) S I J) := propext ⟨fun h => h.2, fun h => ⟨by simp, h⟩⟩
theorem pm_cl2_5 {go : Option Value → List Value → pm_SS → pm_MI → pm_ML → Prop} {f c : Nat} {a0 a1 a2 a3 a4 : Value} : pm_cl2 g d f 5 c go (a4 :: a3 :: a2 :: a1 :: a0 :: st) S I J = (st.length ≤ 4 ∧ pm_rcv S c [a0, a1, a2, a3, a4] ∧ pm_C g d f [a0, a1, a2, a3, a4] (fun r S I J => go r st S I J) S I J) := propext ⟨fun h => h.2, fun h => ⟨by simp, h⟩⟩
theorem pm_cl2_6 {go : Option Value → List Value → pm_SS → pm_MI → pm_ML → Prop} {f c : Nat} {a0 a1 a2 a3 a4 a5 : Value} : pm_cl2 g d f 6 c go (a5 :: a4 :: a3 :: a2 :: a1 :: a0 :: st) S I J = (st.length ≤ 4 ∧ pm_rcv S c [a0, a1, a2, a3, a4, a5] ∧ pm_C g d f [a0, a1, a2, a3, a4, a5] (fun r S I J => go r st S I J) S I J) := propext ⟨fun h => h.2, fun h => ⟨by simp, h⟩⟩
theorem pm_cl2_7 {go : Option Value → List Value → pm_SS → pm_MI → pm_ML → Prop} {f c : Nat} {a0 a1 a2 a3 a4 a5 a6 : Value} : pm_cl2 g d f 7 c go (a6 :: a5 :: a4 :: a3 :: a2 :: a1 :: a0 :: st) S I J = (st.length ≤ 4 ∧ pm_rcv S c [a0, a1, a2, a3, a4, a5, a6] ∧ pm_C g d f [a0, a1, a2, a3, a4, a5, a6] (fun r S I J => go r st S I J) S I J) := propext ⟨fun h => h.2, fun h => ⟨by simp, h⟩⟩
theorem pm_cl1_0 {go : Option Value → List Value → pm_SS → pm_MI → pm_ML → Prop} {f : Nat} : pm_cl1 g d f 0 go (st) S I J = (st.length ≤ 4 ∧ pm_C g d f [] (fun r S I J => go r st S I J) S I J) := propext ⟨fun h => h.2, fun h => ⟨by simp, h⟩⟩
theorem pm_cl1_1 {go : Option Value → List Value → pm_SS → pm_MI → pm_ML → Prop} {f : Nat} {a0 : Value} : pm_cl1 g d f 1 go (a0 :: st) S I J = (st.length ≤ 4 ∧ pm_C g d f [a0] (fun r S I J => go r st S I J) S I J) := propext ⟨fun h => h.2, fun h => ⟨by simp, h⟩⟩
theorem pm_cl1_2 {go : Option Value → List Value → pm_SS → pm_MI → pm_ML → Prop} {f : Nat} {a0 a1 : Value} : pm_cl1 g d f 2 go (a1 :: a0 :: st) S I J = (st.length ≤ 4 ∧ pm_C g d f [a0, a1] (fun r S I J => go r st S I J) S I J) := propext ⟨fun h => h.2, fun h => ⟨by simp, h⟩⟩
theorem pm_cl1_3 {go : Option Value → List Value → pm_SS → pm_MI → pm_ML → Prop} {f : Nat} {a0 a1 a2 : Value} : pm_cl1 g d f 3 go (a2 :: a1 :: a0 :: st) S I J = (st.length ≤ 4 ∧ pm_C g d f [a0, a1, a2] (fun r S I J => go r st S I J) S I J) := propext ⟨fun h => h.2, fun h => ⟨by simp, h⟩⟩
theorem pm_cl1_4 {go : Option Value → List Value → pm_SS → pm_MI → pm_ML → Prop} {f : Nat} {a0 a1 a2 a3 : Value} : pm_cl1 g d f 4 go (a3 :: a2 :: a1 :: a0 :: st) S I J = (st.length ≤ 4 ∧ pm_C g d f [a0, a1, a2, a3] (fun r S I J => go r st S I J) S I J) := propext ⟨fun h => h.2, fun h => ⟨by simp, h⟩⟩
theorem pm_cl1_5 {go : Option Value → List Value → pm_SS → pm_MI → pm_ML → Prop} {f : Nat} {a0 a1 a2 a3 a4 : Value} : pm_cl1 g d f 5 go (a4 :: a3 :: a2 :: a1 :: a0 :: st) S I J = (st.length ≤ 4 ∧ pm_C g d f [a0, a1, a2, a3, a4] (fun r S I J => go r st S I J) S I J) := propext ⟨fun h => h.2, fun h => ⟨by simp, h⟩⟩
theorem pm_cl1_6 {go : Option Value → List Value → pm_SS → pm_MI → pm_ML → Prop} {f : Nat} {a0 a1 a2 a3 a4 a5 : Value} : pm_cl1 g d f 6 go (a5 :: a4 :: a3 :: a2 :: a1 :: a0 :: st) S I J = (st.length ≤ 4 ∧ pm_C g d f [a0, a1, a2, a3, a4, a5] (fun r S I J => go r st S I J) S I J) := propext ⟨fun h => h.2, fun h => ⟨by simp, h⟩⟩
theorem w_iv {i f n h c : Nat} : (pm_wp g d R Q Jm nx ((.invokevirtual i, [f, n, h, 0, 0, c]) :: is) ls st S I J k) = (k.1 ≤ R.cells ∧ k.2 ≤ R.slots ∧ pm_cl2 g d f n c (fun r st S I J => pm_wp g d R Q Jm nx is ls (r.toList ++ st) S I J k) st S I J) := rfl
theorem w_is {i f n h : Nat} (hf : f < 9990) : (pm_wp g d R Q Jm nx ((.invokestatic i, [f, n, h]) :: is) ls st S I J k) = (k.1 ≤ R.cells ∧ k.2 ≤ R.slots ∧ pm_cl1 g d f n (fun r st S I J => pm_wp g d R Q Jm nx is ls (r.toList ++ st) S I J k) st S I J) := by
  have e : ∀ {P : Prop}, f = 9990 ∨ f = 9991 ∨ f = 9992 ∨ f = 9993 ∨ f = 9994 ∨ f = 9999 → P := fun h => by omega
  show (match f with
        | 9999 => _
        | 9990 => _
        | 9991 => _
        | 9992 => _
        | 9993 => _
        | 9994 => _
        | f => _) = _
  split <;> first | rfl | exact e (by simp)
theorem w_ix {i f n h mc ms c : Nat} (hf : f < 9990) : (pm_wp g d R Q Jm nx ((.invokespecial i, [f, n, h, mc, ms, c]) :: is) ls st S I J k) = (k.1 + mc ≤ R.cells ∧ k.2 + ms ≤ R.slots ∧ pm_cl2 g d f n c (fun r st S I J => pm_wp g d R Q Jm nx is ls (r.toList ++ st) S I J (k.1 + mc, k.2 + ms)) st S I J) := by
  show (match f with
        | 9999 => _
        | f => _) = _
  split
  · omega
  · rfl
set_option maxRecDepth 1000000 in
theorem w_io {i h a : Nat} : (pm_wp g d R Q Jm nx ((.invokespecial i, [9999, h]) :: is) ls (.ref a :: st) S I J k) = (st.length ≤ 4 ∧ pm_wp g d R Q Jm nx is ls st S I J k) := rfl
set_option maxRecDepth 1000000 in
theorem w_cp {i : Nat} {a b : Nat} {sp dp n : Int32} : (pm_wp g d R Q Jm nx ((.invokestatic i, [9999]) :: is) ls (.int n :: .int dp :: .ref b :: .int sp :: .ref a :: st) S I J k) = (st.length ≤ 4 ∧ pm_kd S a = 0 ∧ pm_kd S b = 0 ∧ ¬ sp < 0 ∧ ¬ dp < 0 ∧ ¬ n < 0 ∧ sp.toNatClampNeg + n.toNatClampNeg ≤ pm_n S a ∧ dp.toNatClampNeg + n.toNatClampNeg ≤ pm_n S b ∧ pm_wp g d R Q Jm nx is ls st S (pm_cpy I a b sp.toNatClampNeg dp.toNatClampNeg n.toNatClampNeg) J k) := rfl
set_option maxRecDepth 1000000 in
theorem w_mabs {i h : Nat} {x : Int32} : (pm_wp g d R Q Jm nx ((.invokestatic i, [9990, h]) :: is) ls (.int x :: st) S I J k) = (st.length ≤ 4 ∧ pm_wp g d R Q Jm nx is ls (.int (if 0 ≤ x then x else 0 - x) :: st) S I J k) := rfl
set_option maxRecDepth 1000000 in
theorem w_mabsL {i h : Nat} {x : Int64} : (pm_wp g d R Q Jm nx ((.invokestatic i, [9991, h]) :: is) ls (.long x :: st) S I J k) = (st.length ≤ 4 ∧ pm_wp g d R Q Jm nx is ls (.long (if 0 < x then x else -x) :: st) S I J k) := rfl
set_option maxRecDepth 1000000 in
theorem w_mmax {i h : Nat} {x y : Int32} : (pm_wp g d R Q Jm nx ((.invokestatic i, [9992, h]) :: is) ls (.int y :: .int x :: st) S I J k) = (st.length ≤ 4 ∧ pm_wp g d R Q Jm nx is ls (.int (if x < y then y else x) :: st) S I J k) := rfl
set_option maxRecDepth 1000000 in
theorem w_mmin {i h : Nat} {x y : Int32} : (pm_wp g d R Q Jm nx ((.invokestatic i, [9993, h]) :: is) ls (.int y :: .int x :: st) S I J k) = (st.length ≤ 4 ∧ pm_wp g d R Q Jm nx is ls (.int (if y < x then y else x) :: st) S I J k) := rfl
set_option maxRecDepth 1000000 in
theorem w_mminL {i h : Nat} {x y : Int64} : (pm_wp g d R Q Jm nx ((.invokestatic i, [9994, h]) :: is) ls (.long y :: .long x :: st) S I J k) = (st.length ≤ 4 ∧ pm_wp g d R Q Jm nx is ls (.long (if y < x then y else x) :: st) S I J k) := rfl
theorem w_ifeq {x : Int32} {o : Int} {b : Nat} : (pm_wp g d R Q Jm nx ((.ifCond .eq o, [b]) :: is) ls (.int x :: st) S I J k) = (((x = 0) → Jm b ls st S I J k) ∧ (¬ (x = 0) → pm_wp g d R Q Jm nx is ls st S I J k)) := rfl
theorem w_iceq {x y : Int32} {o : Int} {b : Nat} : (pm_wp g d R Q Jm nx ((.if_icmp .eq o, [b]) :: is) ls (.int y :: .int x :: st) S I J k) = (((x = y) → Jm b ls st S I J k) ∧ (¬ (x = y) → pm_wp g d R Q Jm nx is ls st S I J k)) := rfl
theorem w_ifne {x : Int32} {o : Int} {b : Nat} : (pm_wp g d R Q Jm nx ((.ifCond .ne o, [b]) :: is) ls (.int x :: st) S I J k) = (((¬ x = 0) → Jm b ls st S I J k) ∧ (¬ (¬ x = 0) → pm_wp g d R Q Jm nx is ls st S I J k)) := rfl
theorem w_icne {x y : Int32} {o : Int} {b : Nat} : (pm_wp g d R Q Jm nx ((.if_icmp .ne o, [b]) :: is) ls (.int y :: .int x :: st) S I J k) = (((¬ x = y) → Jm b ls st S I J k) ∧ (¬ (¬ x = y) → pm_wp g d R Q Jm nx is ls st S I J k)) := rfl
theorem w_iflt {x : Int32} {o : Int} {b : Nat} : (pm_wp g d R Q Jm nx ((.ifCond .lt o, [b]) :: is) ls (.int x :: st) S I J k) = (((x < 0) → Jm b ls st S I J k) ∧ (¬ (x < 0) → pm_wp g d R Q Jm nx is ls st S I J k)) := rfl
theorem w_iclt {x y : Int32} {o : Int} {b : Nat} : (pm_wp g d R Q Jm nx ((.if_icmp .lt o, [b]) :: is) ls (.int y :: .int x :: st) S I J k) = (((x < y) → Jm b ls st S I J k) ∧ (¬ (x < y) → pm_wp g d R Q Jm nx is ls st S I J k)) := rfl
theorem w_ifge {x : Int32} {o : Int} {b : Nat} : (pm_wp g d R Q Jm nx ((.ifCond .ge o, [b]) :: is) ls (.int x :: st) S I J k) = (((0 ≤ x) → Jm b ls st S I J k) ∧ (¬ (0 ≤ x) → pm_wp g d R Q Jm nx is ls st S I J k)) := rfl
theorem w_icge {x y : Int32} {o : Int} {b : Nat} : (pm_wp g d R Q Jm nx ((.if_icmp .ge o, [b]) :: is) ls (.int y :: .int x :: st) S I J k) = (((y ≤ x) → Jm b ls st S I J k) ∧ (¬ (y ≤ x) → pm_wp g d R Q Jm nx is ls st S I J k)) := rfl
theorem w_ifgt {x : Int32} {o : Int} {b : Nat} : (pm_wp g d R Q Jm nx ((.ifCond .gt o, [b]) :: is) ls (.int x :: st) S I J k) = (((0 < x) → Jm b ls st S I J k) ∧ (¬ (0 < x) → pm_wp g d R Q Jm nx is ls st S I J k)) := rfl
theorem w_icgt {x y : Int32} {o : Int} {b : Nat} : (pm_wp g d R Q Jm nx ((.if_icmp .gt o, [b]) :: is) ls (.int y :: .int x :: st) S I J k) = (((y < x) → Jm b ls st S I J k) ∧ (¬ (y < x) → pm_wp g d R Q Jm nx is ls st S I J k)) := rfl
theorem w_ifle {x : Int32} {o : Int} {b : Nat} : (pm_wp g d R Q Jm nx ((.ifCond .le o, [b]) :: is) ls (.int x :: st) S I J k) = (((x ≤ 0) → Jm b ls st S I J k) ∧ (¬ (x ≤ 0) → pm_wp g d R Q Jm nx is ls st S I J k)) := rfl
theorem w_icle {x y : Int32} {o : Int} {b : Nat} : (pm_wp g d R Q Jm nx ((.if_icmp .le o, [b]) :: is) ls (.int y :: .int x :: st) S I J k) = (((x ≤ y) → Jm b ls st S I J k) ∧ (¬ (x ≤ y) → pm_wp g d R Q Jm nx is ls st S I J k)) := rfl
theorem w_goto {o : Int} {b : Nat} : (pm_wp g d R Q Jm nx ((.goto o, [b]) :: is) ls st S I J k) = (Jm b ls st S I J k) := rfl
theorem w_ts {x : Int32} {d0 lo hi : Int} {offs : Array Int} : (pm_wp g d R Q Jm nx ((.tableswitch d0 lo hi offs, ax) :: is) ls (.int x :: st) S I J k) = (pm_sw (Jm (ax.getD 0 0) ls st S I J k) x ((ax.drop 1).mapIdx (fun i b => (lo + (i : Int), Jm b ls st S I J k)))) := rfl
theorem w_ls {x : Int32} {d0 : Int} {ps : Array (Int × Int)} : (pm_wp g d R Q Jm nx ((.lookupswitch d0 ps, ax) :: is) ls (.int x :: st) S I J k) = (pm_sw (Jm (ax.getD 0 0) ls st S I J k) x ((ps.toList.zip (ax.drop 1)).map (fun q => (q.1.1, Jm q.2 ls st S I J k)))) := rfl
theorem w_ret {x : Int32} : (pm_wp g d R Q Jm nx ((.ireturn, [0]) :: is) ls [.int x] S I J k) = (Q (some (.int x)) S I J) := propext ⟨fun h => h.2.2, fun h => ⟨rfl, fun q => (by cases q), h⟩⟩
theorem w_zret {x : Int32} : (pm_wp g d R Q Jm nx ((.ireturn, [1]) :: is) ls [.int x] S I J k) = ((x = 0 ∨ x = 1) ∧ Q (some (.int x)) S I J) := propext ⟨fun h => ⟨h.2.1 rfl, h.2.2⟩, fun h => ⟨rfl, fun _ => h.1, h.2⟩⟩
theorem w_lret {x : Int64} : (pm_wp g d R Q Jm nx ((.lreturn, ax) :: is) ls [.long x] S I J k) = (Q (some (.long x)) S I J) := propext ⟨fun h => h.2, fun h => ⟨rfl, h⟩⟩
theorem w_vret : (pm_wp g d R Q Jm nx ((.return_, ax) :: is) ls [] S I J k) = (Q none S I J) := propext ⟨fun h => h.2, fun h => ⟨rfl, h⟩⟩
theorem w_li {x : Int32} {k : Int32 → Prop} : pm_li k (some (.int x)) = k x := rfl
theorem w_ll {x : Int64} {k : Int64 → Prop} : pm_ll k (some (.long x)) = k x := rfl
theorem w_la {x : Nat} {k : Value → Prop} : pm_la k (some (.ref x)) = k (.ref x) := rfl
theorem w_lan {k : Value → Prop} : pm_la k (some .null) = k .null := rfl
theorem w_ok0 : pm_ok ls 0 = true := rfl
theorem w_oks {i : Nat} : pm_ok ls (i + 1) = pm_nlg (ls.getD i none) := rfl
theorem w_nl0 : pm_nlg none = true := rfl
theorem w_nli {x : Int32} : pm_nlg (some (.int x)) = true := rfl
theorem w_nlr {x : Nat} : pm_nlg (some (.ref x)) = true := rfl
theorem w_nln : pm_nlg (some .null) = true := rfl
theorem w_rcv {q c : Nat} {l : List Value} : pm_rcv S c (.ref q :: l) = (pm_kd S q = c + 4) := rfl
theorem w_rfv {q : Nat} : pm_rfv (some q) = q := rfl
theorem w_ts1 {v : Value} : (some v).toList ++ st = v :: st := rfl
theorem w_ts0 : (none : Option Value).toList ++ st = st := rfl
theorem w_sw0 {D : Prop} {x : Int32} : pm_sw D x [] = D := rfl
theorem w_swc {D B : Prop} {x : Int32} {c : Int} {r : List (Int × Prop)} : pm_sw D x ((c, B) :: r) = ((x.toInt = c → B) ∧ (¬ x.toInt = c → pm_sw D x r)) := rfl
end WR
theorem w_cs : (Int32.ofInt (-1) = (-1)) ∧ (Int32.ofInt 0 = 0) ∧ (Int32.ofInt 1 = 1) ∧ (Int32.ofInt 2 = 2) ∧ (Int32.ofInt 3 = 3) ∧ (Int32.ofInt 4 = 4) ∧ (Int32.ofInt 5 = 5) ∧ (Int32.ofInt 6 = 6) ∧ ((Int8.ofInt (-9)).toInt32 = (-9)) ∧ ((Int8.ofInt (-8)).toInt32 = (-8)) ∧ ((Int8.ofInt (-4)).toInt32 = (-4)) ∧ ((Int8.ofInt (-3)).toInt32 = (-3)) ∧ ((Int8.ofInt (-2)).toInt32 = (-2)) ∧ ((Int8.ofInt 6).toInt32 = 6) ∧ ((Int8.ofInt 7).toInt32 = 7) ∧ ((Int8.ofInt 8).toInt32 = 8) ∧ ((Int8.ofInt 9).toInt32 = 9) ∧ ((Int8.ofInt 10).toInt32 = 10) ∧ ((Int8.ofInt 11).toInt32 = 11) ∧ ((Int8.ofInt 12).toInt32 = 12) ∧ ((Int8.ofInt 13).toInt32 = 13) ∧ ((Int8.ofInt 14).toInt32 = 14) ∧ ((Int8.ofInt 16).toInt32 = 16) ∧ ((Int8.ofInt 17).toInt32 = 17) ∧ ((Int8.ofInt 18).toInt32 = 18) ∧ ((Int8.ofInt 19).toInt32 = 19) ∧ ((Int8.ofInt 20).toInt32 = 20) ∧ ((Int8.ofInt 24).toInt32 = 24) ∧ ((Int8.ofInt 25).toInt32 = 25) ∧ ((Int8.ofInt 30).toInt32 = 30) ∧ ((Int8.ofInt 32).toInt32 = 32) ∧ ((Int8.ofInt 33).toInt32 = 33) ∧ ((Int8.ofInt 40).toInt32 = 40) ∧ ((Int8.ofInt 41).toInt32 = 41) ∧ ((Int8.ofInt 48).toInt32 = 48) ∧ ((Int8.ofInt 60).toInt32 = 60) ∧ ((Int8.ofInt 63).toInt32 = 63) ∧ ((Int8.ofInt 89).toInt32 = 89) ∧ ((Int8.ofInt 96).toInt32 = 96) ∧ ((Int8.ofInt 120).toInt32 = 120) ∧ ((Int8.ofInt 127).toInt32 = 127) ∧ ((Int16.ofInt 144).toInt32 = 144) ∧ ((Int16.ofInt 160).toInt32 = 160) ∧ ((Int16.ofInt 192).toInt32 = 192) ∧ ((Int16.ofInt 200).toInt32 = 200) ∧ ((Int16.ofInt 512).toInt32 = 512) ∧ ((Int16.ofInt 792).toInt32 = 792) ∧ ((Int16.ofInt 999).toInt32 = 999) ∧ ((Int16.ofInt 1000).toInt32 = 1000) ∧ ((Int16.ofInt 2304).toInt32 = 2304) ∧ ((Int16.ofInt 10000).toInt32 = 10000) := by decide +kernel
def SH : pm_SS := [(15, 12, [some 1, some 3, some 6, some 9, some 19, some 23, some 31, some 37, some 42, some 55, some 60, none]),
  (14, 6, [some 2, none, none, none, none, none]),
  (0, 6, []),
  (13, 4, [none, none, some 4, some 5]),
  (0, 6, []),
  (0, 144, []),
  (13, 4, [none, none, some 7, some 8]),
  (0, 4, []),
  (0, 192, []),
  (4, 11, [some 10, some 11, some 12, some 13, some 14, some 15, some 16, some 17, some 18, none, none]),
  (0, 40, []),
  (0, 40, []),
  (0, 40, []),
  (0, 40, []),
  (0, 40, []),
  (0, 40, []),
  (0, 120, []),
  (0, 120, []),
  (0, 120, []),
  (7, 3, [some 20, some 21, some 22]),
  (0, 12, []),
  (0, 6, []),
  (0, 6, []),
  (10, 8, [some 24, some 25, some 26, some 27, some 28, some 29, some 30, none]),
  (0, 30, []),
  (0, 30, []),
  (0, 30, []),
  (0, 30, []),
  (0, 60, []),
  (0, 30, []),
  (0, 30, []),
  (9, 9, [some 32, some 33, some 34, some 35, some 36, none, none, none, none]),
  (0, 24, []),
  (0, 24, []),
  (0, 792, []),
  (0, 33, []),
  (0, 48, []),
  (8, 5, [some 38, some 39, some 40, some 41, none]),
  (0, 60, []),
  (0, 60, []),
  (0, 60, []),
  (3, 60, []),
  (12, 14, [some 43, some 50, some 51, some 52, some 53, some 54, none, none, none, none, none, none, none, none]),
  (6, 7, [some 44, some 45, some 46, some 47, some 48, some 49, none]),
  (0, 160, []),
  (0, 160, []),
  (0, 160, []),
  (0, 160, []),
  (1, 160, []),
  (0, 41, []),
  (1, 160, []),
  (0, 160, []),
  (0, 3, []),
  (0, 60, []),
  (0, 18, []),
  (11, 5, [some 56, some 57, some 58, some 59, none]),
  (0, 60, []),
  (0, 60, []),
  (0, 60, []),
  (0, 60, []),
  (5, 9, [some 61, some 62, some 63, some 64, some 65, some 66, some 67, none, none]),
  (0, 9, []),
  (0, 9, []),
  (0, 9, []),
  (0, 9, []),
  (0, 9, []),
  (0, 3, []),
  (2, 512, []),
  (16, 81, [none, some 69, none, none, none, some 70, some 71, some 72, some 73, some 74, none, none, none, none, none, none, none, some 75, some 76, some 77, some 78, none, none, none, some 79, some 80, some 81, some 82, some 83, some 84, none, some 85, some 86, some 87, some 88, some 89, some 90, some 91, none, some 92, some 93, some 94, some 95, some 96, some 97, some 98, some 99, none, some 100, some 101, some 102, some 103, none, some 104, some 105, some 106, some 107, some 108, none, some 109, none, none, some 110, none, some 111, none, some 112, none, some 113, some 114, some 115, some 116, none, none, some 117, some 118, some 119, some 120, some 121, some 122, none]),
  (0, 6, []),
  (0, 6, []),
  (0, 144, []),
  (0, 24, []),
  (0, 4, []),
  (2, 192, []),
  (0, 24, []),
  (0, 24, []),
  (0, 24, []),
  (0, 2304, []),
  (0, 40, []),
  (0, 40, []),
  (0, 40, []),
  (0, 40, []),
  (0, 40, []),
  (0, 40, []),
  (0, 120, []),
  (0, 120, []),
  (0, 120, []),
  (0, 6, []),
  (0, 6, []),
  (0, 6, []),
  (0, 6, []),
  (0, 30, []),
  (0, 30, []),
  (0, 30, []),
  (0, 30, []),
  (0, 30, []),
  (0, 30, []),
  (0, 30, []),
  (0, 30, []),
  (0, 60, []),
  (0, 60, []),
  (0, 60, []),
  (3, 60, []),
  (0, 200, []),
  (0, 200, []),
  (0, 200, []),
  (0, 200, []),
  (1, 200, []),
  (0, 60, []),
  (0, 3, []),
  (0, 60, []),
  (0, 18, []),
  (0, 60, []),
  (0, 60, []),
  (0, 60, []),
  (0, 60, []),
  (0, 9, []),
  (0, 9, []),
  (3, 512, []),
  (3, 512, []),
  (0, 9, []),
  (0, 3, [])]
theorem sh0 : (pm_kd SH 0 = 15) ∧ (pm_rf SH 0 0 = some 1) ∧ (pm_rf SH 0 1 = some 3) ∧ (pm_rf SH 0 2 = some 6) ∧ (pm_rf SH 0 3 = some 9) ∧ (pm_rf SH 0 4 = some 19) ∧ (pm_rf SH 0 5 = some 23) ∧ (pm_rf SH 0 6 = some 31) ∧ (pm_rf SH 0 7 = some 37) ∧ (pm_rf SH 0 8 = some 42) ∧ (pm_rf SH 0 9 = some 55) ∧ (pm_rf SH 0 10 = some 60) := by decide +kernel
theorem sh1 : (pm_kd SH 1 = 14) ∧ (pm_rf SH 1 0 = some 2) ∧ (pm_kd SH 2 = 0) ∧ (pm_n SH 2 = 6) := by decide +kernel
theorem sh3 : (pm_kd SH 3 = 13) ∧ (pm_rf SH 3 2 = some 4) ∧ (pm_kd SH 4 = 0) ∧ (pm_n SH 4 = 6) ∧ (pm_rf SH 3 3 = some 5) ∧ (pm_kd SH 5 = 0) ∧ (pm_n SH 5 = 144) := by decide +kernel
theorem sh6 : (pm_kd SH 6 = 13) ∧ (pm_rf SH 6 2 = some 7) ∧ (pm_kd SH 7 = 0) ∧ (pm_n SH 7 = 4) ∧ (pm_rf SH 6 3 = some 8) ∧ (pm_kd SH 8 = 0) ∧ (pm_n SH 8 = 192) := by decide +kernel
theorem sh9 : (pm_kd SH 9 = 4) ∧ (pm_rf SH 9 0 = some 10) ∧ (pm_kd SH 10 = 0) ∧ (pm_n SH 10 = 40) ∧ (pm_rf SH 9 1 = some 11) ∧ (pm_kd SH 11 = 0) ∧ (pm_n SH 11 = 40) ∧ (pm_rf SH 9 2 = some 12) ∧ (pm_kd SH 12 = 0) ∧ (pm_n SH 12 = 40) ∧ (pm_rf SH 9 3 = some 13) ∧ (pm_kd SH 13 = 0) ∧ (pm_n SH 13 = 40) ∧ (pm_rf SH 9 4 = some 14) ∧ (pm_kd SH 14 = 0) ∧ (pm_n SH 14 = 40) ∧ (pm_rf SH 9 5 = some 15) ∧ (pm_kd SH 15 = 0) ∧ (pm_n SH 15 = 40) ∧ (pm_rf SH 9 6 = some 16) ∧ (pm_kd SH 16 = 0) ∧ (pm_n SH 16 = 120) ∧ (pm_rf SH 9 7 = some 17) ∧ (pm_kd SH 17 = 0) ∧ (pm_n SH 17 = 120) ∧ (pm_rf SH 9 8 = some 18) ∧ (pm_kd SH 18 = 0) ∧ (pm_n SH 18 = 120) := by decide +kernel
theorem sh19 : (pm_kd SH 19 = 7) ∧ (pm_rf SH 19 0 = some 20) ∧ (pm_kd SH 20 = 0) ∧ (pm_n SH 20 = 12) ∧ (pm_rf SH 19 1 = some 21) ∧ (pm_kd SH 21 = 0) ∧ (pm_n SH 21 = 6) ∧ (pm_rf SH 19 2 = some 22) ∧ (pm_kd SH 22 = 0) ∧ (pm_n SH 22 = 6) := by decide +kernel
theorem sh23 : (pm_kd SH 23 = 10) ∧ (pm_rf SH 23 0 = some 24) ∧ (pm_kd SH 24 = 0) ∧ (pm_n SH 24 = 30) ∧ (pm_rf SH 23 1 = some 25) ∧ (pm_kd SH 25 = 0) ∧ (pm_n SH 25 = 30) ∧ (pm_rf SH 23 2 = some 26) ∧ (pm_kd SH 26 = 0) ∧ (pm_n SH 26 = 30) ∧ (pm_rf SH 23 3 = some 27) ∧ (pm_kd SH 27 = 0) ∧ (pm_n SH 27 = 30) ∧ (pm_rf SH 23 4 = some 28) ∧ (pm_kd SH 28 = 0) ∧ (pm_n SH 28 = 60) ∧ (pm_rf SH 23 5 = some 29) ∧ (pm_kd SH 29 = 0) ∧ (pm_n SH 29 = 30) ∧ (pm_rf SH 23 6 = some 30) ∧ (pm_kd SH 30 = 0) ∧ (pm_n SH 30 = 30) := by decide +kernel
theorem sh31 : (pm_kd SH 31 = 9) ∧ (pm_rf SH 31 0 = some 32) ∧ (pm_kd SH 32 = 0) ∧ (pm_n SH 32 = 24) ∧ (pm_rf SH 31 1 = some 33) ∧ (pm_kd SH 33 = 0) ∧ (pm_n SH 33 = 24) ∧ (pm_rf SH 31 2 = some 34) ∧ (pm_kd SH 34 = 0) ∧ (pm_n SH 34 = 792) ∧ (pm_rf SH 31 3 = some 35) ∧ (pm_kd SH 35 = 0) ∧ (pm_n SH 35 = 33) ∧ (pm_rf SH 31 4 = some 36) ∧ (pm_kd SH 36 = 0) ∧ (pm_n SH 36 = 48) := by decide +kernel
theorem sh37 : (pm_kd SH 37 = 8) ∧ (pm_rf SH 37 0 = some 38) ∧ (pm_kd SH 38 = 0) ∧ (pm_n SH 38 = 60) ∧ (pm_rf SH 37 1 = some 39) ∧ (pm_kd SH 39 = 0) ∧ (pm_n SH 39 = 60) ∧ (pm_rf SH 37 2 = some 40) ∧ (pm_kd SH 40 = 0) ∧ (pm_n SH 40 = 60) ∧ (pm_rf SH 37 3 = some 41) ∧ (pm_kd SH 41 = 3) ∧ (pm_n SH 41 = 60) := by decide +kernel
theorem sh42 : (pm_kd SH 42 = 12) ∧ (pm_rf SH 42 0 = some 43) ∧ (pm_rf SH 42 1 = some 50) ∧ (pm_kd SH 50 = 1) ∧ (pm_n SH 50 = 160) ∧ (pm_rf SH 42 2 = some 51) ∧ (pm_kd SH 51 = 0) ∧ (pm_n SH 51 = 160) ∧ (pm_rf SH 42 3 = some 52) ∧ (pm_kd SH 52 = 0) ∧ (pm_n SH 52 = 3) ∧ (pm_rf SH 42 4 = some 53) ∧ (pm_kd SH 53 = 0) ∧ (pm_n SH 53 = 60) ∧ (pm_rf SH 42 5 = some 54) ∧ (pm_kd SH 54 = 0) ∧ (pm_n SH 54 = 18) := by decide +kernel
theorem sh43 : (pm_kd SH 43 = 6) ∧ (pm_rf SH 43 0 = some 44) ∧ (pm_kd SH 44 = 0) ∧ (pm_n SH 44 = 160) ∧ (pm_rf SH 43 1 = some 45) ∧ (pm_kd SH 45 = 0) ∧ (pm_n SH 45 = 160) ∧ (pm_rf SH 43 2 = some 46) ∧ (pm_kd SH 46 = 0) ∧ (pm_n SH 46 = 160) ∧ (pm_rf SH 43 3 = some 47) ∧ (pm_kd SH 47 = 0) ∧ (pm_n SH 47 = 160) ∧ (pm_rf SH 43 4 = some 48) ∧ (pm_kd SH 48 = 1) ∧ (pm_n SH 48 = 160) ∧ (pm_rf SH 43 5 = some 49) ∧ (pm_kd SH 49 = 0) ∧ (pm_n SH 49 = 41) := by decide +kernel
theorem sh55 : (pm_kd SH 55 = 11) ∧ (pm_rf SH 55 0 = some 56) ∧ (pm_kd SH 56 = 0) ∧ (pm_n SH 56 = 60) ∧ (pm_rf SH 55 1 = some 57) ∧ (pm_kd SH 57 = 0) ∧ (pm_n SH 57 = 60) ∧ (pm_rf SH 55 2 = some 58) ∧ (pm_kd SH 58 = 0) ∧ (pm_n SH 58 = 60) ∧ (pm_rf SH 55 3 = some 59) ∧ (pm_kd SH 59 = 0) ∧ (pm_n SH 59 = 60) := by decide +kernel
theorem sh60 : (pm_kd SH 60 = 5) ∧ (pm_rf SH 60 0 = some 61) ∧ (pm_kd SH 61 = 0) ∧ (pm_n SH 61 = 9) ∧ (pm_rf SH 60 1 = some 62) ∧ (pm_kd SH 62 = 0) ∧ (pm_n SH 62 = 9) ∧ (pm_rf SH 60 2 = some 63) ∧ (pm_kd SH 63 = 0) ∧ (pm_n SH 63 = 9) ∧ (pm_rf SH 60 3 = some 64) ∧ (pm_kd SH 64 = 0) ∧ (pm_n SH 64 = 9) ∧ (pm_rf SH 60 4 = some 65) ∧ (pm_kd SH 65 = 0) ∧ (pm_n SH 65 = 9) ∧ (pm_rf SH 60 5 = some 66) ∧ (pm_kd SH 66 = 0) ∧ (pm_n SH 66 = 3) ∧ (pm_rf SH 60 6 = some 67) ∧ (pm_kd SH 67 = 2) ∧ (pm_n SH 67 = 512) := by decide +kernel
theorem sh68_0 : (pm_kd SH 68 = 16) ∧ (pm_rf SH 68 1 = some 69) ∧ (pm_kd SH 69 = 0) ∧ (pm_n SH 69 = 6) ∧ (pm_rf SH 68 5 = some 70) ∧ (pm_kd SH 70 = 0) ∧ (pm_n SH 70 = 6) ∧ (pm_rf SH 68 6 = some 71) ∧ (pm_kd SH 71 = 0) ∧ (pm_n SH 71 = 144) ∧ (pm_rf SH 68 7 = some 72) ∧ (pm_kd SH 72 = 0) ∧ (pm_n SH 72 = 24) ∧ (pm_rf SH 68 8 = some 73) ∧ (pm_kd SH 73 = 0) ∧ (pm_n SH 73 = 4) ∧ (pm_rf SH 68 9 = some 74) ∧ (pm_kd SH 74 = 2) ∧ (pm_n SH 74 = 192) ∧ (pm_rf SH 68 17 = some 75) ∧ (pm_kd SH 75 = 0) ∧ (pm_n SH 75 = 24) ∧ (pm_rf SH 68 18 = some 76) ∧ (pm_kd SH 76 = 0) ∧ (pm_n SH 76 = 24) ∧ (pm_rf SH 68 19 = some 77) ∧ (pm_kd SH 77 = 0) ∧ (pm_n SH 77 = 24) ∧ (pm_rf SH 68 20 = some 78) ∧ (pm_kd SH 78 = 0) ∧ (pm_n SH 78 = 2304) ∧ (pm_rf SH 68 24 = some 79) ∧ (pm_kd SH 79 = 0) ∧ (pm_n SH 79 = 40) ∧ (pm_rf SH 68 25 = some 80) ∧ (pm_kd SH 80 = 0) ∧ (pm_n SH 80 = 40) ∧ (pm_rf SH 68 26 = some 81) ∧ (pm_kd SH 81 = 0) ∧ (pm_n SH 81 = 40) := by decide +kernel
theorem sh68_1 : (pm_rf SH 68 27 = some 82) ∧ (pm_kd SH 82 = 0) ∧ (pm_n SH 82 = 40) ∧ (pm_rf SH 68 28 = some 83) ∧ (pm_kd SH 83 = 0) ∧ (pm_n SH 83 = 40) ∧ (pm_rf SH 68 29 = some 84) ∧ (pm_kd SH 84 = 0) ∧ (pm_n SH 84 = 40) ∧ (pm_rf SH 68 31 = some 85) ∧ (pm_kd SH 85 = 0) ∧ (pm_n SH 85 = 120) ∧ (pm_rf SH 68 32 = some 86) ∧ (pm_kd SH 86 = 0) ∧ (pm_n SH 86 = 120) ∧ (pm_rf SH 68 33 = some 87) ∧ (pm_kd SH 87 = 0) ∧ (pm_n SH 87 = 120) ∧ (pm_rf SH 68 34 = some 88) ∧ (pm_kd SH 88 = 0) ∧ (pm_n SH 88 = 6) ∧ (pm_rf SH 68 35 = some 89) ∧ (pm_kd SH 89 = 0) ∧ (pm_n SH 89 = 6) ∧ (pm_rf SH 68 36 = some 90) ∧ (pm_kd SH 90 = 0) ∧ (pm_n SH 90 = 6) ∧ (pm_rf SH 68 37 = some 91) ∧ (pm_kd SH 91 = 0) ∧ (pm_n SH 91 = 6) ∧ (pm_rf SH 68 39 = some 92) ∧ (pm_kd SH 92 = 0) ∧ (pm_n SH 92 = 30) ∧ (pm_rf SH 68 40 = some 93) ∧ (pm_kd SH 93 = 0) ∧ (pm_n SH 93 = 30) ∧ (pm_rf SH 68 41 = some 94) ∧ (pm_kd SH 94 = 0) ∧ (pm_n SH 94 = 30) ∧ (pm_rf SH 68 42 = some 95) := by decide +kernel
theorem sh68_2 : (pm_kd SH 95 = 0) ∧ (pm_n SH 95 = 30) ∧ (pm_rf SH 68 43 = some 96) ∧ (pm_kd SH 96 = 0) ∧ (pm_n SH 96 = 30) ∧ (pm_rf SH 68 44 = some 97) ∧ (pm_kd SH 97 = 0) ∧ (pm_n SH 97 = 30) ∧ (pm_rf SH 68 45 = some 98) ∧ (pm_kd SH 98 = 0) ∧ (pm_n SH 98 = 30) ∧ (pm_rf SH 68 46 = some 99) ∧ (pm_kd SH 99 = 0) ∧ (pm_n SH 99 = 30) ∧ (pm_rf SH 68 48 = some 100) ∧ (pm_kd SH 100 = 0) ∧ (pm_n SH 100 = 60) ∧ (pm_rf SH 68 49 = some 101) ∧ (pm_kd SH 101 = 0) ∧ (pm_n SH 101 = 60) ∧ (pm_rf SH 68 50 = some 102) ∧ (pm_kd SH 102 = 0) ∧ (pm_n SH 102 = 60) ∧ (pm_rf SH 68 51 = some 103) ∧ (pm_kd SH 103 = 3) ∧ (pm_n SH 103 = 60) ∧ (pm_rf SH 68 53 = some 104) ∧ (pm_kd SH 104 = 0) ∧ (pm_n SH 104 = 200) ∧ (pm_rf SH 68 54 = some 105) ∧ (pm_kd SH 105 = 0) ∧ (pm_n SH 105 = 200) ∧ (pm_rf SH 68 55 = some 106) ∧ (pm_kd SH 106 = 0) ∧ (pm_n SH 106 = 200) ∧ (pm_rf SH 68 56 = some 107) ∧ (pm_kd SH 107 = 0) ∧ (pm_n SH 107 = 200) ∧ (pm_rf SH 68 57 = some 108) ∧ (pm_kd SH 108 = 1) := by decide +kernel
theorem sh68_3 : (pm_n SH 108 = 200) ∧ (pm_rf SH 68 59 = some 109) ∧ (pm_kd SH 109 = 0) ∧ (pm_n SH 109 = 60) ∧ (pm_rf SH 68 62 = some 110) ∧ (pm_kd SH 110 = 0) ∧ (pm_n SH 110 = 3) ∧ (pm_rf SH 68 64 = some 111) ∧ (pm_kd SH 111 = 0) ∧ (pm_n SH 111 = 60) ∧ (pm_rf SH 68 66 = some 112) ∧ (pm_kd SH 112 = 0) ∧ (pm_n SH 112 = 18) ∧ (pm_rf SH 68 68 = some 113) ∧ (pm_kd SH 113 = 0) ∧ (pm_n SH 113 = 60) ∧ (pm_rf SH 68 69 = some 114) ∧ (pm_kd SH 114 = 0) ∧ (pm_n SH 114 = 60) ∧ (pm_rf SH 68 70 = some 115) ∧ (pm_kd SH 115 = 0) ∧ (pm_n SH 115 = 60) ∧ (pm_rf SH 68 71 = some 116) ∧ (pm_kd SH 116 = 0) ∧ (pm_n SH 116 = 60) ∧ (pm_rf SH 68 74 = some 117) ∧ (pm_kd SH 117 = 0) ∧ (pm_n SH 117 = 9) ∧ (pm_rf SH 68 75 = some 118) ∧ (pm_kd SH 118 = 0) ∧ (pm_n SH 118 = 9) ∧ (pm_rf SH 68 76 = some 119) ∧ (pm_kd SH 119 = 3) ∧ (pm_n SH 119 = 512) ∧ (pm_rf SH 68 77 = some 120) ∧ (pm_kd SH 120 = 3) ∧ (pm_n SH 120 = 512) ∧ (pm_rf SH 68 78 = some 121) ∧ (pm_kd SH 121 = 0) ∧ (pm_n SH 121 = 9) := by decide +kernel
theorem sh68_4 : (pm_rf SH 68 79 = some 122) ∧ (pm_kd SH 122 = 0) ∧ (pm_n SH 122 = 3) := by decide +kernel
theorem ix_nI {n : Nat} (h : n < 2147483648) : (nI n).toNatClampNeg = n := nI_clamp (by omega)
theorem tI_nI {n : Nat} (h : n < 2147483648) : (nI n).toInt = (n : Int) := nI_toInt (by omega)
theorem nI_leP {a b : Nat} (ha : a < 2147483648) (hb : b < 2147483648) : (nI a ≤ nI b) = (a ≤ b) := propext (nI_leI (by omega) (by omega))
theorem nI_ltP {a b : Nat} (ha : a < 2147483648) (hb : b < 2147483648) : (nI a < nI b) = (a < b) := propext (nI_ltI (by omega) (by omega))
theorem nI_eqP {a b : Nat} (ha : a < 2147483648) (hb : b < 2147483648) : (nI a = nI b) = (a = b) := propext (nI_eq (by omega) (by omega))
theorem i_inN {a n : Nat} (ha : a < 2147483648) : vp_in (nI a) n = (a < n) := by
  rw [propext vp_in_iff, tI_nI ha]
  apply propext
  constructor
  · intro h; omega
  · intro h; omega
theorem i_in0 {x : Int32} {n : Nat} (hn : n < 2147483648) : vp_in x n = (0 ≤ x ∧ x < nI n) := by
  rw [propext vp_in_iff, propext Int32.lt_iff_toInt_lt, propext Int32.le_iff_toInt_le, tI_nI hn]
  rfl
theorem w_len : (Int32.ofNat 3 = 3) ∧ (Int32.ofNat 4 = 4) ∧ (Int32.ofNat 6 = 6) ∧ (Int32.ofNat 9 = 9) ∧ (Int32.ofNat 12 = 12) ∧ (Int32.ofNat 18 = 18) ∧ (Int32.ofNat 24 = 24) ∧ (Int32.ofNat 30 = 30) ∧ (Int32.ofNat 33 = 33) ∧ (Int32.ofNat 40 = 40) ∧ (Int32.ofNat 41 = 41) ∧ (Int32.ofNat 48 = 48) ∧ (Int32.ofNat 60 = 60) ∧ (Int32.ofNat 120 = 120) ∧ (Int32.ofNat 144 = 144) ∧ (Int32.ofNat 160 = 160) ∧ (Int32.ofNat 192 = 192) ∧ (Int32.ofNat 200 = 200) ∧ (Int32.ofNat 512 = 512) ∧ (Int32.ofNat 792 = 792) ∧ (Int32.ofNat 2304 = 2304) := by decide +kernel
theorem w_in : (∀ x : Int32, vp_in x 3 = (0 ≤ x ∧ x < 3)) ∧ (∀ x : Int32, vp_in x 4 = (0 ≤ x ∧ x < 4)) ∧ (∀ x : Int32, vp_in x 6 = (0 ≤ x ∧ x < 6)) ∧ (∀ x : Int32, vp_in x 9 = (0 ≤ x ∧ x < 9)) ∧ (∀ x : Int32, vp_in x 12 = (0 ≤ x ∧ x < 12)) ∧ (∀ x : Int32, vp_in x 18 = (0 ≤ x ∧ x < 18)) ∧ (∀ x : Int32, vp_in x 24 = (0 ≤ x ∧ x < 24)) ∧ (∀ x : Int32, vp_in x 30 = (0 ≤ x ∧ x < 30)) ∧ (∀ x : Int32, vp_in x 33 = (0 ≤ x ∧ x < 33)) ∧ (∀ x : Int32, vp_in x 40 = (0 ≤ x ∧ x < 40)) ∧ (∀ x : Int32, vp_in x 41 = (0 ≤ x ∧ x < 41)) ∧ (∀ x : Int32, vp_in x 48 = (0 ≤ x ∧ x < 48)) ∧ (∀ x : Int32, vp_in x 60 = (0 ≤ x ∧ x < 60)) ∧ (∀ x : Int32, vp_in x 120 = (0 ≤ x ∧ x < 120)) ∧ (∀ x : Int32, vp_in x 144 = (0 ≤ x ∧ x < 144)) ∧ (∀ x : Int32, vp_in x 160 = (0 ≤ x ∧ x < 160)) ∧ (∀ x : Int32, vp_in x 192 = (0 ≤ x ∧ x < 192)) ∧ (∀ x : Int32, vp_in x 200 = (0 ≤ x ∧ x < 200)) ∧ (∀ x : Int32, vp_in x 512 = (0 ≤ x ∧ x < 512)) ∧ (∀ x : Int32, vp_in x 792 = (0 ≤ x ∧ x < 792)) ∧ (∀ x : Int32, vp_in x 2304 = (0 ≤ x ∧ x < 2304)) := ⟨fun x => i_in0 (by decide), fun x => i_in0 (by decide), fun x => i_in0 (by decide), fun x => i_in0 (by decide), fun x => i_in0 (by decide), fun x => i_in0 (by decide), fun x => i_in0 (by decide), fun x => i_in0 (by decide), fun x => i_in0 (by decide), fun x => i_in0 (by decide), fun x => i_in0 (by decide), fun x => i_in0 (by decide), fun x => i_in0 (by decide), fun x => i_in0 (by decide), fun x => i_in0 (by decide), fun x => i_in0 (by decide), fun x => i_in0 (by decide), fun x => i_in0 (by decide), fun x => i_in0 (by decide), fun x => i_in0 (by decide), fun x => i_in0 (by decide)⟩

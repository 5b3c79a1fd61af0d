/-! the house and a pledge of any kind: the calls that the pledge answers (by cwalk.py) -/
def sc_kind (pl : pZ) : Int32 := match pl.1 with
  | 0 => sc_X8_kind
  | 1 => sc_X2_kind
  | 2 => sc_X4_kind
  | 3 => sc_X1_kind
  | _ => sc_X6_kind
set_option maxHeartbeats 4000000 in
set_option maxRecDepth 100000 in
theorem vc_kind {p : Program} {l : Launch} {e : Env} {R : Room} {s : State} {m : MethodId} {args : Array Value} {below : List Frame} {meth : Method} {c : Code} {H : Heap} {locs : List Loc} {cells slots : Nat} {Q : State → Prop} {cc : ByteArray} {nL index pc : Nat} {own : String} {Ts : List Cond} {rest st0 : List Value} {ls : Array Slot} {D : va_G} {cs : Nat → ClassId} {q : Nat → Nat} {pl : pZ} (S : CallFix p m c cc nL s args Ts own) (hK : cK D cs s) (hq : va_P D vwCl (wP q cs pl) H) (uX8 : va_CU R s args own RX8 "PledgeHouse$Pledge" index ⟨"PledgeHouse$Pledge", "kind", "()I"⟩ yX8_kind cX8_kind 1 (some .int) wsX8_kind ({ frames := 0, cells := 0, slots := 0, locals := 0 }) 0 0 0) (uX2 : va_CU R s args own RX2 "PledgeHouse$Pledge" index ⟨"PledgeHouse$Pledge", "kind", "()I"⟩ yX2_kind cX2_kind 1 (some .int) wsX2_kind ({ frames := 0, cells := 0, slots := 0, locals := 0 }) 0 0 0) (uX4 : va_CU R s args own RX4 "PledgeHouse$Pledge" index ⟨"PledgeHouse$Pledge", "kind", "()I"⟩ yX4_kind cX4_kind 1 (some .int) wsX4_kind ({ frames := 0, cells := 0, slots := 0, locals := 0 }) 0 0 0) (uX1 : va_CU R s args own RX1 "PledgeHouse$Pledge" index ⟨"PledgeHouse$Pledge", "kind", "()I"⟩ yX1_kind cX1_kind 1 (some .int) wsX1_kind ({ frames := 0, cells := 0, slots := 0, locals := 0 }) 0 0 0) (uX6 : va_CU R s args own RX6 "PledgeHouse$Pledge" index ⟨"PledgeHouse$Pledge", "kind", "()I"⟩ yX6_kind cX6_kind 1 (some .int) wsX6_kind ({ frames := 0, cells := 0, slots := 0, locals := 0 }) 0 0 0) (hsz : ls.size = nL) (hst : st0 = [].reverse ++ .ref (q 0) :: rest) (hW : (rest.map fun v => v.category).sum ≤ 8) (hdg : decode cc pc = .ok (.invokevirtual index, 3)) (hf : cells ≤ R.cells ∧ slots ≤ R.slots)
    (kk : W p l e R s m args below meth c H locs cells slots Q (F0 m (pc + 3) ls (.int (sc_kind pl) :: rest))) : W p l e R s m args below meth c H locs cells slots Q (F0 m pc ls st0) := by
  obtain ⟨k0, v, w⟩ := pl
  match k0 with
  | 0 => exact c_r1 (rest := rest) (va_runU S (As := []) (cC_X8_kind l D cs (q 0) _ H.size) uX8 (preV_c hK hq (va_recv hK.1 hq (ci := 7) (q0 := 0) rfl rfl)) rfl rfl hsz hst (lv_room hW) hdg hf) (fun _ h => h) kk
  | 1 => exact c_r1 (rest := rest) (va_runU S (As := []) (cC_X2_kind l D cs (q 0) _ H.size) uX2 (preV_c hK hq (va_recv hK.1 hq (ci := 2) (q0 := 0) rfl rfl)) rfl rfl hsz hst (lv_room hW) hdg hf) (fun _ h => h) kk
  | 2 => exact c_r1 (rest := rest) (va_runU S (As := []) (cC_X4_kind l D cs (q 0) _ H.size) uX4 (preV_c hK hq (va_recv hK.1 hq (ci := 4) (q0 := 0) rfl rfl)) rfl rfl hsz hst (lv_room hW) hdg hf) (fun _ h => h) kk
  | 3 => exact c_r1 (rest := rest) (va_runU S (As := []) (cC_X1_kind l D cs (q 0) _ H.size) uX1 (preV_c hK hq (va_recv hK.1 hq (ci := 1) (q0 := 0) rfl rfl)) rfl rfl hsz hst (lv_room hW) hdg hf) (fun _ h => h) kk
  | n + 4 => exact c_r1 (rest := rest) (va_runU S (As := []) (cC_X6_kind l D cs (q 0) _ H.size) uX6 (preV_c hK hq (va_recv hK.1 hq (ci := 5) (q0 := 0) rfl rfl)) rfl rfl hsz hst (lv_room hW) hdg hf) (fun _ h => h) kk
def sc_worth (pl : pZ) (today : Int32) (price : Int32) : Int32 := match pl.1 with
  | 0 => sc_X8_worth pl.2.1 today price
  | 1 => sc_X2_worth pl.2.1 today price
  | 2 => sc_X4_worth pl.2.1 today price
  | 3 => sc_X1_worth pl.2.1 today price
  | _ => sc_X6_worth pl.2.1 today price
set_option maxHeartbeats 4000000 in
set_option maxRecDepth 100000 in
theorem vc_worth {p : Program} {l : Launch} {e : Env} {R : Room} {s : State} {m : MethodId} {args : Array Value} {below : List Frame} {meth : Method} {c : Code} {H : Heap} {locs : List Loc} {cells slots : Nat} {Q : State → Prop} {cc : ByteArray} {nL index pc : Nat} {own : String} {Ts : List Cond} {rest st0 : List Value} {ls : Array Slot} {D : va_G} {cs : Nat → ClassId} {q : Nat → Nat} {pl : pZ} (today : Int32) (price : Int32) (S : CallFix p m c cc nL s args Ts own) (hK : cK D cs s) (hq : va_P D vwCl (wP q cs pl) H) (uX8 : va_CU R s args own RX8 "PledgeHouse$Pledge" index ⟨"PledgeHouse$Pledge", "worth", "(II)I"⟩ yX8_worth cX8_worth 3 (some .int) wsX8_worth ({ frames := 0, cells := 0, slots := 0, locals := 0 }) 0 0 2) (uX2 : va_CU R s args own RX2 "PledgeHouse$Pledge" index ⟨"PledgeHouse$Pledge", "worth", "(II)I"⟩ yX2_worth cX2_worth 3 (some .int) wsX2_worth ({ frames := 1, cells := 0, slots := 0, locals := 20 }) 0 0 2) (uX4 : va_CU R s args own RX4 "PledgeHouse$Pledge" index ⟨"PledgeHouse$Pledge", "worth", "(II)I"⟩ yX4_worth cX4_worth 5 (some .int) wsX4_worth ({ frames := 0, cells := 0, slots := 0, locals := 0 }) 0 0 2) (uX1 : va_CU R s args own RX1 "PledgeHouse$Pledge" index ⟨"PledgeHouse$Pledge", "worth", "(II)I"⟩ yX1_worth cX1_worth 5 (some .int) wsX1_worth ({ frames := 0, cells := 0, slots := 0, locals := 0 }) 0 0 2) (uX6 : va_CU R s args own RX6 "PledgeHouse$Pledge" index ⟨"PledgeHouse$Pledge", "worth", "(II)I"⟩ yX6_worth cX6_worth 3 (some .int) wsX6_worth ({ frames := 1, cells := 0, slots := 0, locals := 21 }) 0 0 2) (hsz : ls.size = nL) (hst : st0 = [.int today, .int price].reverse ++ .ref (q 0) :: rest) (hW : (rest.map fun v => v.category).sum ≤ 8) (hdg : decode cc pc = .ok (.invokevirtual index, 3)) (hf : cells ≤ R.cells ∧ slots ≤ R.slots)
    (kk : W p l e R s m args below meth c H locs cells slots Q (F0 m (pc + 3) ls (.int (sc_worth pl today price) :: rest))) : W p l e R s m args below meth c H locs cells slots Q (F0 m pc ls st0) := by
  obtain ⟨k0, v, w⟩ := pl
  match k0 with
  | 0 => exact c_r1 (rest := rest) (va_runU S (As := [.int today, .int price]) (cC_X8_worth l D cs q v H.size today price) uX8 (preV_c hK hq (va_recv hK.1 hq (ci := 7) (q0 := 0) rfl rfl)) rfl rfl hsz hst (lv_room hW) hdg hf) (fun _ h => h) kk
  | 1 => exact c_r1 (rest := rest) (va_runU S (As := [.int today, .int price]) (cC_X2_worth l D cs q v H.size today price) uX2 (preV_c hK hq (va_recv hK.1 hq (ci := 2) (q0 := 0) rfl rfl)) rfl rfl hsz hst (lv_room hW) hdg hf) (fun _ h => h) kk
  | 2 => exact c_r1 (rest := rest) (va_runU S (As := [.int today, .int price]) (cC_X4_worth l D cs q v H.size today price) uX4 (preV_c hK hq (va_recv hK.1 hq (ci := 4) (q0 := 0) rfl rfl)) rfl rfl hsz hst (lv_room hW) hdg hf) (fun _ h => h) kk
  | 3 => exact c_r1 (rest := rest) (va_runU S (As := [.int today, .int price]) (cC_X1_worth l D cs q v H.size today price) uX1 (preV_c hK hq (va_recv hK.1 hq (ci := 1) (q0 := 0) rfl rfl)) rfl rfl hsz hst (lv_room hW) hdg hf) (fun _ h => h) kk
  | n + 4 => exact c_r1 (rest := rest) (va_runU S (As := [.int today, .int price]) (cC_X6_worth l D cs q v w H.size today price) uX6 (preV_c hK hq (va_recv hK.1 hq (ci := 5) (q0 := 0) rfl rfl)) rfl rfl hsz hst (lv_room hW) hdg hf) (fun _ h => h) kk
def sc_hundredths (pl : pZ) : Int32 := match pl.1 with
  | 0 => sc_X5_hundredths
  | 1 => sc_X10_hundredths_2 pl.2.1
  | 2 => sc_X5_hundredths
  | 3 => sc_X5_hundredths
  | _ => sc_X10_hundredths_6 pl.2.1
set_option maxHeartbeats 4000000 in
set_option maxRecDepth 100000 in
theorem vc_hundredths {p : Program} {l : Launch} {e : Env} {R : Room} {s : State} {m : MethodId} {args : Array Value} {below : List Frame} {meth : Method} {c : Code} {H : Heap} {locs : List Loc} {cells slots : Nat} {Q : State → Prop} {cc : ByteArray} {nL index pc : Nat} {own : String} {Ts : List Cond} {rest st0 : List Value} {ls : Array Slot} {D : va_G} {cs : Nat → ClassId} {q : Nat → Nat} {pl : pZ} (S : CallFix p m c cc nL s args Ts own) (hK : cK D cs s) (hq : va_P D vwCl (wP q cs pl) H) (uX8 : va_CU R s args own RX8 "PledgeHouse$Pledge" index ⟨"PledgeHouse$Pledge", "hundredths", "()I"⟩ yX5_hundredths cX5_hundredths 1 (some .int) wsX5_hundredths ({ frames := 0, cells := 0, slots := 0, locals := 0 }) 0 0 0) (uX2 : va_CU R s args own RX2 "PledgeHouse$Pledge" index ⟨"PledgeHouse$Pledge", "hundredths", "()I"⟩ yX10_hundredths cX10_hundredths 1 (some .int) wsX10_hundredths ({ frames := 0, cells := 0, slots := 0, locals := 0 }) 0 0 0) (uX4 : va_CU R s args own RX4 "PledgeHouse$Pledge" index ⟨"PledgeHouse$Pledge", "hundredths", "()I"⟩ yX5_hundredths cX5_hundredths 1 (some .int) wsX5_hundredths ({ frames := 0, cells := 0, slots := 0, locals := 0 }) 0 0 0) (uX1 : va_CU R s args own RX1 "PledgeHouse$Pledge" index ⟨"PledgeHouse$Pledge", "hundredths", "()I"⟩ yX5_hundredths cX5_hundredths 1 (some .int) wsX5_hundredths ({ frames := 0, cells := 0, slots := 0, locals := 0 }) 0 0 0) (uX6 : va_CU R s args own RX6 "PledgeHouse$Pledge" index ⟨"PledgeHouse$Pledge", "hundredths", "()I"⟩ yX10_hundredths cX10_hundredths 1 (some .int) wsX10_hundredths ({ frames := 0, cells := 0, slots := 0, locals := 0 }) 0 0 0) (hsz : ls.size = nL) (hst : st0 = [].reverse ++ .ref (q 0) :: rest) (hW : (rest.map fun v => v.category).sum ≤ 8) (hdg : decode cc pc = .ok (.invokevirtual index, 3)) (hf : cells ≤ R.cells ∧ slots ≤ R.slots)
    (kk : W p l e R s m args below meth c H locs cells slots Q (F0 m (pc + 3) ls (.int (sc_hundredths pl) :: rest))) : W p l e R s m args below meth c H locs cells slots Q (F0 m pc ls st0) := by
  obtain ⟨k0, v, w⟩ := pl
  match k0 with
  | 0 => exact c_r1 (rest := rest) (va_runU S (As := []) (cC_X5_hundredths l D cs (q 0) _ H.size) uX8 (preV_c hK hq (va_recv hK.1 hq (ci := 7) (q0 := 0) rfl rfl)) rfl rfl hsz hst (lv_room hW) hdg hf) (fun _ h => h) kk
  | 1 => exact c_r1 (rest := rest) (va_runU S (As := []) (cC_X10_hundredths_2 l D cs q v H.size) uX2 (preV_c hK hq (va_recv hK.1 hq (ci := 2) (q0 := 0) rfl rfl)) rfl rfl hsz hst (lv_room hW) hdg hf) (fun _ h => h) kk
  | 2 => exact c_r1 (rest := rest) (va_runU S (As := []) (cC_X5_hundredths l D cs (q 0) _ H.size) uX4 (preV_c hK hq (va_recv hK.1 hq (ci := 4) (q0 := 0) rfl rfl)) rfl rfl hsz hst (lv_room hW) hdg hf) (fun _ h => h) kk
  | 3 => exact c_r1 (rest := rest) (va_runU S (As := []) (cC_X5_hundredths l D cs (q 0) _ H.size) uX1 (preV_c hK hq (va_recv hK.1 hq (ci := 1) (q0 := 0) rfl rfl)) rfl rfl hsz hst (lv_room hW) hdg hf) (fun _ h => h) kk
  | n + 4 => exact c_r1 (rest := rest) (va_runU S (As := []) (cC_X10_hundredths_6 l D cs q v w H.size) uX6 (preV_c hK hq (va_recv hK.1 hq (ci := 5) (q0 := 0) rfl rfl)) rfl rfl hsz hst (lv_room hW) hdg hf) (fun _ h => h) kk
def sc_leftOver (pl : pZ) : Int32 := match pl.1 with
  | 0 => sc_X5_leftOver
  | 1 => sc_X10_leftOver_2 pl.2.1
  | 2 => sc_X5_leftOver
  | 3 => sc_X5_leftOver
  | _ => sc_X10_leftOver_6 pl.2.1
set_option maxHeartbeats 4000000 in
set_option maxRecDepth 100000 in
theorem vc_leftOver {p : Program} {l : Launch} {e : Env} {R : Room} {s : State} {m : MethodId} {args : Array Value} {below : List Frame} {meth : Method} {c : Code} {H : Heap} {locs : List Loc} {cells slots : Nat} {Q : State → Prop} {cc : ByteArray} {nL index pc : Nat} {own : String} {Ts : List Cond} {rest st0 : List Value} {ls : Array Slot} {D : va_G} {cs : Nat → ClassId} {q : Nat → Nat} {pl : pZ} (S : CallFix p m c cc nL s args Ts own) (hK : cK D cs s) (hq : va_P D vwCl (wP q cs pl) H) (uX8 : va_CU R s args own RX8 "PledgeHouse$Pledge" index ⟨"PledgeHouse$Pledge", "leftOver", "()I"⟩ yX5_leftOver cX5_leftOver 1 (some .int) wsX5_leftOver ({ frames := 0, cells := 0, slots := 0, locals := 0 }) 0 0 0) (uX2 : va_CU R s args own RX2 "PledgeHouse$Pledge" index ⟨"PledgeHouse$Pledge", "leftOver", "()I"⟩ yX10_leftOver cX10_leftOver 1 (some .int) wsX10_leftOver ({ frames := 0, cells := 0, slots := 0, locals := 0 }) 0 0 0) (uX4 : va_CU R s args own RX4 "PledgeHouse$Pledge" index ⟨"PledgeHouse$Pledge", "leftOver", "()I"⟩ yX5_leftOver cX5_leftOver 1 (some .int) wsX5_leftOver ({ frames := 0, cells := 0, slots := 0, locals := 0 }) 0 0 0) (uX1 : va_CU R s args own RX1 "PledgeHouse$Pledge" index ⟨"PledgeHouse$Pledge", "leftOver", "()I"⟩ yX5_leftOver cX5_leftOver 1 (some .int) wsX5_leftOver ({ frames := 0, cells := 0, slots := 0, locals := 0 }) 0 0 0) (uX6 : va_CU R s args own RX6 "PledgeHouse$Pledge" index ⟨"PledgeHouse$Pledge", "leftOver", "()I"⟩ yX10_leftOver cX10_leftOver 1 (some .int) wsX10_leftOver ({ frames := 0, cells := 0, slots := 0, locals := 0 }) 0 0 0) (hsz : ls.size = nL) (hst : st0 = [].reverse ++ .ref (q 0) :: rest) (hW : (rest.map fun v => v.category).sum ≤ 8) (hdg : decode cc pc = .ok (.invokevirtual index, 3)) (hf : cells ≤ R.cells ∧ slots ≤ R.slots)
    (kk : W p l e R s m args below meth c H locs cells slots Q (F0 m (pc + 3) ls (.int (sc_leftOver pl) :: rest))) : W p l e R s m args below meth c H locs cells slots Q (F0 m pc ls st0) := by
  obtain ⟨k0, v, w⟩ := pl
  match k0 with
  | 0 => exact c_r1 (rest := rest) (va_runU S (As := []) (cC_X5_leftOver l D cs (q 0) _ H.size) uX8 (preV_c hK hq (va_recv hK.1 hq (ci := 7) (q0 := 0) rfl rfl)) rfl rfl hsz hst (lv_room hW) hdg hf) (fun _ h => h) kk
  | 1 => exact c_r1 (rest := rest) (va_runU S (As := []) (cC_X10_leftOver_2 l D cs q v H.size) uX2 (preV_c hK hq (va_recv hK.1 hq (ci := 2) (q0 := 0) rfl rfl)) rfl rfl hsz hst (lv_room hW) hdg hf) (fun _ h => h) kk
  | 2 => exact c_r1 (rest := rest) (va_runU S (As := []) (cC_X5_leftOver l D cs (q 0) _ H.size) uX4 (preV_c hK hq (va_recv hK.1 hq (ci := 4) (q0 := 0) rfl rfl)) rfl rfl hsz hst (lv_room hW) hdg hf) (fun _ h => h) kk
  | 3 => exact c_r1 (rest := rest) (va_runU S (As := []) (cC_X5_leftOver l D cs (q 0) _ H.size) uX1 (preV_c hK hq (va_recv hK.1 hq (ci := 1) (q0 := 0) rfl rfl)) rfl rfl hsz hst (lv_room hW) hdg hf) (fun _ h => h) kk
  | n + 4 => exact c_r1 (rest := rest) (va_runU S (As := []) (cC_X10_leftOver_6 l D cs q v w H.size) uX6 (preV_c hK hq (va_recv hK.1 hq (ci := 5) (q0 := 0) rfl rfl)) rfl rfl hsz hst (lv_room hW) hdg hf) (fun _ h => h) kk
def sc_itemCount (pl : pZ) : Int32 := match pl.1 with
  | 0 => sc_X5_itemCount
  | 1 => sc_X5_itemCount
  | 2 => sc_X4_itemCount pl.2.1
  | 3 => sc_X5_itemCount
  | _ => sc_X5_itemCount
set_option maxHeartbeats 4000000 in
set_option maxRecDepth 100000 in
theorem vc_itemCount {p : Program} {l : Launch} {e : Env} {R : Room} {s : State} {m : MethodId} {args : Array Value} {below : List Frame} {meth : Method} {c : Code} {H : Heap} {locs : List Loc} {cells slots : Nat} {Q : State → Prop} {cc : ByteArray} {nL index pc : Nat} {own : String} {Ts : List Cond} {rest st0 : List Value} {ls : Array Slot} {D : va_G} {cs : Nat → ClassId} {q : Nat → Nat} {pl : pZ} (S : CallFix p m c cc nL s args Ts own) (hK : cK D cs s) (hq : va_P D vwCl (wP q cs pl) H) (uX8 : va_CU R s args own RX8 "PledgeHouse$Pledge" index ⟨"PledgeHouse$Pledge", "itemCount", "()I"⟩ yX5_itemCount cX5_itemCount 1 (some .int) wsX5_itemCount ({ frames := 0, cells := 0, slots := 0, locals := 0 }) 0 0 0) (uX2 : va_CU R s args own RX2 "PledgeHouse$Pledge" index ⟨"PledgeHouse$Pledge", "itemCount", "()I"⟩ yX5_itemCount cX5_itemCount 1 (some .int) wsX5_itemCount ({ frames := 0, cells := 0, slots := 0, locals := 0 }) 0 0 0) (uX4 : va_CU R s args own RX4 "PledgeHouse$Pledge" index ⟨"PledgeHouse$Pledge", "itemCount", "()I"⟩ yX4_itemCount cX4_itemCount 3 (some .int) wsX4_itemCount ({ frames := 0, cells := 0, slots := 0, locals := 0 }) 0 0 0) (uX1 : va_CU R s args own RX1 "PledgeHouse$Pledge" index ⟨"PledgeHouse$Pledge", "itemCount", "()I"⟩ yX5_itemCount cX5_itemCount 1 (some .int) wsX5_itemCount ({ frames := 0, cells := 0, slots := 0, locals := 0 }) 0 0 0) (uX6 : va_CU R s args own RX6 "PledgeHouse$Pledge" index ⟨"PledgeHouse$Pledge", "itemCount", "()I"⟩ yX5_itemCount cX5_itemCount 1 (some .int) wsX5_itemCount ({ frames := 0, cells := 0, slots := 0, locals := 0 }) 0 0 0) (hsz : ls.size = nL) (hst : st0 = [].reverse ++ .ref (q 0) :: rest) (hW : (rest.map fun v => v.category).sum ≤ 8) (hdg : decode cc pc = .ok (.invokevirtual index, 3)) (hf : cells ≤ R.cells ∧ slots ≤ R.slots)
    (kk : W p l e R s m args below meth c H locs cells slots Q (F0 m (pc + 3) ls (.int (sc_itemCount pl) :: rest))) : W p l e R s m args below meth c H locs cells slots Q (F0 m pc ls st0) := by
  obtain ⟨k0, v, w⟩ := pl
  match k0 with
  | 0 => exact c_r1 (rest := rest) (va_runU S (As := []) (cC_X5_itemCount l D cs (q 0) _ H.size) uX8 (preV_c hK hq (va_recv hK.1 hq (ci := 7) (q0 := 0) rfl rfl)) rfl rfl hsz hst (lv_room hW) hdg hf) (fun _ h => h) kk
  | 1 => exact c_r1 (rest := rest) (va_runU S (As := []) (cC_X5_itemCount l D cs (q 0) _ H.size) uX2 (preV_c hK hq (va_recv hK.1 hq (ci := 2) (q0 := 0) rfl rfl)) rfl rfl hsz hst (lv_room hW) hdg hf) (fun _ h => h) kk
  | 2 => exact c_r1 (rest := rest) (va_runU S (As := []) (cC_X4_itemCount l D cs q v H.size) uX4 (preV_c hK hq (va_recv hK.1 hq (ci := 4) (q0 := 0) rfl rfl)) rfl rfl hsz hst (lv_room hW) hdg hf) (fun _ h => h) kk
  | 3 => exact c_r1 (rest := rest) (va_runU S (As := []) (cC_X5_itemCount l D cs (q 0) _ H.size) uX1 (preV_c hK hq (va_recv hK.1 hq (ci := 1) (q0 := 0) rfl rfl)) rfl rfl hsz hst (lv_room hW) hdg hf) (fun _ h => h) kk
  | n + 4 => exact c_r1 (rest := rest) (va_runU S (As := []) (cC_X5_itemCount l D cs (q 0) _ H.size) uX6 (preV_c hK hq (va_recv hK.1 hq (ci := 5) (q0 := 0) rfl rfl)) rfl rfl hsz hst (lv_room hW) hdg hf) (fun _ h => h) kk
def sc_tellers (pl : pZ) : Int32 := match pl.1 with
  | 0 => sc_X5_tellers
  | 1 => sc_X5_tellers
  | 2 => sc_X5_tellers
  | 3 => sc_X5_tellers
  | _ => sc_X6_tellers pl.2.1
set_option maxHeartbeats 4000000 in
set_option maxRecDepth 100000 in
theorem vc_tellers {p : Program} {l : Launch} {e : Env} {R : Room} {s : State} {m : MethodId} {args : Array Value} {below : List Frame} {meth : Method} {c : Code} {H : Heap} {locs : List Loc} {cells slots : Nat} {Q : State → Prop} {cc : ByteArray} {nL index pc : Nat} {own : String} {Ts : List Cond} {rest st0 : List Value} {ls : Array Slot} {D : va_G} {cs : Nat → ClassId} {q : Nat → Nat} {pl : pZ} (S : CallFix p m c cc nL s args Ts own) (hK : cK D cs s) (hq : va_P D vwCl (wP q cs pl) H) (uX8 : va_CU R s args own RX8 "PledgeHouse$Pledge" index ⟨"PledgeHouse$Pledge", "tellers", "()I"⟩ yX5_tellers cX5_tellers 1 (some .int) wsX5_tellers ({ frames := 0, cells := 0, slots := 0, locals := 0 }) 0 0 0) (uX2 : va_CU R s args own RX2 "PledgeHouse$Pledge" index ⟨"PledgeHouse$Pledge", "tellers", "()I"⟩ yX5_tellers cX5_tellers 1 (some .int) wsX5_tellers ({ frames := 0, cells := 0, slots := 0, locals := 0 }) 0 0 0) (uX4 : va_CU R s args own RX4 "PledgeHouse$Pledge" index ⟨"PledgeHouse$Pledge", "tellers", "()I"⟩ yX5_tellers cX5_tellers 1 (some .int) wsX5_tellers ({ frames := 0, cells := 0, slots := 0, locals := 0 }) 0 0 0) (uX1 : va_CU R s args own RX1 "PledgeHouse$Pledge" index ⟨"PledgeHouse$Pledge", "tellers", "()I"⟩ yX5_tellers cX5_tellers 1 (some .int) wsX5_tellers ({ frames := 0, cells := 0, slots := 0, locals := 0 }) 0 0 0) (uX6 : va_CU R s args own RX6 "PledgeHouse$Pledge" index ⟨"PledgeHouse$Pledge", "tellers", "()I"⟩ yX6_tellers cX6_tellers 1 (some .int) wsX6_tellers ({ frames := 0, cells := 0, slots := 0, locals := 0 }) 0 0 0) (hsz : ls.size = nL) (hst : st0 = [].reverse ++ .ref (q 0) :: rest) (hW : (rest.map fun v => v.category).sum ≤ 8) (hdg : decode cc pc = .ok (.invokevirtual index, 3)) (hf : cells ≤ R.cells ∧ slots ≤ R.slots)
    (kk : W p l e R s m args below meth c H locs cells slots Q (F0 m (pc + 3) ls (.int (sc_tellers pl) :: rest))) : W p l e R s m args below meth c H locs cells slots Q (F0 m pc ls st0) := by
  obtain ⟨k0, v, w⟩ := pl
  match k0 with
  | 0 => exact c_r1 (rest := rest) (va_runU S (As := []) (cC_X5_tellers l D cs (q 0) _ H.size) uX8 (preV_c hK hq (va_recv hK.1 hq (ci := 7) (q0 := 0) rfl rfl)) rfl rfl hsz hst (lv_room hW) hdg hf) (fun _ h => h) kk
  | 1 => exact c_r1 (rest := rest) (va_runU S (As := []) (cC_X5_tellers l D cs (q 0) _ H.size) uX2 (preV_c hK hq (va_recv hK.1 hq (ci := 2) (q0 := 0) rfl rfl)) rfl rfl hsz hst (lv_room hW) hdg hf) (fun _ h => h) kk
  | 2 => exact c_r1 (rest := rest) (va_runU S (As := []) (cC_X5_tellers l D cs (q 0) _ H.size) uX4 (preV_c hK hq (va_recv hK.1 hq (ci := 4) (q0 := 0) rfl rfl)) rfl rfl hsz hst (lv_room hW) hdg hf) (fun _ h => h) kk
  | 3 => exact c_r1 (rest := rest) (va_runU S (As := []) (cC_X5_tellers l D cs (q 0) _ H.size) uX1 (preV_c hK hq (va_recv hK.1 hq (ci := 1) (q0 := 0) rfl rfl)) rfl rfl hsz hst (lv_room hW) hdg hf) (fun _ h => h) kk
  | n + 4 => exact c_r1 (rest := rest) (va_runU S (As := []) (cC_X6_tellers l D cs q v w H.size) uX6 (preV_c hK hq (va_recv hK.1 hq (ci := 5) (q0 := 0) rfl rfl)) rfl rfl hsz hst (lv_room hW) hdg hf) (fun _ h => h) kk
theorem il_yes {p : Program} {l : Launch} {e : Env} {R : Room} {s : State} {m : MethodId} {args : Array Value} {below : List Frame} {meth : Method} {c : Code} {H : Heap} {locs : List Loc} {cells slots : Nat} {Q : State → Prop} {cc : ByteArray} {index pc : Nat} {own : String} {rest : List Value} {ls : Array Slot} {D : va_G} {cs : Nat → ClassId} {q : Nat → Nat} {pl : pZ} {nm : String} (hnm : nm = "PledgeHouse$Lot") (hx : p.tables.exec = Jvm.exec) (hb : c.code = cc) (hown : s.vm.findClass own = some m.cls) (hlink : (Cond.classLink own index nm).before args s = true) (hK : cK D cs s) (hq : va_P D vwCl (wP q cs pl) H) (hk : pl.1 = 2) (hdg : decode cc pc = .ok (.instanceof index, 3))
    (kk : W p l e R s m args below meth c H locs cells slots Q (F0 m (pc + 3) ls (.int 1 :: rest))) : W p l e R s m args below meth c H locs cells slots Q (F0 m pc ls (.ref (q 0) :: rest)) := by
  subst hnm
  obtain ⟨k0, v, w⟩ := pl
  cases hk
  obtain ⟨-, hfc, kC, hkC, hkind⟩ := hK.1.1 4 _ rfl
  exact va_instS hx hb hown hlink ⟨hfc, kC, hkC, hkind⟩ (va_recv hK.1 hq (ci := 4) (q0 := 0) rfl rfl) hdg kk
theorem ic_yes {p : Program} {l : Launch} {e : Env} {R : Room} {s : State} {m : MethodId} {args : Array Value} {below : List Frame} {meth : Method} {c : Code} {H : Heap} {locs : List Loc} {cells slots : Nat} {Q : State → Prop} {cc : ByteArray} {index pc : Nat} {own : String} {rest : List Value} {ls : Array Slot} {D : va_G} {cs : Nat → ClassId} {q : Nat → Nat} {pl : pZ} {nm : String} (hnm : nm = "PledgeHouse$Lot") (hx : p.tables.exec = Jvm.exec) (hb : c.code = cc) (hown : s.vm.findClass own = some m.cls) (hlink : (Cond.classLink own index nm).before args s = true) (hK : cK D cs s) (hq : va_P D vwCl (wP q cs pl) H) (hk : pl.1 = 2) (hdg : decode cc pc = .ok (.checkcast index, 3))
    (kk : W p l e R s m args below meth c H locs cells slots Q (F0 m (pc + 3) ls (.ref (q 0) :: rest))) : W p l e R s m args below meth c H locs cells slots Q (F0 m pc ls (.ref (q 0) :: rest)) := by
  subst hnm
  obtain ⟨k0, v, w⟩ := pl
  cases hk
  obtain ⟨-, hfc, kC, hkC, hkind⟩ := hK.1.1 4 _ rfl
  exact va_castS hx hb hown hlink ⟨hfc, kC, hkC, hkind⟩ (va_recv hK.1 hq (ci := 4) (q0 := 0) rfl rfl) hdg kk
theorem il_no {p : Program} {l : Launch} {e : Env} {R : Room} {s : State} {m : MethodId} {args : Array Value} {below : List Frame} {meth : Method} {c : Code} {H : Heap} {locs : List Loc} {cells slots : Nat} {Q : State → Prop} {cc : ByteArray} {index pc : Nat} {own : String} {rest : List Value} {ls : Array Slot} {D : va_G} {cs : Nat → ClassId} {q : Nat → Nat} {pl : pZ} {nm : String} (hnm : nm = "PledgeHouse$Lot") (hx : p.tables.exec = Jvm.exec) (hb : c.code = cc) (hown : s.vm.findClass own = some m.cls) (hlink : (Cond.classLink own index nm).before args s = true) (hK : cK D cs s) (hq : va_P D vwCl (wP q cs pl) H) (hk : ¬ pl.1 = 2) (hdg : decode cc pc = .ok (.instanceof index, 3))
    (kk : W p l e R s m args below meth c H locs cells slots Q (F0 m (pc + 3) ls (.int 0 :: rest))) : W p l e R s m args below meth c H locs cells slots Q (F0 m pc ls (.ref (q 0) :: rest)) := by
  subst hnm
  obtain ⟨k0, v, w⟩ := pl
  match k0 with
  | 0 => exact va_instNo hx hb hown hlink (hK.2.2.2.2.1 _ (by decide)) (va_recv hK.1 hq (ci := 7) (q0 := 0) rfl rfl) hdg kk
  | 1 => exact va_instNo hx hb hown hlink (hK.2.2.2.2.1 _ (by decide)) (va_recv hK.1 hq (ci := 2) (q0 := 0) rfl rfl) hdg kk
  | 2 => exact absurd rfl hk
  | 3 => exact va_instNo hx hb hown hlink (hK.2.2.2.2.1 _ (by decide)) (va_recv hK.1 hq (ci := 1) (q0 := 0) rfl rfl) hdg kk
  | n + 4 => exact va_instNo hx hb hown hlink (hK.2.2.2.2.1 _ (by decide)) (va_recv hK.1 hq (ci := 5) (q0 := 0) rfl rfl) hdg kk
theorem ir_no {p : Program} {l : Launch} {e : Env} {R : Room} {s : State} {m : MethodId} {args : Array Value} {below : List Frame} {meth : Method} {c : Code} {H : Heap} {locs : List Loc} {cells slots : Nat} {Q : State → Prop} {cc : ByteArray} {index pc : Nat} {own : String} {rest : List Value} {ls : Array Slot} {D : va_G} {cs : Nat → ClassId} {q : Nat → Nat} {pl : pZ} {nm : String} (hnm : nm = "PledgeHouse$Rare") (hx : p.tables.exec = Jvm.exec) (hb : c.code = cc) (hown : s.vm.findClass own = some m.cls) (hlink : (Cond.classLink own index nm).before args s = true) (hK : cK D cs s) (hq : va_P D vwCl (wP q cs pl) H) (hk : ¬ 4 ≤ pl.1) (hdg : decode cc pc = .ok (.instanceof index, 3))
    (kk : W p l e R s m args below meth c H locs cells slots Q (F0 m (pc + 3) ls (.int 0 :: rest))) : W p l e R s m args below meth c H locs cells slots Q (F0 m pc ls (.ref (q 0) :: rest)) := by
  subst hnm
  obtain ⟨k0, v, w⟩ := pl
  match k0 with
  | 0 => exact va_instNo hx hb hown hlink (hK.2.2.2.2.2.1 _ (by decide)) (va_recv hK.1 hq (ci := 7) (q0 := 0) rfl rfl) hdg kk
  | 1 => exact va_instNo hx hb hown hlink (hK.2.2.2.2.2.1 _ (by decide)) (va_recv hK.1 hq (ci := 2) (q0 := 0) rfl rfl) hdg kk
  | 2 => exact va_instNo hx hb hown hlink (hK.2.2.2.2.2.1 _ (by decide)) (va_recv hK.1 hq (ci := 4) (q0 := 0) rfl rfl) hdg kk
  | 3 => exact va_instNo hx hb hown hlink (hK.2.2.2.2.2.1 _ (by decide)) (va_recv hK.1 hq (ci := 1) (q0 := 0) rfl rfl) hdg kk
  | n + 4 => exact absurd (Nat.le_add_left _ _) hk
theorem ir_yes {p : Program} {l : Launch} {e : Env} {R : Room} {s : State} {m : MethodId} {args : Array Value} {below : List Frame} {meth : Method} {c : Code} {H : Heap} {locs : List Loc} {cells slots : Nat} {Q : State → Prop} {cc : ByteArray} {index pc : Nat} {own : String} {rest : List Value} {ls : Array Slot} {D : va_G} {cs : Nat → ClassId} {q : Nat → Nat} {pl : pZ} {nm : String} (hnm : nm = "PledgeHouse$Rare") (hx : p.tables.exec = Jvm.exec) (hb : c.code = cc) (hown : s.vm.findClass own = some m.cls) (hlink : (Cond.classLink own index nm).before args s = true) (hK : cK D cs s) (hq : va_P D vwCl (wP q cs pl) H) (hk : 4 ≤ pl.1) (hdg : decode cc pc = .ok (.instanceof index, 3))
    (kk : W p l e R s m args below meth c H locs cells slots Q (F0 m (pc + 3) ls (.int 1 :: rest))) : W p l e R s m args below meth c H locs cells slots Q (F0 m pc ls (.ref (q 0) :: rest)) := by
  subst hnm
  obtain ⟨k0, v, w⟩ := pl
  match k0, hk with
  | n + 4, _ =>
    obtain ⟨-, hfc, kC, hkC, hkind⟩ := hK.1.1 5 _ rfl
    exact va_instS hx hb hown hlink ⟨hfc, kC, hkC, hkind⟩ (va_recv hK.1 hq (ci := 5) (q0 := 0) rfl rfl) hdg kk
theorem irc_yes {p : Program} {l : Launch} {e : Env} {R : Room} {s : State} {m : MethodId} {args : Array Value} {below : List Frame} {meth : Method} {c : Code} {H : Heap} {locs : List Loc} {cells slots : Nat} {Q : State → Prop} {cc : ByteArray} {index pc : Nat} {own : String} {rest : List Value} {ls : Array Slot} {D : va_G} {cs : Nat → ClassId} {q : Nat → Nat} {pl : pZ} {nm : String} (hnm : nm = "PledgeHouse$Rare") (hx : p.tables.exec = Jvm.exec) (hb : c.code = cc) (hown : s.vm.findClass own = some m.cls) (hlink : (Cond.classLink own index nm).before args s = true) (hK : cK D cs s) (hq : va_P D vwCl (wP q cs pl) H) (hk : 4 ≤ pl.1) (hdg : decode cc pc = .ok (.checkcast index, 3))
    (kk : W p l e R s m args below meth c H locs cells slots Q (F0 m (pc + 3) ls (.ref (q 0) :: rest))) : W p l e R s m args below meth c H locs cells slots Q (F0 m pc ls (.ref (q 0) :: rest)) := by
  subst hnm
  obtain ⟨k0, v, w⟩ := pl
  match k0, hk with
  | n + 4, _ =>
    obtain ⟨-, hfc, kC, hkC, hkind⟩ := hK.1.1 5 _ rfl
    exact va_castS hx hb hown hlink ⟨hfc, kC, hkC, hkind⟩ (va_recv hK.1 hq (ci := 5) (q0 := 0) rfl rfl) hdg kk
theorem any_P {s : State} {H : Heap} {D : va_G} {cs : Nat → ClassId} {q : Nat → Nat} {pl : pZ} (hK : cK D cs s) (hq : va_P D vwCl (wP q cs pl) H) : va_Any "PledgeHouse$Pledge" s H (q 0) := by
  obtain ⟨k0, v, w⟩ := pl
  match k0 with
  | 0 => exact va_rAny hK.1 hq (q0 := 0) (ci := 7) rfl rfl (vb_asgC (hK.2.2.2.1 _ (by decide)))
  | 1 => exact va_rAny hK.1 hq (q0 := 0) (ci := 2) rfl rfl (vb_asgC (hK.2.2.2.1 _ (by decide)))
  | 2 => exact va_rAny hK.1 hq (q0 := 0) (ci := 4) rfl rfl (vb_asgC (hK.2.2.2.1 _ (by decide)))
  | 3 => exact va_rAny hK.1 hq (q0 := 0) (ci := 1) rfl rfl (vb_asgC (hK.2.2.2.1 _ (by decide)))
  | n + 4 => exact va_rAny hK.1 hq (q0 := 0) (ci := 5) rfl rfl (vb_asgC (hK.2.2.2.1 _ (by decide)))
/-- what is new is apart from the old -/
theorem fr1 {Pr : Nat → Prop} {sz n : Nat} (hlt : ∀ x, Pr x → x < sz) (h : sz ≤ n) : ∀ x, Pr x → ¬ p1 n x := fun x h1 h2 => absurd (hlt x h1) (Nat.not_lt.mpr (by rw [show x = n from h2]; exact h))
theorem fr2 {Pr : Nat → Prop} {sz : Nat} {q : Nat → Nat} {pl : pZ} (hlt : ∀ x, Pr x → x < sz) (h : ∀ i, i < 2 → sz ≤ q i) : ∀ x, pP q pl x → ¬ Pr x := fun x h1 h2 => by
  have h3 := hlt x h2
  rcases h1 with h1 | ⟨-, h1⟩
  · have := h 0 (by decide); omega
  · have := h 1 (by decide); omega
theorem pOr_lt {P Q : Nat → Prop} {sz : Nat} (h1 : ∀ x, P x → x < sz) (h2 : ∀ x, Q x → x < sz) : ∀ x, pOr P Q x → x < sz := fun x h => h.elim (h1 x) (h2 x)
theorem nF_n {P : Nat → Prop} : ∀ q, P q → ¬ nFalse q := fun _ _ h => h
/-- a pledge, if there is one -/
def wPo (q : Nat → Nat) (cs : Nat → ClassId) (o : Option pZ) : va_W := match o with
  | none => []
  | some pl => wP q cs pl

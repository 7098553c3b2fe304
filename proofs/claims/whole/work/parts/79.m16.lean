theorem ad_ofWF {l : Launch} {y : MethodName} {ws ws' : List Cond} {rm : Room} {Pc : Array Value → State → Prop} {Qc : Array Value → State → Outcome → State → Prop} {mc ms : Nat} {free : Addr → Prop} {cc : ByteArray} {maxL : Nat} {ret : Option FieldType}
    (hy : plainFor y = true) (hw : ws = Cond.code y cc maxL ret :: ws')
    (body : ∀ p e s m args below meth c s₁, BodyLoose p l y (headSpec ws rm) cc maxL ret e s m args below meth c s₁ → c.maxLocals = maxL → Pc args s →
      W p l e (headSpec ws rm).room s m args below meth c s.heap [] 0 0 (MQ below Qc args s mc ms free) (entryFrame m args maxL)) : Met l y ws rm Pc Qc mc ms free := by
  refine MetFree.of_bodySF (code := cc) (maxLocals := maxL) (ret := ret) hy ?_ ?_
  · intro args s m h hn
    obtain ⟨meth, c, h1, h2, h3, h4, h5, h6, -, -⟩ := Cond.code_spec hn (atoms_spec (ws := ws) h _ (by rw [hw]; exact List.mem_cons_self))
    exact ⟨meth, c, h1, h2, h3, h4, h5, h6⟩
  · intro p e s m args below meth c s₁ B hml hP _
    have hh0 : s₁.heap = s.heap := by rw [B.state]; rfl
    obtain ⟨t, a1, o, b1, b2, b3⟩ := body p e s m args below meth c s₁ B hml hP s₁ hh0 (Stand.of_body B)
    exact ⟨t, o, a1, b1, b2, ⟨b3.1, b3.2⟩⟩
theorem CT.startF {l : Launch} {D : va_G} {K : Nat → ClassId} {z0 : Nat} {y : MethodName} {cc : ByteArray} {nL : Nat} {ret : Option FieldType} {rm : Room} {avs : List Value} {ws : va_W} {Ps : Option Value → va_W → Prop} (own nm : String) (hy : plainFor y = true) (ho : y.cls = own) (hnm : y.name = nm) (hn : (lg_sl avs).length ≤ nL)
    (body : ∀ (p : Program) (e : Env) (s : State) (m : MethodId) (args : Array Value) (below : List Frame) (meth : Method) (c : Code) (A : Nat → Prop) (Q : State → Prop) (ls : Array Slot), ad_F p s m args meth c own nm cc nL ret D K z0 A → ad_G D A s.heap s.heap [] ws → ad_R below D A args s rm.cells rm.slots Ps Q → lv_has ls nL (lv_args 0 avs) →
      W p l e rm s m args below meth c s.heap [] 0 0 Q (F0 m 0 ls [])) : CT l D K z0 y cc nL ret rm avs ws Ps := by
  intro sz
  refine ad_ofWF (cc := cc) (maxL := nL) (ret := ret) hy rfl ?_
  intro p e s m args below meth c s₁ B hml hv
  obtain ⟨rfl, hp⟩ := hv
  have hsz := hp.1
  subst hsz
  obtain ⟨F, G⟩ := ad_pre_of B hml hp
  subst ho
  subst hnm
  rw [lg_entry_eq]
  exact body p e s m avs.toArray below meth c (va_A ws s.heap.size) _ _ F G (fun t h => h) (lv_entry avs hn)
/-- two rows differ somewhere below k -/
def difE (x : Int) (vs ws : List Vw) (k : Int) : Prop := ∃ z : Int, 0 ≤ z ∧ z < k ∧ cmpI (elF x vs z) (elF x ws z) ≠ 0
theorem tkV_0 (vs ws : List Vw) : tkV vs ws 0 = vs := by simp [tkV]
theorem dif_int {x : Int} (hx : x ≠ 0) {vs ws : List Vw} {i : Int} (h1 : 0 ≤ (vget vs i).1 ∧ (vget vs i).1 ≤ 46 ∧ ∃ b : Int, 1 ≤ b ∧ b ≤ 24 ∧ (vget vs i).2 = shr (vget vs i).1 b) (h2 : 0 ≤ (vget ws i).1 ∧ (vget ws i).1 ≤ 46 ∧ ∃ b : Int, 1 ≤ b ∧ b ≤ 24 ∧ (vget ws i).2 = shr (vget ws i).1 b) : cmpI (elF x vs i) (elF x ws i) ≠ 0 ↔ (vget vs i).1 ≠ (vget ws i).1 := by
  rw [elF, elF, if_neg hx, if_neg hx]
  exact not_congr (cmp_int ⟨h1.1, h1.2.1⟩ ⟨h2.1, h2.2.1⟩)
theorem cmp_sh {v : Vw} (h : 0 ≤ v.1 ∧ v.1 ≤ 46 ∧ ∃ b : Int, 1 ≤ b ∧ b ≤ 24 ∧ v.2 = shr v.1 b) : cmpI v.2 v.2 = 0 := by
  have key : ∀ (x : Fin 47) (y : Fin 25), 1 ≤ y.1 → cmpI (shr (x.1 : Int) (y.1 : Int)) (shr (x.1 : Int) (y.1 : Int)) = 0 := by decide +kernel
  obtain ⟨h0, h1, b, b0, b1, e⟩ := h
  rw [e]
  obtain ⟨n, hn⟩ := Int.eq_ofNat_of_zero_le h0
  obtain ⟨m, hm⟩ := Int.eq_ofNat_of_zero_le (show 0 ≤ b by omega)
  rw [hn, hm]
  exact key ⟨n, by omega⟩ ⟨m, by omega⟩ (by show 1 ≤ m; omega)
def rm_Jxf58ca_isNaN_12338 : Room := { frames := 1, cells := 0, slots := 0, locals := 12 }
set_option maxHeartbeats 4000000 in
set_option maxRecDepth 100000 in
theorem c_Jxf58ca_isNaN_12338 (l : Launch) (D : va_G) (K : Nat → ClassId) (z0 : Nat) (x : UInt32) (hx : cmpI x x = 0) : CT l D K z0 yJxf58ca_isNaN_12338 cJxf58ca_isNaN_12338 1 (some .boolean) rm_Jxf58ca_isNaN_12338 [.float x] [] (fun v9 u9 => v9 = some (.int (iI 0)) ∧ u9 = []) := by
  refine CT.startF RJxf58ca "isNaN" (by decide +kernel) rfl rfl (Nat.le_of_ble_eq_true rfl) ?_
  intro p9 e9 s9 m9 ag9 bl9 mt9 c9 A9 Q9 ls F G hR hl
  have hl : lv_has ls 1 [(0, .float x)] := hl
  refine lv_fload_n F.1 F.2.1 dJxf58ca_isNaN_12338_0 rfl (lv_at hl 0 rfl) ?_
  refine lv_fload_n F.1 F.2.1 dJxf58ca_isNaN_12338_1 rfl (lv_at hl 0 rfl) ?_
  refine lv_fcmp F.1 F.2.1 dJxf58ca_isNaN_12338_2 ?_
  refine ad_top32 (y := cmpI x x) (iI_of _) ?_
  refine ad_if_eq (tgt := 10) F (cmpI_r _ _) dJxf58ca_isNaN_12338_3 (by decide) (fun cc_1 => ?_) (fun cc_1 => ?_)
  · refine ad_iconst F dJxf58ca_isNaN_12338_10 ?_
    exact ad_zreturn F G hR rfl (Nat.le_of_ble_eq_true rfl) (Nat.le_of_ble_eq_true rfl) rfl ⟨rfl, rfl⟩ dJxf58ca_isNaN_12338_11
  · exact absurd cc_1 (by omega)

def rm_Jxf58ca_floatToIntBits_5c35a : Room := { frames := 2, cells := 0, slots := 0, locals := 32 }
set_option maxHeartbeats 4000000 in
set_option maxRecDepth 100000 in
theorem c_Jxf58ca_floatToIntBits_5c35a (l : Launch) (D : va_G) (K : Nat → ClassId) (z0 : Nat) (x : UInt32) (hx : cmpI x x = 0) : CT l D K z0 yJxf58ca_floatToIntBits_5c35a cJxf58ca_floatToIntBits_5c35a 1 (some .int) rm_Jxf58ca_floatToIntBits_5c35a [.float x] [] (fun v9 u9 => v9 = some (.int (iI x.toInt32.toInt)) ∧ u9 = []) := by
  refine CT.startF RJxf58ca "floatToIntBits" (by decide +kernel) rfl rfl (Nat.le_of_ble_eq_true rfl) ?_
  intro p9 e9 s9 m9 ag9 bl9 mt9 c9 A9 Q9 ls F G hR hl
  have hl : lv_has ls 1 [(0, .float x)] := hl
  refine lv_fload_n F.1 F.2.1 dJxf58ca_floatToIntBits_5c35a_0 rfl (lv_at hl 0 rfl) ?_
  refine ad_callS (As := [.float x]) (rest := []) F G (c_Jxf58ca_isNaN_12338 l D K z0 x hx) my_Jxf58ca_isNaN_12338 ms_Jxf58ca_59 (wr := []) (isC := []) (isR := []) ⟨rfl, rfl, rfl, rfl, by decide⟩ rfl rfl ⟨Nat.le_of_ble_eq_true rfl, Nat.le_of_ble_eq_true rfl⟩ ⟨Nat.le_of_ble_eq_true rfl, Nat.le_of_ble_eq_true rfl⟩ (Nat.le_of_ble_eq_true rfl) hl.1 (cells9 := 0) (slots9 := 0) ⟨rfl, rfl⟩ dJxf58ca_floatToIntBits_5c35a_1 (fun v u H locs hw_1 G => ?_)
  obtain ⟨rfl, rfl⟩ := hw_1
  replace G := G.perm (ws' := []) [] rfl rfl
  refine W.eq (g2 := F0 m9 4 ls [.int (iI 0)]) rfl ?_
  refine ad_if_ne (tgt := 12) F (by decide) dJxf58ca_floatToIntBits_5c35a_4 (by decide) (fun cc_2 => absurd cc_2 (by decide)) (fun _ => ?_)
  refine lv_fload_n F.1 F.2.1 dJxf58ca_floatToIntBits_5c35a_7 rfl (lv_at hl 0 rfl) ?_
  refine vn_f2i F.1 F.2.1 (F.2.2.2.1.trans hl.1.symm) F.2.2.2.2.1 (F.in (ad_mt (List.mem_of_getElem? (i := 1713) (by decide +kernel)) (by decide +kernel))) (F.in (ad_mt (List.mem_of_getElem? (i := 1715) (by decide +kernel)) (by decide +kernel))) (F.in (ad_mt (List.mem_of_getElem? (i := 1714) (by decide +kernel)) (by decide +kernel))) (F.in (ad_mt (List.mem_of_getElem? (i := 27) (by decide +kernel)) (by decide +kernel))) (Nat.le_of_ble_eq_true rfl) (Nat.le_of_ble_eq_true rfl) dJxf58ca_floatToIntBits_5c35a_8 ?_
  refine ad_top32 (y := (x).toInt32.toInt) (iI_of _) ?_
  exact ad_ireturn F G hR rfl (Nat.le_of_ble_eq_true rfl) (Nat.le_of_ble_eq_true rfl) ⟨rfl, rfl⟩ dJxf58ca_floatToIntBits_5c35a_11

def rm_X11_storeLengths_0 : Room := { frames := 3, cells := 0, slots := 0, locals := 54 }
set_option maxHeartbeats 4000000 in
set_option maxRecDepth 100000 in
theorem c_X11_storeLengths_0 (l : Launch) (D : va_G) (K : Nat → ClassId) (z0 : Nat) (m0 : Nat) (M : Nat → Nat) (xth : Int) (xrm : Int) (xsv : Int) (xln : Int) (xat : Int) (xer : Int) (xwr : Int) (xwd : Int) (xlo : Int) (xhi : Int) (xwl : Int) (xml : Int) (xkl : Int) (xfi : Int) (xse : Int) (xdn : Int) (xon : Int) (xtw : Int) (xol : Int) (xgl : Int) (xus : Int) (xpr : Int) (xmk : Int) (xab : Int) (q1 : Nat → Int) (q2 : Nat → Int) (q3 : Nat → Int) (q4 : Nat → Int) (q5 : Nat → Int) (q6 : Nat → Int) (qs : List Wq) (gsz : Nat → Int) (gex : Nat → Int) (ME : Nat → Nat) (MS : Nat → Nat) (gE : Nat → Option Nat) (gS : Nat → Option Nat) (e0 : Nat → Int) (e1 : Nat → Int) (s0 : Nat → UInt32) (s1 : Nat → UInt32) (e : Int) (hQ : QRep q1 q2 q3 q4 q5 q6 qs) (hql : qs.length ≤ 50) (hE : ∀ j : Nat, j < 2 → gE j = some (ME j)) (hS : ∀ j : Nat, j < 2 → gS j = some (MS j)) (hq : QOk qs) (he : e = 0 ∨ e = 1) : CT l D K z0 yX11_storeLengths cX11_storeLengths 4 (some .int) rm_X11_storeLengths_0 [.ref m0, .int (iI 0), .int (iI e)] [(m0, mO M xth xrm xsv xln xat xer xwr xwd xlo xhi xwl xml xkl xfi xse xdn xon xtw xol (qs.length : Int) xgl xus xpr xmk xab), (M 32, aI (K 0) 60 q4), (M 33, aI (K 0) 60 q5), (M 45, aI (K 0) 2 gsz), (M 46, aI (K 4) 2 gex), (M 43, aR (K 7) 2 gE), (M 44, aR (K 8) 2 gS), (ME 0, aI (K 0) 60 e0), (ME 1, aI (K 0) 60 e1), (MS 0, aF (K 3) 60 s0), (MS 1, aF (K 3) 60 s1)] (fun v9 u9 => ∃ (gx : Nat → Int), ∃ (gy : Nat → UInt32), v9 = some (.int (iI (qs.length : Int))) ∧ (∀ z : Int, 0 ≤ z → z < qs.length → gx z.toNat = (vget (rowV qs) z).1 ∧ gy z.toNat = (vget (rowV qs) z).2) ∧ u9 = [(m0, mO M 0 xrm xsv xln xat xer xwr xwd xlo xhi xwl xml xkl xfi xse xdn xon xtw xol (qs.length : Int) xgl xus xpr xmk xab), (M 32, aI (K 0) 60 q4), (M 33, aI (K 0) 60 q5), (M 45, aI (K 0) 2 (va_up gsz (0 : Int).toNat (qs.length : Int))), (M 46, aI (K 4) 2 (va_up gex (0 : Int).toNat e)), (M 43, aR (K 7) 2 gE), (M 44, aR (K 8) 2 gS), (ME 0, aI (K 0) 60 gx), (ME 1, aI (K 0) 60 e1), (MS 0, aF (K 3) 60 gy), (MS 1, aF (K 3) 60 s1)]) := by
  refine CT.start RX11 "storeLengths" (by decide) rfl rfl (Nat.le_of_ble_eq_true rfl) ?_
  intro p9 e9 s9 m9 ag9 bl9 mt9 c9 A9 Q9 ls F G hR hl
  have hl : lv_has ls 4 [(0, .ref m0), (1, .int (iI 0)), (2, .int (iI e))] := hl
  refine lv_aload_n F.1 F.2.1 dX11_storeLengths_0 rfl (lv_at hl 0 rfl) ?_
  refine ad_iconst F dX11_storeLengths_1 ?_
  refine lv_iload_n F.1 F.2.1 dX11_storeLengths_2 rfl (lv_at hl 1 rfl) ?_
  refine ad_callS (As := [.int (iI 0)]) (rest := [.int (iI 1), .ref m0]) F G (c_X11_isRow l D K z0 0 (by omega)) my_X11_isRow ms_X11_345 (wr := [(m0, mO M xth xrm xsv xln xat xer xwr xwd xlo xhi xwl xml xkl xfi xse xdn xon xtw xol (qs.length : Int) xgl xus xpr xmk xab), (M 32, aI (K 0) 60 q4), (M 33, aI (K 0) 60 q5), (M 45, aI (K 0) 2 gsz), (M 46, aI (K 4) 2 gex), (M 43, aR (K 7) 2 gE), (M 44, aR (K 8) 2 gS), (ME 0, aI (K 0) 60 e0), (ME 1, aI (K 0) 60 e1), (MS 0, aF (K 3) 60 s0), (MS 1, aF (K 3) 60 s1)]) (isC := []) (isR := [0, 1, 2, 3, 4, 5, 6, 7, 8, 9, 10]) ⟨rfl, rfl, rfl, rfl, by decide⟩ rfl rfl ⟨Nat.le_of_ble_eq_true rfl, Nat.le_of_ble_eq_true rfl⟩ ⟨Nat.le_of_ble_eq_true rfl, Nat.le_of_ble_eq_true rfl⟩ (Nat.le_of_ble_eq_true rfl) hl.1 (cells9 := 0) (slots9 := 0) ⟨rfl, rfl⟩ dX11_storeLengths_3 (fun v u H locs hw_1 G => ?_)
  rcases hw_1 with ⟨rfl, hc_2, rfl⟩ | ⟨rfl, hc_3, rfl⟩
  · replace G := G.perm (ws' := [(m0, mO M xth xrm xsv xln xat xer xwr xwd xlo xhi xwl xml xkl xfi xse xdn xon xtw xol (qs.length : Int) xgl xus xpr xmk xab), (M 32, aI (K 0) 60 q4), (M 33, aI (K 0) 60 q5), (M 45, aI (K 0) 2 gsz), (M 46, aI (K 4) 2 gex), (M 43, aR (K 7) 2 gE), (M 44, aR (K 8) 2 gS), (ME 0, aI (K 0) 60 e0), (ME 1, aI (K 0) 60 e1), (MS 0, aF (K 3) 60 s0), (MS 1, aF (K 3) 60 s1)]) [0, 1, 2, 3, 4, 5, 6, 7, 8, 9, 10] rfl rfl
    refine W.eq (g2 := F0 m9 6 ls [.int (iI 1), .int (iI 1), .ref m0]) rfl ?_
    refine ad_if_ne (tgt := 13) F (by decide) dX11_storeLengths_6 (by decide) (fun _ => ?_) (fun cc_4 => absurd cc_4 (by decide))
    refine ad_iconst F dX11_storeLengths_13 ?_
    refine ad_callV (As := [.int (iI 1), .int (iI 0)]) (rest := []) F G (c_X11_fails_0 l D K z0 m0 M xth xrm xsv xln xat xer xwr xwd xlo xhi xwl xml xkl xfi xse xdn xon xtw xol (qs.length : Int) xgl xus xpr xmk xab 1 (by omega)) my_X11_fails mv_X11_111 (wr := [(M 32, aI (K 0) 60 q4), (M 33, aI (K 0) 60 q5), (M 45, aI (K 0) 2 gsz), (M 46, aI (K 4) 2 gex), (M 43, aR (K 7) 2 gE), (M 44, aR (K 8) 2 gS), (ME 0, aI (K 0) 60 e0), (ME 1, aI (K 0) 60 e1), (MS 0, aF (K 3) 60 s0), (MS 1, aF (K 3) 60 s1)]) (isC := [0]) (isR := [1, 2, 3, 4, 5, 6, 7, 8, 9, 10]) ⟨rfl, rfl, rfl, rfl, by decide⟩ 11 0 rfl rfl rfl rfl ⟨Nat.le_of_ble_eq_true rfl, Nat.le_of_ble_eq_true rfl⟩ ⟨Nat.le_of_ble_eq_true rfl, Nat.le_of_ble_eq_true rfl⟩ (Nat.le_of_ble_eq_true rfl) hl.1 (cells9 := 0) (slots9 := 0) ⟨rfl, rfl⟩ dX11_storeLengths_14 (fun v u H locs hw_5 G => ?_)
    obtain ⟨rfl, rfl⟩ := hw_5
    replace G := G.perm (ws' := [(m0, mO M 0 xrm xsv xln xat xer xwr xwd xlo xhi xwl xml xkl xfi xse xdn xon xtw xol (qs.length : Int) xgl xus xpr xmk xab), (M 32, aI (K 0) 60 q4), (M 33, aI (K 0) 60 q5), (M 45, aI (K 0) 2 gsz), (M 46, aI (K 4) 2 gex), (M 43, aR (K 7) 2 gE), (M 44, aR (K 8) 2 gS), (ME 0, aI (K 0) 60 e0), (ME 1, aI (K 0) 60 e1), (MS 0, aF (K 3) 60 s0), (MS 1, aF (K 3) 60 s1)]) [10, 0, 1, 2, 3, 4, 5, 6, 7, 8, 9] rfl rfl
    refine W.eq (g2 := F0 m9 17 ls [.int (iI 0)]) rfl ?_
    refine ad_if_ne (tgt := 32) F (by decide) dX11_storeLengths_17 (by decide) (fun cc_6 => absurd cc_6 (by decide)) (fun _ => ?_)
    refine lv_aload_n F.1 F.2.1 dX11_storeLengths_20 rfl (lv_at hl 0 rfl) ?_
    refine ad_iconst F dX11_storeLengths_21 ?_
    refine lv_aload_n F.1 F.2.1 dX11_storeLengths_22 rfl (lv_at hl 0 rfl) ?_
    refine ad_callV (As := []) (rest := [.int (iI 2), .ref m0]) F G (c_X11_hasNone l D K z0 m0 M 0 xrm xsv xln xat xer xwr xwd xlo xhi xwl xml xkl xfi xse xdn xon xtw xol (qs.length : Int) xgl xus xpr xmk xab (by omega)) my_X11_hasNone mv_X11_342 (wr := [(M 32, aI (K 0) 60 q4), (M 33, aI (K 0) 60 q5), (M 45, aI (K 0) 2 gsz), (M 46, aI (K 4) 2 gex), (M 43, aR (K 7) 2 gE), (M 44, aR (K 8) 2 gS), (ME 0, aI (K 0) 60 e0), (ME 1, aI (K 0) 60 e1), (MS 0, aF (K 3) 60 s0), (MS 1, aF (K 3) 60 s1)]) (isC := [0]) (isR := [1, 2, 3, 4, 5, 6, 7, 8, 9, 10]) ⟨rfl, rfl, rfl, rfl, by decide⟩ 11 0 rfl rfl rfl rfl ⟨Nat.le_of_ble_eq_true rfl, Nat.le_of_ble_eq_true rfl⟩ ⟨Nat.le_of_ble_eq_true rfl, Nat.le_of_ble_eq_true rfl⟩ (Nat.le_of_ble_eq_true rfl) hl.1 (cells9 := 0) (slots9 := 0) ⟨rfl, rfl⟩ dX11_storeLengths_23 (fun v u H locs hw_7 G => ?_)
    rcases hw_7 with ⟨rfl, hc_8, rfl⟩ | ⟨rfl, hc_9, rfl⟩
    · replace G := G.perm (ws' := [(m0, mO M 0 xrm xsv xln xat xer xwr xwd xlo xhi xwl xml xkl xfi xse xdn xon xtw xol (qs.length : Int) xgl xus xpr xmk xab), (M 32, aI (K 0) 60 q4), (M 33, aI (K 0) 60 q5), (M 45, aI (K 0) 2 gsz), (M 46, aI (K 4) 2 gex), (M 43, aR (K 7) 2 gE), (M 44, aR (K 8) 2 gS), (ME 0, aI (K 0) 60 e0), (ME 1, aI (K 0) 60 e1), (MS 0, aF (K 3) 60 s0), (MS 1, aF (K 3) 60 s1)]) [10, 0, 1, 2, 3, 4, 5, 6, 7, 8, 9] rfl rfl
      refine W.eq (g2 := F0 m9 26 ls [.int (iI 1), .int (iI 2), .ref m0]) rfl ?_
      exfalso; omega
    · replace G := G.perm (ws' := [(m0, mO M 0 xrm xsv xln xat xer xwr xwd xlo xhi xwl xml xkl xfi xse xdn xon xtw xol (qs.length : Int) xgl xus xpr xmk xab), (M 32, aI (K 0) 60 q4), (M 33, aI (K 0) 60 q5), (M 45, aI (K 0) 2 gsz), (M 46, aI (K 4) 2 gex), (M 43, aR (K 7) 2 gE), (M 44, aR (K 8) 2 gS), (ME 0, aI (K 0) 60 e0), (ME 1, aI (K 0) 60 e1), (MS 0, aF (K 3) 60 s0), (MS 1, aF (K 3) 60 s1)]) [10, 0, 1, 2, 3, 4, 5, 6, 7, 8, 9] rfl rfl
      refine W.eq (g2 := F0 m9 26 ls [.int (iI 0), .int (iI 2), .ref m0]) rfl ?_
      refine ad_callV (As := [.int (iI 2), .int (iI 0)]) (rest := []) F G (c_X11_fails_0 l D K z0 m0 M 0 xrm xsv xln xat xer xwr xwd xlo xhi xwl xml xkl xfi xse xdn xon xtw xol (qs.length : Int) xgl xus xpr xmk xab 2 (by omega)) my_X11_fails mv_X11_111 (wr := [(M 32, aI (K 0) 60 q4), (M 33, aI (K 0) 60 q5), (M 45, aI (K 0) 2 gsz), (M 46, aI (K 4) 2 gex), (M 43, aR (K 7) 2 gE), (M 44, aR (K 8) 2 gS), (ME 0, aI (K 0) 60 e0), (ME 1, aI (K 0) 60 e1), (MS 0, aF (K 3) 60 s0), (MS 1, aF (K 3) 60 s1)]) (isC := [0]) (isR := [1, 2, 3, 4, 5, 6, 7, 8, 9, 10]) ⟨rfl, rfl, rfl, rfl, by decide⟩ 11 0 rfl rfl rfl rfl ⟨Nat.le_of_ble_eq_true rfl, Nat.le_of_ble_eq_true rfl⟩ ⟨Nat.le_of_ble_eq_true rfl, Nat.le_of_ble_eq_true rfl⟩ (Nat.le_of_ble_eq_true rfl) hl.1 (cells9 := 0) (slots9 := 0) ⟨rfl, rfl⟩ dX11_storeLengths_26 (fun v u H locs hw_10 G => ?_)
      obtain ⟨rfl, rfl⟩ := hw_10
      replace G := G.perm (ws' := [(m0, mO M 0 xrm xsv xln xat xer xwr xwd xlo xhi xwl xml xkl xfi xse xdn xon xtw xol (qs.length : Int) xgl xus xpr xmk xab), (M 32, aI (K 0) 60 q4), (M 33, aI (K 0) 60 q5), (M 45, aI (K 0) 2 gsz), (M 46, aI (K 4) 2 gex), (M 43, aR (K 7) 2 gE), (M 44, aR (K 8) 2 gS), (ME 0, aI (K 0) 60 e0), (ME 1, aI (K 0) 60 e1), (MS 0, aF (K 3) 60 s0), (MS 1, aF (K 3) 60 s1)]) [10, 0, 1, 2, 3, 4, 5, 6, 7, 8, 9] rfl rfl
      refine W.eq (g2 := F0 m9 29 ls [.int (iI 0)]) rfl ?_
      refine ad_if_eq (tgt := 34) F (by decide) dX11_storeLengths_29 (by decide) (fun _ => ?_) (fun cc_11 => absurd cc_11 (by decide))
      refine lv_aload_n F.1 F.2.1 dX11_storeLengths_34 rfl (lv_at hl 0 rfl) ?_
      refine ad_get F G fl_X11_83 0 rfl rfl dX11_storeLengths_35 ?_
      refine lv_iload_n F.1 F.2.1 dX11_storeLengths_38 rfl (lv_at hl 1 rfl) ?_
      refine lv_aload_n F.1 F.2.1 dX11_storeLengths_39 rfl (lv_at hl 0 rfl) ?_
      refine ad_get F G fl_X11_72 0 rfl rfl dX11_storeLengths_40 ?_
      refine ad_iast F G 3 rfl (by omega) (ws' := [(m0, mO M 0 xrm xsv xln xat xer xwr xwd xlo xhi xwl xml xkl xfi xse xdn xon xtw xol (qs.length : Int) xgl xus xpr xmk xab), (M 32, aI (K 0) 60 q4), (M 33, aI (K 0) 60 q5), (M 45, aI (K 0) 2 (va_up gsz (0 : Int).toNat (qs.length : Int))), (M 46, aI (K 4) 2 gex), (M 43, aR (K 7) 2 gE), (M 44, aR (K 8) 2 gS), (ME 0, aI (K 0) 60 e0), (ME 1, aI (K 0) 60 e1), (MS 0, aF (K 3) 60 s0), (MS 1, aF (K 3) 60 s1)]) rfl dX11_storeLengths_43 (fun H locs G => ?_)
      refine lv_aload_n F.1 F.2.1 dX11_storeLengths_44 rfl (lv_at hl 0 rfl) ?_
      refine ad_get F G fl_X11_86 0 rfl rfl dX11_storeLengths_45 ?_
      refine lv_iload_n F.1 F.2.1 dX11_storeLengths_48 rfl (lv_at hl 1 rfl) ?_
      refine lv_iload_n F.1 F.2.1 dX11_storeLengths_49 rfl (lv_at hl 2 rfl) ?_
      refine ad_zast F G 4 rfl (by omega) (by omega) (ws' := [(m0, mO M 0 xrm xsv xln xat xer xwr xwd xlo xhi xwl xml xkl xfi xse xdn xon xtw xol (qs.length : Int) xgl xus xpr xmk xab), (M 32, aI (K 0) 60 q4), (M 33, aI (K 0) 60 q5), (M 45, aI (K 0) 2 (va_up gsz (0 : Int).toNat (qs.length : Int))), (M 46, aI (K 4) 2 (va_up gex (0 : Int).toNat e)), (M 43, aR (K 7) 2 gE), (M 44, aR (K 8) 2 gS), (ME 0, aI (K 0) 60 e0), (ME 1, aI (K 0) 60 e1), (MS 0, aF (K 3) 60 s0), (MS 1, aF (K 3) 60 s1)]) rfl dX11_storeLengths_50 (fun H locs G => ?_)
      refine ad_iconst F dX11_storeLengths_51 ?_
      refine lv_istore_n (lv' := [(3, .int (iI 0)), (0, .ref m0), (1, .int (iI 0)), (2, .int (iI e))]) F.1 F.2.1 dX11_storeLengths_52 rfl hl (by decide) rfl (fun ls hl => ?_)
      have lp53 : ∀ (n53 : Nat) (k : Int) (gx : Nat → Int) (gy : Nat → UInt32) (H : Heap) (locs : List Loc) (ls : Array Slot), (0 ≤ k ∧ k ≤ qs.length) → (∀ z : Int, 0 ≤ z → z < k → gx z.toNat = (vget (rowV qs) z).1 ∧ gy z.toNat = (vget (rowV qs) z).2) → (qs.length - k) < (n53 : Int) → ad_G D A9 s9.heap H locs [(m0, mO M 0 xrm xsv xln xat xer xwr xwd xlo xhi xwl xml xkl xfi xse xdn xon xtw xol (qs.length : Int) xgl xus xpr xmk xab), (M 32, aI (K 0) 60 q4), (M 33, aI (K 0) 60 q5), (M 45, aI (K 0) 2 (va_up gsz (0 : Int).toNat (qs.length : Int))), (M 46, aI (K 4) 2 (va_up gex (0 : Int).toNat e)), (M 43, aR (K 7) 2 gE), (M 44, aR (K 8) 2 gS), (ME 0, aI (K 0) 60 gx), (ME 1, aI (K 0) 60 e1), (MS 0, aF (K 3) 60 gy), (MS 1, aF (K 3) 60 s1)] → lv_has ls 4 [(0, .ref m0), (1, .int (iI 0)), (2, .int (iI e)), (3, .int (iI k))] → W p9 l e9 rm_X11_storeLengths_0 s9 m9 ag9 bl9 mt9 c9 H locs 0 0 Q9 (F0 m9 53 ls []) := by
        intro n53
        induction n53 with
        | zero =>
          intro k gx gy H locs ls hk hv hm53
          exact absurd hm53 (by omega)
        | succ n53 ih53 =>
          intro k gx gy H locs ls hk hv hm53 G hl
          refine lv_iload_n F.1 F.2.1 dX11_storeLengths_53 rfl (lv_at hl 3 rfl) ?_
          refine lv_aload_n F.1 F.2.1 dX11_storeLengths_54 rfl (lv_at hl 0 rfl) ?_
          refine ad_get F G fl_X11_72 0 rfl rfl dX11_storeLengths_55 ?_
          refine ad_icmp_ge (tgt := 104) F (by omega) dX11_storeLengths_58 (by decide) (fun cc_12 => ?_) (fun cc_12 => ?_)
          · refine lv_aload_n F.1 F.2.1 dX11_storeLengths_104 rfl (lv_at hl 0 rfl) ?_
            refine ad_get F G fl_X11_72 0 rfl rfl dX11_storeLengths_105 ?_
            exact ad_ireturn F G hR rfl (Nat.le_of_ble_eq_true rfl) (Nat.le_of_ble_eq_true rfl) ⟨gx, gy, rfl, (fun z h1 h2 => hv z h1 (by omega)), rfl⟩ dX11_storeLengths_108
          · have hqi := hq.2 k (by omega) (by omega)
            refine lv_aload_n F.1 F.2.1 dX11_storeLengths_61 rfl (lv_at hl 0 rfl) ?_
            refine ad_get F G fl_X11_75 0 rfl rfl dX11_storeLengths_62 ?_
            refine lv_iload_n F.1 F.2.1 dX11_storeLengths_65 rfl (lv_at hl 1 rfl) ?_
            refine ad_aaldA F G 5 7 rfl rfl (w := (ME 0)) (by omega) (hE 0 (by decide)) dX11_storeLengths_66 ?_
            refine lv_iload_n F.1 F.2.1 dX11_storeLengths_67 rfl (lv_at hl 3 rfl) ?_
            refine lv_aload_n F.1 F.2.1 dX11_storeLengths_68 rfl (lv_at hl 0 rfl) ?_
            refine ad_get F G fl_X11_63 0 rfl rfl dX11_storeLengths_69 ?_
            refine lv_iload_n F.1 F.2.1 dX11_storeLengths_72 rfl (lv_at hl 3 rfl) ?_
            refine ad_iald F G 2 rfl (w := (qget qs k).2.2.2.2.1) (by omega) (QRep_at hQ (by omega) (by omega)).2.2.2.2.1 dX11_storeLengths_73 ?_
            refine ad_iast F G 7 rfl (by omega) (ws' := [(m0, mO M 0 xrm xsv xln xat xer xwr xwd xlo xhi xwl xml xkl xfi xse xdn xon xtw xol (qs.length : Int) xgl xus xpr xmk xab), (M 32, aI (K 0) 60 q4), (M 33, aI (K 0) 60 q5), (M 45, aI (K 0) 2 (va_up gsz (0 : Int).toNat (qs.length : Int))), (M 46, aI (K 4) 2 (va_up gex (0 : Int).toNat e)), (M 43, aR (K 7) 2 gE), (M 44, aR (K 8) 2 gS), (ME 0, aI (K 0) 60 (va_up gx k.toNat ((qget qs k).2.2.2.2.1))), (ME 1, aI (K 0) 60 e1), (MS 0, aF (K 3) 60 gy), (MS 1, aF (K 3) 60 s1)]) rfl dX11_storeLengths_74 (fun H locs G => ?_)
            refine lv_aload_n F.1 F.2.1 dX11_storeLengths_75 rfl (lv_at hl 0 rfl) ?_
            refine ad_get F G fl_X11_80 0 rfl rfl dX11_storeLengths_76 ?_
            refine lv_iload_n F.1 F.2.1 dX11_storeLengths_79 rfl (lv_at hl 1 rfl) ?_
            refine ad_aaldA F G 6 8 rfl rfl (w := (MS 0)) (by omega) (hS 0 (by decide)) dX11_storeLengths_80 ?_
            refine lv_iload_n F.1 F.2.1 dX11_storeLengths_81 rfl (lv_at hl 3 rfl) ?_
            refine lv_aload_n F.1 F.2.1 dX11_storeLengths_82 rfl (lv_at hl 0 rfl) ?_
            refine ad_get F G fl_X11_63 0 rfl rfl dX11_storeLengths_83 ?_
            refine lv_iload_n F.1 F.2.1 dX11_storeLengths_86 rfl (lv_at hl 3 rfl) ?_
            refine ad_iald F G 2 rfl (w := (qget qs k).2.2.2.2.1) (by omega) (QRep_at hQ (by omega) (by omega)).2.2.2.2.1 dX11_storeLengths_87 ?_
            refine lv_i2f F.1 F.2.1 dX11_storeLengths_88 ?_
            refine lv_aload_n F.1 F.2.1 dX11_storeLengths_89 rfl (lv_at hl 0 rfl) ?_
            refine ad_get F G fl_X11_60 0 rfl rfl dX11_storeLengths_90 ?_
            refine lv_iload_n F.1 F.2.1 dX11_storeLengths_93 rfl (lv_at hl 3 rfl) ?_
            refine ad_iald F G 1 rfl (w := (qget qs k).2.2.2.1) (by omega) (QRep_at hQ (by omega) (by omega)).2.2.2.1 dX11_storeLengths_94 ?_
            refine lv_i2f F.1 F.2.1 dX11_storeLengths_95 ?_
            refine lv_fdiv F.1 F.2.1 dX11_storeLengths_96 (shr_n (by omega) hqi.1) ?_
            refine ad_fast F G 9 rfl (by omega) (ws' := [(m0, mO M 0 xrm xsv xln xat xer xwr xwd xlo xhi xwl xml xkl xfi xse xdn xon xtw xol (qs.length : Int) xgl xus xpr xmk xab), (M 32, aI (K 0) 60 q4), (M 33, aI (K 0) 60 q5), (M 45, aI (K 0) 2 (va_up gsz (0 : Int).toNat (qs.length : Int))), (M 46, aI (K 4) 2 (va_up gex (0 : Int).toNat e)), (M 43, aR (K 7) 2 gE), (M 44, aR (K 8) 2 gS), (ME 0, aI (K 0) 60 (va_up gx k.toNat ((qget qs k).2.2.2.2.1))), (ME 1, aI (K 0) 60 e1), (MS 0, aF (K 3) 60 (va_up gy k.toNat (FP.fdiv (FP.i2f (iI ((qget qs k).2.2.2.2.1))) (FP.i2f (iI ((qget qs k).2.2.2.1)))))), (MS 1, aF (K 3) 60 s1)]) rfl dX11_storeLengths_97 (fun H locs G => ?_)
            refine ad_iinc (lv' := [(3, .int (iI (k + 1))), (0, .ref m0), (1, .int (iI 0)), (2, .int (iI e))]) F dX11_storeLengths_98 hl (k := 3) rfl (by decide) rfl (fun ls hl => ?_)
            refine lv_goto (tgt := 53) F.1 F.2.1 dX11_storeLengths_101 (by decide) ?_
            exact ih53 (k + 1) (va_up gx k.toNat ((qget qs k).2.2.2.2.1)) (va_up gy k.toNat (FP.fdiv (FP.i2f (iI ((qget qs k).2.2.2.2.1))) (FP.i2f (iI ((qget qs k).2.2.2.1))))) _ _ _ (by omega) (fun z h1 h2 => (show z = k ∨ z < k by omega).elim (fun h => by rw [h, rowV_get (by omega) (by omega)]; exact ⟨va_upI_s _ _ _, va_upI_s _ _ _⟩) (fun h => by rw [va_upI_o h1 (by omega) (by omega), va_upI_o h1 (by omega) (by omega)]; exact hv z h1 h)) (by omega) (G.perm (ws' := [(m0, mO M 0 xrm xsv xln xat xer xwr xwd xlo xhi xwl xml xkl xfi xse xdn xon xtw xol (qs.length : Int) xgl xus xpr xmk xab), (M 32, aI (K 0) 60 q4), (M 33, aI (K 0) 60 q5), (M 45, aI (K 0) 2 (va_up gsz (0 : Int).toNat (qs.length : Int))), (M 46, aI (K 4) 2 (va_up gex (0 : Int).toNat e)), (M 43, aR (K 7) 2 gE), (M 44, aR (K 8) 2 gS), (ME 0, aI (K 0) 60 (va_up gx k.toNat ((qget qs k).2.2.2.2.1))), (ME 1, aI (K 0) 60 e1), (MS 0, aF (K 3) 60 (va_up gy k.toNat (FP.fdiv (FP.i2f (iI ((qget qs k).2.2.2.2.1))) (FP.i2f (iI ((qget qs k).2.2.2.1)))))), (MS 1, aF (K 3) 60 s1)]) [0, 1, 2, 3, 4, 5, 6, 7, 8, 9, 10] rfl rfl) (lv_sub hl [1, 2, 3, 0] rfl)
      exact lp53 ((((qs.length - 0 : Int)) + 1).toNat) 0 e0 s0 _ _ _ (by omega) (fun z h1 h2 => by omega) (by omega) (G.perm (ws' := [(m0, mO M 0 xrm xsv xln xat xer xwr xwd xlo xhi xwl xml xkl xfi xse xdn xon xtw xol (qs.length : Int) xgl xus xpr xmk xab), (M 32, aI (K 0) 60 q4), (M 33, aI (K 0) 60 q5), (M 45, aI (K 0) 2 (va_up gsz (0 : Int).toNat (qs.length : Int))), (M 46, aI (K 4) 2 (va_up gex (0 : Int).toNat e)), (M 43, aR (K 7) 2 gE), (M 44, aR (K 8) 2 gS), (ME 0, aI (K 0) 60 e0), (ME 1, aI (K 0) 60 e1), (MS 0, aF (K 3) 60 s0), (MS 1, aF (K 3) 60 s1)]) [0, 1, 2, 3, 4, 5, 6, 7, 8, 9, 10] rfl rfl) (lv_sub hl [1, 2, 3, 0] rfl)
  · replace G := G.perm (ws' := [(m0, mO M xth xrm xsv xln xat xer xwr xwd xlo xhi xwl xml xkl xfi xse xdn xon xtw xol (qs.length : Int) xgl xus xpr xmk xab), (M 32, aI (K 0) 60 q4), (M 33, aI (K 0) 60 q5), (M 45, aI (K 0) 2 gsz), (M 46, aI (K 4) 2 gex), (M 43, aR (K 7) 2 gE), (M 44, aR (K 8) 2 gS), (ME 0, aI (K 0) 60 e0), (ME 1, aI (K 0) 60 e1), (MS 0, aF (K 3) 60 s0), (MS 1, aF (K 3) 60 s1)]) [0, 1, 2, 3, 4, 5, 6, 7, 8, 9, 10] rfl rfl
    refine W.eq (g2 := F0 m9 6 ls [.int (iI 0), .int (iI 1), .ref m0]) rfl ?_
    exfalso; omega

def rm_X11_storeLengths_0n : Room := { frames := 3, cells := 0, slots := 0, locals := 54 }
set_option maxHeartbeats 4000000 in
set_option maxRecDepth 100000 in
theorem c_X11_storeLengths_0n (l : Launch) (D : va_G) (K : Nat → ClassId) (z0 : Nat) (m0 : Nat) (M : Nat → Nat) (xth : Int) (xrm : Int) (xsv : Int) (xln : Int) (xat : Int) (xer : Int) (xwr : Int) (xwd : Int) (xlo : Int) (xhi : Int) (xwl : Int) (xml : Int) (xkl : Int) (xfi : Int) (xse : Int) (xdn : Int) (xon : Int) (xtw : Int) (xol : Int) (xrw : Int) (xgl : Int) (xus : Int) (xpr : Int) (xmk : Int) (xab : Int) (e : Int) (hrr : -1 ≤ xrw ∧ xrw ≤ 60) (hn_ : xrw < 0) (he : e = 0 ∨ e = 1) : CT l D K z0 yX11_storeLengths cX11_storeLengths 4 (some .int) rm_X11_storeLengths_0n [.ref m0, .int (iI 0), .int (iI e)] [(m0, mO M xth xrm xsv xln xat xer xwr xwd xlo xhi xwl xml xkl xfi xse xdn xon xtw xol xrw xgl xus xpr xmk xab)] (fun v9 u9 => v9 = some (.int (iI 0)) ∧ u9 = [(m0, mO M 2 xrm xsv xln xat xer xwr xwd xlo xhi xwl xml xkl xfi xse xdn xon xtw xol xrw xgl xus xpr xmk xab)]) := by
  refine CT.start RX11 "storeLengths" (by decide) rfl rfl (Nat.le_of_ble_eq_true rfl) ?_
  intro p9 e9 s9 m9 ag9 bl9 mt9 c9 A9 Q9 ls F G hR hl
  have hl : lv_has ls 4 [(0, .ref m0), (1, .int (iI 0)), (2, .int (iI e))] := hl
  refine lv_aload_n F.1 F.2.1 dX11_storeLengths_0 rfl (lv_at hl 0 rfl) ?_
  refine ad_iconst F dX11_storeLengths_1 ?_
  refine lv_iload_n F.1 F.2.1 dX11_storeLengths_2 rfl (lv_at hl 1 rfl) ?_
  refine ad_callS (As := [.int (iI 0)]) (rest := [.int (iI 1), .ref m0]) F G (c_X11_isRow l D K z0 0 (by omega)) my_X11_isRow ms_X11_345 (wr := [(m0, mO M xth xrm xsv xln xat xer xwr xwd xlo xhi xwl xml xkl xfi xse xdn xon xtw xol xrw xgl xus xpr xmk xab)]) (isC := []) (isR := [0]) ⟨rfl, rfl, rfl, rfl, by decide⟩ rfl rfl ⟨Nat.le_of_ble_eq_true rfl, Nat.le_of_ble_eq_true rfl⟩ ⟨Nat.le_of_ble_eq_true rfl, Nat.le_of_ble_eq_true rfl⟩ (Nat.le_of_ble_eq_true rfl) hl.1 (cells9 := 0) (slots9 := 0) ⟨rfl, rfl⟩ dX11_storeLengths_3 (fun v u H locs hw_1 G => ?_)
  rcases hw_1 with ⟨rfl, hc_2, rfl⟩ | ⟨rfl, hc_3, rfl⟩
  · replace G := G.perm (ws' := [(m0, mO M xth xrm xsv xln xat xer xwr xwd xlo xhi xwl xml xkl xfi xse xdn xon xtw xol xrw xgl xus xpr xmk xab)]) [0] rfl rfl
    refine W.eq (g2 := F0 m9 6 ls [.int (iI 1), .int (iI 1), .ref m0]) rfl ?_
    refine ad_if_ne (tgt := 13) F (by decide) dX11_storeLengths_6 (by decide) (fun _ => ?_) (fun cc_4 => absurd cc_4 (by decide))
    refine ad_iconst F dX11_storeLengths_13 ?_
    refine ad_callV (As := [.int (iI 1), .int (iI 0)]) (rest := []) F G (c_X11_fails_0 l D K z0 m0 M xth xrm xsv xln xat xer xwr xwd xlo xhi xwl xml xkl xfi xse xdn xon xtw xol xrw xgl xus xpr xmk xab 1 (by omega)) my_X11_fails mv_X11_111 (wr := []) (isC := [0]) (isR := []) ⟨rfl, rfl, rfl, rfl, by decide⟩ 11 0 rfl rfl rfl rfl ⟨Nat.le_of_ble_eq_true rfl, Nat.le_of_ble_eq_true rfl⟩ ⟨Nat.le_of_ble_eq_true rfl, Nat.le_of_ble_eq_true rfl⟩ (Nat.le_of_ble_eq_true rfl) hl.1 (cells9 := 0) (slots9 := 0) ⟨rfl, rfl⟩ dX11_storeLengths_14 (fun v u H locs hw_5 G => ?_)
    obtain ⟨rfl, rfl⟩ := hw_5
    replace G := G.perm (ws' := [(m0, mO M 0 xrm xsv xln xat xer xwr xwd xlo xhi xwl xml xkl xfi xse xdn xon xtw xol xrw xgl xus xpr xmk xab)]) [0] rfl rfl
    refine W.eq (g2 := F0 m9 17 ls [.int (iI 0)]) rfl ?_
    refine ad_if_ne (tgt := 32) F (by decide) dX11_storeLengths_17 (by decide) (fun cc_6 => absurd cc_6 (by decide)) (fun _ => ?_)
    refine lv_aload_n F.1 F.2.1 dX11_storeLengths_20 rfl (lv_at hl 0 rfl) ?_
    refine ad_iconst F dX11_storeLengths_21 ?_
    refine lv_aload_n F.1 F.2.1 dX11_storeLengths_22 rfl (lv_at hl 0 rfl) ?_
    refine ad_callV (As := []) (rest := [.int (iI 2), .ref m0]) F G (c_X11_hasNone l D K z0 m0 M 0 xrm xsv xln xat xer xwr xwd xlo xhi xwl xml xkl xfi xse xdn xon xtw xol xrw xgl xus xpr xmk xab (by omega)) my_X11_hasNone mv_X11_342 (wr := []) (isC := [0]) (isR := []) ⟨rfl, rfl, rfl, rfl, by decide⟩ 11 0 rfl rfl rfl rfl ⟨Nat.le_of_ble_eq_true rfl, Nat.le_of_ble_eq_true rfl⟩ ⟨Nat.le_of_ble_eq_true rfl, Nat.le_of_ble_eq_true rfl⟩ (Nat.le_of_ble_eq_true rfl) hl.1 (cells9 := 0) (slots9 := 0) ⟨rfl, rfl⟩ dX11_storeLengths_23 (fun v u H locs hw_7 G => ?_)
    rcases hw_7 with ⟨rfl, hc_8, rfl⟩ | ⟨rfl, hc_9, rfl⟩
    · replace G := G.perm (ws' := [(m0, mO M 0 xrm xsv xln xat xer xwr xwd xlo xhi xwl xml xkl xfi xse xdn xon xtw xol xrw xgl xus xpr xmk xab)]) [0] rfl rfl
      refine W.eq (g2 := F0 m9 26 ls [.int (iI 1), .int (iI 2), .ref m0]) rfl ?_
      refine ad_callV (As := [.int (iI 2), .int (iI 1)]) (rest := []) F G (c_X11_fails_1 l D K z0 m0 M 0 xrm xsv xln xat xer xwr xwd xlo xhi xwl xml xkl xfi xse xdn xon xtw xol xrw xgl xus xpr xmk xab 2 (by omega)) my_X11_fails mv_X11_111 (wr := []) (isC := [0]) (isR := []) ⟨rfl, rfl, rfl, rfl, by decide⟩ 11 0 rfl rfl rfl rfl ⟨Nat.le_of_ble_eq_true rfl, Nat.le_of_ble_eq_true rfl⟩ ⟨Nat.le_of_ble_eq_true rfl, Nat.le_of_ble_eq_true rfl⟩ (Nat.le_of_ble_eq_true rfl) hl.1 (cells9 := 0) (slots9 := 0) ⟨rfl, rfl⟩ dX11_storeLengths_26 (fun v u H locs hw_10 G => ?_)
      obtain ⟨rfl, rfl⟩ := hw_10
      replace G := G.perm (ws' := [(m0, mO M 2 xrm xsv xln xat xer xwr xwd xlo xhi xwl xml xkl xfi xse xdn xon xtw xol xrw xgl xus xpr xmk xab)]) [0] rfl rfl
      refine W.eq (g2 := F0 m9 29 ls [.int (iI 1)]) rfl ?_
      refine ad_if_eq (tgt := 34) F (by decide) dX11_storeLengths_29 (by decide) (fun cc_11 => absurd cc_11 (by decide)) (fun _ => ?_)
      refine ad_iconst F dX11_storeLengths_32 ?_
      exact ad_ireturn F G hR rfl (Nat.le_of_ble_eq_true rfl) (Nat.le_of_ble_eq_true rfl) ⟨rfl, rfl⟩ dX11_storeLengths_33
    · replace G := G.perm (ws' := [(m0, mO M 0 xrm xsv xln xat xer xwr xwd xlo xhi xwl xml xkl xfi xse xdn xon xtw xol xrw xgl xus xpr xmk xab)]) [0] rfl rfl
      refine W.eq (g2 := F0 m9 26 ls [.int (iI 0), .int (iI 2), .ref m0]) rfl ?_
      exfalso; omega
  · replace G := G.perm (ws' := [(m0, mO M xth xrm xsv xln xat xer xwr xwd xlo xhi xwl xml xkl xfi xse xdn xon xtw xol xrw xgl xus xpr xmk xab)]) [0] rfl rfl
    refine W.eq (g2 := F0 m9 6 ls [.int (iI 0), .int (iI 1), .ref m0]) rfl ?_
    exfalso; omega

def rm_X11_copyLengths_0 : Room := { frames := 3, cells := 0, slots := 0, locals := 54 }
set_option maxHeartbeats 4000000 in
set_option maxRecDepth 100000 in
theorem c_X11_copyLengths_0 (l : Launch) (D : va_G) (K : Nat → ClassId) (z0 : Nat) (m0 : Nat) (M : Nat → Nat) (xth : Int) (xrm : Int) (xsv : Int) (xln : Int) (xat : Int) (xer : Int) (xwr : Int) (xwd : Int) (xlo : Int) (xhi : Int) (xwl : Int) (xml : Int) (xkl : Int) (xfi : Int) (xse : Int) (xdn : Int) (xon : Int) (xtw : Int) (xol : Int) (xrw : Int) (xgl : Int) (xus : Int) (xpr : Int) (xmk : Int) (xab : Int) (gsz : Nat → Int) (gex : Nat → Int) (ME : Nat → Nat) (MS : Nat → Nat) (gE : Nat → Option Nat) (gS : Nat → Option Nat) (e0 : Nat → Int) (e1 : Nat → Int) (s0 : Nat → UInt32) (s1 : Nat → UInt32) (sz0 : Int) (sz1 : Int) (x0 : Int) (x1 : Int) (vs0 : List Vw) (vs1 : List Vw) (k : Int) (hE : ∀ j : Nat, j < 2 → gE j = some (ME j)) (hS : ∀ j : Nat, j < 2 → gS j = some (MS j)) (hsz : gsz 0 = sz0 ∧ gsz 1 = sz1) (hxx : gex 0 = x0 ∧ gex 1 = x1) (hb_ : -1 ≤ sz0 ∧ sz0 ≤ 50 ∧ -1 ≤ sz1 ∧ sz1 ≤ 50) (hx01 : (x0 = 0 ∨ x0 = 1) ∧ (x1 = 0 ∨ x1 = 1)) (hv0 : 0 ≤ sz0 → sz0 = vs0.length ∧ VOk vs0 ∧ ∀ z : Int, 0 ≤ z → z < vs0.length → e0 z.toNat = (vget vs0 z).1 ∧ s0 z.toNat = (vget vs0 z).2) (hv1 : 0 ≤ sz1 → sz1 = vs1.length ∧ VOk vs1 ∧ ∀ z : Int, 0 ≤ z → z < vs1.length → e1 z.toNat = (vget vs1 z).1 ∧ s1 z.toNat = (vget vs1 z).2) (hk : -2147483648 ≤ k ∧ k < 2147483648) : CT l D K z0 yX11_copyLengths cX11_copyLengths 6 (some .boolean) rm_X11_copyLengths_0 [.ref m0, .int (iI 0), .int (iI k)] [(m0, mO M xth xrm xsv xln xat xer xwr xwd xlo xhi xwl xml xkl xfi xse xdn xon xtw xol xrw xgl xus xpr xmk xab), (M 45, aI (K 0) 2 gsz), (M 46, aI (K 4) 2 gex), (M 43, aR (K 7) 2 gE), (M 44, aR (K 8) 2 gS), (ME 0, aI (K 0) 60 e0), (ME 1, aI (K 0) 60 e1), (MS 0, aF (K 3) 60 s0), (MS 1, aF (K 3) 60 s1)] (fun v9 u9 => (v9 = some (.int (iI 0)) ∧ (sz0 < 0 ∨ sz1 < 0) ∧ u9 = [(m0, mO M 2 xrm xsv xln xat xer xwr xwd xlo xhi xwl xml xkl xfi xse xdn xon xtw xol xrw xgl xus xpr xmk xab), (M 45, aI (K 0) 2 gsz), (M 46, aI (K 4) 2 gex), (M 43, aR (K 7) 2 gE), (M 44, aR (K 8) 2 gS), (ME 0, aI (K 0) 60 e0), (ME 1, aI (K 0) 60 e1), (MS 0, aF (K 3) 60 s0), (MS 1, aF (K 3) 60 s1)]) ∨ (v9 = some (.int (iI 0)) ∧ (0 ≤ sz0 ∧ 0 ≤ sz1) ∧ (x0 ≠ x1) ∧ u9 = [(m0, mO M 3 xrm xsv xln xat xer xwr xwd xlo xhi xwl xml xkl xfi xse xdn xon xtw xol xrw xgl xus xpr xmk xab), (M 45, aI (K 0) 2 gsz), (M 46, aI (K 4) 2 gex), (M 43, aR (K 7) 2 gE), (M 44, aR (K 8) 2 gS), (ME 0, aI (K 0) 60 e0), (ME 1, aI (K 0) 60 e1), (MS 0, aF (K 3) 60 s0), (MS 1, aF (K 3) 60 s1)]) ∨ (v9 = some (.int (iI 0)) ∧ (0 ≤ sz0 ∧ 0 ≤ sz1) ∧ (x0 = x1) ∧ (¬ (0 ≤ k ∧ k ≤ sz0 ∧ k ≤ sz1)) ∧ u9 = [(m0, mO M 4 xrm xsv xln xat xer xwr xwd xlo xhi xwl xml xkl xfi xse xdn xon xtw xol xrw xgl xus xpr xmk xab), (M 45, aI (K 0) 2 gsz), (M 46, aI (K 4) 2 gex), (M 43, aR (K 7) 2 gE), (M 44, aR (K 8) 2 gS), (ME 0, aI (K 0) 60 e0), (ME 1, aI (K 0) 60 e1), (MS 0, aF (K 3) 60 s0), (MS 1, aF (K 3) 60 s1)]) ∨ (∃ (c : Int), ∃ (gx : Nat → Int), ∃ (gy : Nat → UInt32), v9 = some (.int (iI c)) ∧ (0 ≤ sz0 ∧ 0 ≤ sz1) ∧ (x0 = x1) ∧ (0 ≤ k ∧ k ≤ sz0 ∧ k ≤ sz1) ∧ (c = 1 ↔ difE x0 vs1 vs0 k) ∧ (c = 0 ∨ c = 1) ∧ (∀ z : Int, 0 ≤ z → z < vs1.length → gx z.toNat = (vget (tkV vs1 vs0 k) z).1 ∧ gy z.toNat = (vget (tkV vs1 vs0 k) z).2) ∧ u9 = [(m0, mO M 0 xrm xsv xln xat xer xwr xwd xlo xhi xwl xml xkl xfi xse xdn xon xtw xol xrw xgl xus xpr xmk xab), (M 45, aI (K 0) 2 gsz), (M 46, aI (K 4) 2 gex), (M 43, aR (K 7) 2 gE), (M 44, aR (K 8) 2 gS), (ME 0, aI (K 0) 60 e0), (ME 1, aI (K 0) 60 gx), (MS 0, aF (K 3) 60 s0), (MS 1, aF (K 3) 60 gy)])) := by
  refine CT.start RX11 "copyLengths" (by decide) rfl rfl (Nat.le_of_ble_eq_true rfl) ?_
  intro p9 e9 s9 m9 ag9 bl9 mt9 c9 A9 Q9 ls F G hR hl
  have hl : lv_has ls 6 [(0, .ref m0), (1, .int (iI 0)), (2, .int (iI k))] := hl
  refine lv_aload_n F.1 F.2.1 dX11_copyLengths_0 rfl (lv_at hl 0 rfl) ?_
  refine ad_iconst F dX11_copyLengths_1 ?_
  refine lv_iload_n F.1 F.2.1 dX11_copyLengths_2 rfl (lv_at hl 1 rfl) ?_
  refine ad_callS (As := [.int (iI 0)]) (rest := [.int (iI 1), .ref m0]) F G (c_X11_isRow l D K z0 0 (by omega)) my_X11_isRow ms_X11_345 (wr := [(m0, mO M xth xrm xsv xln xat xer xwr xwd xlo xhi xwl xml xkl xfi xse xdn xon xtw xol xrw xgl xus xpr xmk xab), (M 45, aI (K 0) 2 gsz), (M 46, aI (K 4) 2 gex), (M 43, aR (K 7) 2 gE), (M 44, aR (K 8) 2 gS), (ME 0, aI (K 0) 60 e0), (ME 1, aI (K 0) 60 e1), (MS 0, aF (K 3) 60 s0), (MS 1, aF (K 3) 60 s1)]) (isC := []) (isR := [0, 1, 2, 3, 4, 5, 6, 7, 8]) ⟨rfl, rfl, rfl, rfl, by decide⟩ rfl rfl ⟨Nat.le_of_ble_eq_true rfl, Nat.le_of_ble_eq_true rfl⟩ ⟨Nat.le_of_ble_eq_true rfl, Nat.le_of_ble_eq_true rfl⟩ (Nat.le_of_ble_eq_true rfl) hl.1 (cells9 := 0) (slots9 := 0) ⟨rfl, rfl⟩ dX11_copyLengths_3 (fun v u H locs hw_1 G => ?_)
  rcases hw_1 with ⟨rfl, hc_2, rfl⟩ | ⟨rfl, hc_3, rfl⟩
  · replace G := G.perm (ws' := [(m0, mO M xth xrm xsv xln xat xer xwr xwd xlo xhi xwl xml xkl xfi xse xdn xon xtw xol xrw xgl xus xpr xmk xab), (M 45, aI (K 0) 2 gsz), (M 46, aI (K 4) 2 gex), (M 43, aR (K 7) 2 gE), (M 44, aR (K 8) 2 gS), (ME 0, aI (K 0) 60 e0), (ME 1, aI (K 0) 60 e1), (MS 0, aF (K 3) 60 s0), (MS 1, aF (K 3) 60 s1)]) [0, 1, 2, 3, 4, 5, 6, 7, 8] rfl rfl
    refine W.eq (g2 := F0 m9 6 ls [.int (iI 1), .int (iI 1), .ref m0]) rfl ?_
    refine ad_if_ne (tgt := 13) F (by decide) dX11_copyLengths_6 (by decide) (fun _ => ?_) (fun cc_4 => absurd cc_4 (by decide))
    refine ad_iconst F dX11_copyLengths_13 ?_
    refine ad_callV (As := [.int (iI 1), .int (iI 0)]) (rest := []) F G (c_X11_fails_0 l D K z0 m0 M xth xrm xsv xln xat xer xwr xwd xlo xhi xwl xml xkl xfi xse xdn xon xtw xol xrw xgl xus xpr xmk xab 1 (by omega)) my_X11_fails mv_X11_111 (wr := [(M 45, aI (K 0) 2 gsz), (M 46, aI (K 4) 2 gex), (M 43, aR (K 7) 2 gE), (M 44, aR (K 8) 2 gS), (ME 0, aI (K 0) 60 e0), (ME 1, aI (K 0) 60 e1), (MS 0, aF (K 3) 60 s0), (MS 1, aF (K 3) 60 s1)]) (isC := [0]) (isR := [1, 2, 3, 4, 5, 6, 7, 8]) ⟨rfl, rfl, rfl, rfl, by decide⟩ 11 0 rfl rfl rfl rfl ⟨Nat.le_of_ble_eq_true rfl, Nat.le_of_ble_eq_true rfl⟩ ⟨Nat.le_of_ble_eq_true rfl, Nat.le_of_ble_eq_true rfl⟩ (Nat.le_of_ble_eq_true rfl) hl.1 (cells9 := 0) (slots9 := 0) ⟨rfl, rfl⟩ dX11_copyLengths_14 (fun v u H locs hw_5 G => ?_)
    obtain ⟨rfl, rfl⟩ := hw_5
    replace G := G.perm (ws' := [(m0, mO M 0 xrm xsv xln xat xer xwr xwd xlo xhi xwl xml xkl xfi xse xdn xon xtw xol xrw xgl xus xpr xmk xab), (M 45, aI (K 0) 2 gsz), (M 46, aI (K 4) 2 gex), (M 43, aR (K 7) 2 gE), (M 44, aR (K 8) 2 gS), (ME 0, aI (K 0) 60 e0), (ME 1, aI (K 0) 60 e1), (MS 0, aF (K 3) 60 s0), (MS 1, aF (K 3) 60 s1)]) [8, 0, 1, 2, 3, 4, 5, 6, 7] rfl rfl
    refine W.eq (g2 := F0 m9 17 ls [.int (iI 0)]) rfl ?_
    refine ad_if_ne (tgt := 79) F (by decide) dX11_copyLengths_17 (by decide) (fun cc_6 => absurd cc_6 (by decide)) (fun _ => ?_)
    refine lv_aload_n F.1 F.2.1 dX11_copyLengths_20 rfl (lv_at hl 0 rfl) ?_
    refine ad_iconst F dX11_copyLengths_21 ?_
    refine lv_aload_n F.1 F.2.1 dX11_copyLengths_22 rfl (lv_at hl 0 rfl) ?_
    refine ad_get F G fl_X11_83 0 rfl rfl dX11_copyLengths_23 ?_
    refine ad_iconst F dX11_copyLengths_26 ?_
    refine ad_iald F G 1 rfl (w := sz0) (by omega) hsz.1 dX11_copyLengths_27 ?_
    refine ad_if_lt (tgt := 40) F (by omega) dX11_copyLengths_28 (by decide) (fun cc_7 => ?_) (fun cc_7 => ?_)
    · refine ad_iconst F dX11_copyLengths_40 ?_
      refine lv_goto (tgt := 45) F.1 F.2.1 dX11_copyLengths_41 (by decide) ?_
      refine ad_callV (As := [.int (iI 2), .int (iI 1)]) (rest := []) F G (c_X11_fails_1 l D K z0 m0 M 0 xrm xsv xln xat xer xwr xwd xlo xhi xwl xml xkl xfi xse xdn xon xtw xol xrw xgl xus xpr xmk xab 2 (by omega)) my_X11_fails mv_X11_111 (wr := [(M 45, aI (K 0) 2 gsz), (M 46, aI (K 4) 2 gex), (M 43, aR (K 7) 2 gE), (M 44, aR (K 8) 2 gS), (ME 0, aI (K 0) 60 e0), (ME 1, aI (K 0) 60 e1), (MS 0, aF (K 3) 60 s0), (MS 1, aF (K 3) 60 s1)]) (isC := [0]) (isR := [1, 2, 3, 4, 5, 6, 7, 8]) ⟨rfl, rfl, rfl, rfl, by decide⟩ 11 0 rfl rfl rfl rfl ⟨Nat.le_of_ble_eq_true rfl, Nat.le_of_ble_eq_true rfl⟩ ⟨Nat.le_of_ble_eq_true rfl, Nat.le_of_ble_eq_true rfl⟩ (Nat.le_of_ble_eq_true rfl) hl.1 (cells9 := 0) (slots9 := 0) ⟨rfl, rfl⟩ dX11_copyLengths_45 (fun v u H locs hw_8 G => ?_)
      obtain ⟨rfl, rfl⟩ := hw_8
      replace G := G.perm (ws' := [(m0, mO M 2 xrm xsv xln xat xer xwr xwd xlo xhi xwl xml xkl xfi xse xdn xon xtw xol xrw xgl xus xpr xmk xab), (M 45, aI (K 0) 2 gsz), (M 46, aI (K 4) 2 gex), (M 43, aR (K 7) 2 gE), (M 44, aR (K 8) 2 gS), (ME 0, aI (K 0) 60 e0), (ME 1, aI (K 0) 60 e1), (MS 0, aF (K 3) 60 s0), (MS 1, aF (K 3) 60 s1)]) [8, 0, 1, 2, 3, 4, 5, 6, 7] rfl rfl
      refine W.eq (g2 := F0 m9 48 ls [.int (iI 1)]) rfl ?_
      refine ad_if_ne (tgt := 79) F (by decide) dX11_copyLengths_48 (by decide) (fun _ => ?_) (fun cc_9 => absurd cc_9 (by decide))
      refine ad_iconst F dX11_copyLengths_79 ?_
      exact ad_zreturn F G hR rfl (Nat.le_of_ble_eq_true rfl) (Nat.le_of_ble_eq_true rfl) rfl (Or.inl ⟨rfl, (by omega), rfl⟩) dX11_copyLengths_80
    · refine lv_aload_n F.1 F.2.1 dX11_copyLengths_31 rfl (lv_at hl 0 rfl) ?_
      refine ad_get F G fl_X11_83 0 rfl rfl dX11_copyLengths_32 ?_
      refine ad_iconst F dX11_copyLengths_35 ?_
      refine ad_iald F G 1 rfl (w := sz1) (by omega) hsz.2 dX11_copyLengths_36 ?_
      refine ad_if_ge (tgt := 44) F (by omega) dX11_copyLengths_37 (by decide) (fun cc_10 => ?_) (fun cc_10 => ?_)
      · refine ad_iconst F dX11_copyLengths_44 ?_
        refine ad_callV (As := [.int (iI 2), .int (iI 0)]) (rest := []) F G (c_X11_fails_0 l D K z0 m0 M 0 xrm xsv xln xat xer xwr xwd xlo xhi xwl xml xkl xfi xse xdn xon xtw xol xrw xgl xus xpr xmk xab 2 (by omega)) my_X11_fails mv_X11_111 (wr := [(M 45, aI (K 0) 2 gsz), (M 46, aI (K 4) 2 gex), (M 43, aR (K 7) 2 gE), (M 44, aR (K 8) 2 gS), (ME 0, aI (K 0) 60 e0), (ME 1, aI (K 0) 60 e1), (MS 0, aF (K 3) 60 s0), (MS 1, aF (K 3) 60 s1)]) (isC := [0]) (isR := [1, 2, 3, 4, 5, 6, 7, 8]) ⟨rfl, rfl, rfl, rfl, by decide⟩ 11 0 rfl rfl rfl rfl ⟨Nat.le_of_ble_eq_true rfl, Nat.le_of_ble_eq_true rfl⟩ ⟨Nat.le_of_ble_eq_true rfl, Nat.le_of_ble_eq_true rfl⟩ (Nat.le_of_ble_eq_true rfl) hl.1 (cells9 := 0) (slots9 := 0) ⟨rfl, rfl⟩ dX11_copyLengths_45 (fun v u H locs hw_11 G => ?_)
        obtain ⟨rfl, rfl⟩ := hw_11
        replace G := G.perm (ws' := [(m0, mO M 0 xrm xsv xln xat xer xwr xwd xlo xhi xwl xml xkl xfi xse xdn xon xtw xol xrw xgl xus xpr xmk xab), (M 45, aI (K 0) 2 gsz), (M 46, aI (K 4) 2 gex), (M 43, aR (K 7) 2 gE), (M 44, aR (K 8) 2 gS), (ME 0, aI (K 0) 60 e0), (ME 1, aI (K 0) 60 e1), (MS 0, aF (K 3) 60 s0), (MS 1, aF (K 3) 60 s1)]) [8, 0, 1, 2, 3, 4, 5, 6, 7] rfl rfl
        refine W.eq (g2 := F0 m9 48 ls [.int (iI 0)]) rfl ?_
        refine ad_if_ne (tgt := 79) F (by decide) dX11_copyLengths_48 (by decide) (fun cc_12 => absurd cc_12 (by decide)) (fun _ => ?_)
        refine lv_aload_n F.1 F.2.1 dX11_copyLengths_51 rfl (lv_at hl 0 rfl) ?_
        refine ad_iconst F dX11_copyLengths_52 ?_
        refine lv_aload_n F.1 F.2.1 dX11_copyLengths_53 rfl (lv_at hl 0 rfl) ?_
        refine ad_get F G fl_X11_86 0 rfl rfl dX11_copyLengths_54 ?_
        refine ad_iconst F dX11_copyLengths_57 ?_
        refine ad_zald F G 2 rfl (w := x0) (by omega) hxx.1 dX11_copyLengths_58 ?_
        refine lv_aload_n F.1 F.2.1 dX11_copyLengths_59 rfl (lv_at hl 0 rfl) ?_
        refine ad_get F G fl_X11_86 0 rfl rfl dX11_copyLengths_60 ?_
        refine ad_iconst F dX11_copyLengths_63 ?_
        refine ad_zald F G 2 rfl (w := x1) (by omega) hxx.2 dX11_copyLengths_64 ?_
        refine ad_icmp_eq (tgt := 72) F (by omega) dX11_copyLengths_65 (by decide) (fun cc_13 => ?_) (fun cc_13 => ?_)
        · refine ad_iconst F dX11_copyLengths_72 ?_
          refine ad_callV (As := [.int (iI 3), .int (iI 0)]) (rest := []) F G (c_X11_fails_0 l D K z0 m0 M 0 xrm xsv xln xat xer xwr xwd xlo xhi xwl xml xkl xfi xse xdn xon xtw xol xrw xgl xus xpr xmk xab 3 (by omega)) my_X11_fails mv_X11_111 (wr := [(M 45, aI (K 0) 2 gsz), (M 46, aI (K 4) 2 gex), (M 43, aR (K 7) 2 gE), (M 44, aR (K 8) 2 gS), (ME 0, aI (K 0) 60 e0), (ME 1, aI (K 0) 60 e1), (MS 0, aF (K 3) 60 s0), (MS 1, aF (K 3) 60 s1)]) (isC := [0]) (isR := [1, 2, 3, 4, 5, 6, 7, 8]) ⟨rfl, rfl, rfl, rfl, by decide⟩ 11 0 rfl rfl rfl rfl ⟨Nat.le_of_ble_eq_true rfl, Nat.le_of_ble_eq_true rfl⟩ ⟨Nat.le_of_ble_eq_true rfl, Nat.le_of_ble_eq_true rfl⟩ (Nat.le_of_ble_eq_true rfl) hl.1 (cells9 := 0) (slots9 := 0) ⟨rfl, rfl⟩ dX11_copyLengths_73 (fun v u H locs hw_14 G => ?_)
          obtain ⟨rfl, rfl⟩ := hw_14
          replace G := G.perm (ws' := [(m0, mO M 0 xrm xsv xln xat xer xwr xwd xlo xhi xwl xml xkl xfi xse xdn xon xtw xol xrw xgl xus xpr xmk xab), (M 45, aI (K 0) 2 gsz), (M 46, aI (K 4) 2 gex), (M 43, aR (K 7) 2 gE), (M 44, aR (K 8) 2 gS), (ME 0, aI (K 0) 60 e0), (ME 1, aI (K 0) 60 e1), (MS 0, aF (K 3) 60 s0), (MS 1, aF (K 3) 60 s1)]) [8, 0, 1, 2, 3, 4, 5, 6, 7] rfl rfl
          refine W.eq (g2 := F0 m9 76 ls [.int (iI 0)]) rfl ?_
          refine ad_if_eq (tgt := 81) F (by decide) dX11_copyLengths_76 (by decide) (fun _ => ?_) (fun cc_15 => absurd cc_15 (by decide))
          refine lv_aload_n F.1 F.2.1 dX11_copyLengths_81 rfl (lv_at hl 0 rfl) ?_
          refine ad_iconst F dX11_copyLengths_82 ?_
          refine lv_iload_n F.1 F.2.1 dX11_copyLengths_83 rfl (lv_at hl 2 rfl) ?_
          refine ad_if_lt (tgt := 107) F (by omega) dX11_copyLengths_84 (by decide) (fun cc_16 => ?_) (fun cc_16 => ?_)
          · refine ad_iconst F dX11_copyLengths_107 ?_
            refine lv_goto (tgt := 112) F.1 F.2.1 dX11_copyLengths_108 (by decide) ?_
            refine ad_callV (As := [.int (iI 4), .int (iI 1)]) (rest := []) F G (c_X11_fails_1 l D K z0 m0 M 0 xrm xsv xln xat xer xwr xwd xlo xhi xwl xml xkl xfi xse xdn xon xtw xol xrw xgl xus xpr xmk xab 4 (by omega)) my_X11_fails mv_X11_111 (wr := [(M 45, aI (K 0) 2 gsz), (M 46, aI (K 4) 2 gex), (M 43, aR (K 7) 2 gE), (M 44, aR (K 8) 2 gS), (ME 0, aI (K 0) 60 e0), (ME 1, aI (K 0) 60 e1), (MS 0, aF (K 3) 60 s0), (MS 1, aF (K 3) 60 s1)]) (isC := [0]) (isR := [1, 2, 3, 4, 5, 6, 7, 8]) ⟨rfl, rfl, rfl, rfl, by decide⟩ 11 0 rfl rfl rfl rfl ⟨Nat.le_of_ble_eq_true rfl, Nat.le_of_ble_eq_true rfl⟩ ⟨Nat.le_of_ble_eq_true rfl, Nat.le_of_ble_eq_true rfl⟩ (Nat.le_of_ble_eq_true rfl) hl.1 (cells9 := 0) (slots9 := 0) ⟨rfl, rfl⟩ dX11_copyLengths_112 (fun v u H locs hw_17 G => ?_)
            obtain ⟨rfl, rfl⟩ := hw_17
            replace G := G.perm (ws' := [(m0, mO M 4 xrm xsv xln xat xer xwr xwd xlo xhi xwl xml xkl xfi xse xdn xon xtw xol xrw xgl xus xpr xmk xab), (M 45, aI (K 0) 2 gsz), (M 46, aI (K 4) 2 gex), (M 43, aR (K 7) 2 gE), (M 44, aR (K 8) 2 gS), (ME 0, aI (K 0) 60 e0), (ME 1, aI (K 0) 60 e1), (MS 0, aF (K 3) 60 s0), (MS 1, aF (K 3) 60 s1)]) [8, 0, 1, 2, 3, 4, 5, 6, 7] rfl rfl
            refine W.eq (g2 := F0 m9 115 ls [.int (iI 1)]) rfl ?_
            refine ad_if_eq (tgt := 120) F (by decide) dX11_copyLengths_115 (by decide) (fun cc_18 => absurd cc_18 (by decide)) (fun _ => ?_)
            refine ad_iconst F dX11_copyLengths_118 ?_
            exact ad_zreturn F G hR rfl (Nat.le_of_ble_eq_true rfl) (Nat.le_of_ble_eq_true rfl) rfl (Or.inr (Or.inr (Or.inl ⟨rfl, (by omega), cc_13, (by omega), rfl⟩))) dX11_copyLengths_119
          · refine lv_iload_n F.1 F.2.1 dX11_copyLengths_87 rfl (lv_at hl 2 rfl) ?_
            refine lv_aload_n F.1 F.2.1 dX11_copyLengths_88 rfl (lv_at hl 0 rfl) ?_
            refine ad_get F G fl_X11_83 0 rfl rfl dX11_copyLengths_89 ?_
            refine ad_iconst F dX11_copyLengths_92 ?_
            refine ad_iald F G 1 rfl (w := sz0) (by omega) hsz.1 dX11_copyLengths_93 ?_
            refine ad_icmp_gt (tgt := 107) F (by omega) dX11_copyLengths_94 (by decide) (fun cc_19 => ?_) (fun cc_19 => ?_)
            · refine ad_iconst F dX11_copyLengths_107 ?_
              refine lv_goto (tgt := 112) F.1 F.2.1 dX11_copyLengths_108 (by decide) ?_
              refine ad_callV (As := [.int (iI 4), .int (iI 1)]) (rest := []) F G (c_X11_fails_1 l D K z0 m0 M 0 xrm xsv xln xat xer xwr xwd xlo xhi xwl xml xkl xfi xse xdn xon xtw xol xrw xgl xus xpr xmk xab 4 (by omega)) my_X11_fails mv_X11_111 (wr := [(M 45, aI (K 0) 2 gsz), (M 46, aI (K 4) 2 gex), (M 43, aR (K 7) 2 gE), (M 44, aR (K 8) 2 gS), (ME 0, aI (K 0) 60 e0), (ME 1, aI (K 0) 60 e1), (MS 0, aF (K 3) 60 s0), (MS 1, aF (K 3) 60 s1)]) (isC := [0]) (isR := [1, 2, 3, 4, 5, 6, 7, 8]) ⟨rfl, rfl, rfl, rfl, by decide⟩ 11 0 rfl rfl rfl rfl ⟨Nat.le_of_ble_eq_true rfl, Nat.le_of_ble_eq_true rfl⟩ ⟨Nat.le_of_ble_eq_true rfl, Nat.le_of_ble_eq_true rfl⟩ (Nat.le_of_ble_eq_true rfl) hl.1 (cells9 := 0) (slots9 := 0) ⟨rfl, rfl⟩ dX11_copyLengths_112 (fun v u H locs hw_20 G => ?_)
              obtain ⟨rfl, rfl⟩ := hw_20
              replace G := G.perm (ws' := [(m0, mO M 4 xrm xsv xln xat xer xwr xwd xlo xhi xwl xml xkl xfi xse xdn xon xtw xol xrw xgl xus xpr xmk xab), (M 45, aI (K 0) 2 gsz), (M 46, aI (K 4) 2 gex), (M 43, aR (K 7) 2 gE), (M 44, aR (K 8) 2 gS), (ME 0, aI (K 0) 60 e0), (ME 1, aI (K 0) 60 e1), (MS 0, aF (K 3) 60 s0), (MS 1, aF (K 3) 60 s1)]) [8, 0, 1, 2, 3, 4, 5, 6, 7] rfl rfl
              refine W.eq (g2 := F0 m9 115 ls [.int (iI 1)]) rfl ?_
              refine ad_if_eq (tgt := 120) F (by decide) dX11_copyLengths_115 (by decide) (fun cc_21 => absurd cc_21 (by decide)) (fun _ => ?_)
              refine ad_iconst F dX11_copyLengths_118 ?_
              exact ad_zreturn F G hR rfl (Nat.le_of_ble_eq_true rfl) (Nat.le_of_ble_eq_true rfl) rfl (Or.inr (Or.inr (Or.inl ⟨rfl, (by omega), cc_13, (by omega), rfl⟩))) dX11_copyLengths_119
            · refine lv_iload_n F.1 F.2.1 dX11_copyLengths_97 rfl (lv_at hl 2 rfl) ?_
              refine lv_aload_n F.1 F.2.1 dX11_copyLengths_98 rfl (lv_at hl 0 rfl) ?_
              refine ad_get F G fl_X11_83 0 rfl rfl dX11_copyLengths_99 ?_
              refine ad_iconst F dX11_copyLengths_102 ?_
              refine ad_iald F G 1 rfl (w := sz1) (by omega) hsz.2 dX11_copyLengths_103 ?_
              refine ad_icmp_le (tgt := 111) F (by omega) dX11_copyLengths_104 (by decide) (fun cc_22 => ?_) (fun cc_22 => ?_)
              · refine ad_iconst F dX11_copyLengths_111 ?_
                refine ad_callV (As := [.int (iI 4), .int (iI 0)]) (rest := []) F G (c_X11_fails_0 l D K z0 m0 M 0 xrm xsv xln xat xer xwr xwd xlo xhi xwl xml xkl xfi xse xdn xon xtw xol xrw xgl xus xpr xmk xab 4 (by omega)) my_X11_fails mv_X11_111 (wr := [(M 45, aI (K 0) 2 gsz), (M 46, aI (K 4) 2 gex), (M 43, aR (K 7) 2 gE), (M 44, aR (K 8) 2 gS), (ME 0, aI (K 0) 60 e0), (ME 1, aI (K 0) 60 e1), (MS 0, aF (K 3) 60 s0), (MS 1, aF (K 3) 60 s1)]) (isC := [0]) (isR := [1, 2, 3, 4, 5, 6, 7, 8]) ⟨rfl, rfl, rfl, rfl, by decide⟩ 11 0 rfl rfl rfl rfl ⟨Nat.le_of_ble_eq_true rfl, Nat.le_of_ble_eq_true rfl⟩ ⟨Nat.le_of_ble_eq_true rfl, Nat.le_of_ble_eq_true rfl⟩ (Nat.le_of_ble_eq_true rfl) hl.1 (cells9 := 0) (slots9 := 0) ⟨rfl, rfl⟩ dX11_copyLengths_112 (fun v u H locs hw_23 G => ?_)
                obtain ⟨rfl, rfl⟩ := hw_23
                replace G := G.perm (ws' := [(m0, mO M 0 xrm xsv xln xat xer xwr xwd xlo xhi xwl xml xkl xfi xse xdn xon xtw xol xrw xgl xus xpr xmk xab), (M 45, aI (K 0) 2 gsz), (M 46, aI (K 4) 2 gex), (M 43, aR (K 7) 2 gE), (M 44, aR (K 8) 2 gS), (ME 0, aI (K 0) 60 e0), (ME 1, aI (K 0) 60 e1), (MS 0, aF (K 3) 60 s0), (MS 1, aF (K 3) 60 s1)]) [8, 0, 1, 2, 3, 4, 5, 6, 7] rfl rfl
                refine W.eq (g2 := F0 m9 115 ls [.int (iI 0)]) rfl ?_
                refine ad_if_eq (tgt := 120) F (by decide) dX11_copyLengths_115 (by decide) (fun _ => ?_) (fun cc_24 => absurd cc_24 (by decide))
                refine ad_iconst F dX11_copyLengths_120 ?_
                refine lv_iload_n F.1 F.2.1 dX11_copyLengths_121 rfl (lv_at hl 1 rfl) ?_
                refine ad_isub F dX11_copyLengths_122 ?_
                refine ad_topi (y := 1) (by omega) ?_
                refine lv_istore_n (lv' := [(3, .int (iI 1)), (0, .ref m0), (1, .int (iI 0)), (2, .int (iI k))]) F.1 F.2.1 dX11_copyLengths_123 rfl hl (by decide) rfl (fun ls hl => ?_)
                refine ad_iconst F dX11_copyLengths_124 ?_
                refine lv_istore (lv' := [(4, .int (iI 0)), (3, .int (iI 1)), (0, .ref m0), (1, .int (iI 0)), (2, .int (iI k))]) F.1 F.2.1 dX11_copyLengths_125 hl (by decide) rfl (fun ls hl => ?_)
                obtain ⟨hl0, ho0, hr0⟩ := hv0 (by omega)
                obtain ⟨hl1, ho1, hr1⟩ := hv1 (by omega)
                refine ad_iconst F dX11_copyLengths_127 ?_
                refine lv_istore (lv' := [(5, .int (iI 0)), (4, .int (iI 0)), (3, .int (iI 1)), (0, .ref m0), (1, .int (iI 0)), (2, .int (iI k))]) F.1 F.2.1 dX11_copyLengths_128 hl (by decide) rfl (fun ls hl => ?_)
                have lp130 : ∀ (n130 : Nat) (i : Int) (ch : Int) (gx : Nat → Int) (gy : Nat → UInt32) (H : Heap) (locs : List Loc) (ls : Array Slot), (0 ≤ i ∧ i ≤ k) → (ch = 0 ∨ ch = 1) → (ch = 1 ↔ difE x0 vs1 vs0 i) → (∀ z : Int, 0 ≤ z → z < vs1.length → gx z.toNat = (vget (tkV vs1 vs0 i) z).1 ∧ gy z.toNat = (vget (tkV vs1 vs0 i) z).2) → (k - i) < (n130 : Int) → ad_G D A9 s9.heap H locs [(m0, mO M 0 xrm xsv xln xat xer xwr xwd xlo xhi xwl xml xkl xfi xse xdn xon xtw xol xrw xgl xus xpr xmk xab), (M 45, aI (K 0) 2 gsz), (M 46, aI (K 4) 2 gex), (M 43, aR (K 7) 2 gE), (M 44, aR (K 8) 2 gS), (ME 0, aI (K 0) 60 e0), (ME 1, aI (K 0) 60 gx), (MS 0, aF (K 3) 60 s0), (MS 1, aF (K 3) 60 gy)] → lv_has ls 6 [(0, .ref m0), (1, .int (iI 0)), (2, .int (iI k)), (3, .int (iI 1)), (4, .int (iI ch)), (5, .int (iI i))] → W p9 l e9 rm_X11_copyLengths_0 s9 m9 ag9 bl9 mt9 c9 H locs 0 0 Q9 (F0 m9 130 ls []) := by
                  intro n130
                  induction n130 with
                  | zero =>
                    intro i ch gx gy H locs ls hi hc hb hRm hm130
                    exact absurd hm130 (by omega)
                  | succ n130 ih130 =>
                    intro i ch gx gy H locs ls hi hc hb hRm hm130 G hl
                    refine lv_iload F.1 F.2.1 dX11_copyLengths_130 (lv_at hl 5 rfl) ?_
                    refine lv_iload_n F.1 F.2.1 dX11_copyLengths_132 rfl (lv_at hl 2 rfl) ?_
                    refine ad_icmp_ge (tgt := 248) F (by omega) dX11_copyLengths_133 (by decide) (fun cc_25 => ?_) (fun cc_25 => ?_)
                    · refine lv_iload F.1 F.2.1 dX11_copyLengths_248 (lv_at hl 4 rfl) ?_
                      exact ad_zreturn F G hR rfl (Nat.le_of_ble_eq_true rfl) (Nat.le_of_ble_eq_true rfl) (iI_boolN (by omega)).1 (Or.inr (Or.inr (Or.inr (⟨ch, gx, gy, rfl, (by omega), cc_13, (by omega), (by rw [hb, show i = k by omega]), hc, (by rw [← show i = k by omega]; exact hRm), rfl⟩)))) dX11_copyLengths_250
                    · have htk := tkV_get (vs := vs1) (ws := vs0) (k := i) (by omega) (by omega) (by omega) (z := i) (by omega)
                      rw [if_neg (by omega)] at htk
                      have hT1 : gx i.toNat = (vget vs1 i).1 ∧ gy i.toNat = (vget vs1 i).2 := by have q := hRm i (by omega) (by omega); rw [htk] at q; exact q
                      have hS1 := hr0 i (by omega) (by omega)
                      have hbT := ho1.2 i (by omega) (by omega)
                      have hbS := ho0.2 i (by omega) (by omega)
                      refine lv_iload F.1 F.2.1 dX11_copyLengths_136 (lv_at hl 4 rfl) ?_
                      refine lv_aload_n F.1 F.2.1 dX11_copyLengths_138 rfl (lv_at hl 0 rfl) ?_
                      refine ad_get F G fl_X11_86 0 rfl rfl dX11_copyLengths_139 ?_
                      refine ad_iconst F dX11_copyLengths_142 ?_
                      refine ad_zald F G 2 rfl (w := x0) (by omega) hxx.1 dX11_copyLengths_143 ?_
                      refine ad_if_eq (tgt := 176) F (by omega) dX11_copyLengths_144 (by decide) (fun cc_26 => ?_) (fun cc_26 => ?_)
                      · refine lv_aload_n F.1 F.2.1 dX11_copyLengths_176 rfl (lv_at hl 0 rfl) ?_
                        refine ad_get F G fl_X11_80 0 rfl rfl dX11_copyLengths_177 ?_
                        refine lv_iload_n F.1 F.2.1 dX11_copyLengths_180 rfl (lv_at hl 3 rfl) ?_
                        refine ad_aaldA F G 4 8 rfl rfl (w := (MS 1)) (by omega) (hS 1 (by decide)) dX11_copyLengths_181 ?_
                        refine lv_iload F.1 F.2.1 dX11_copyLengths_182 (lv_at hl 5 rfl) ?_
                        refine ad_fald F G 8 rfl (w := (vget vs1 i).2) (by omega) hT1.2 dX11_copyLengths_184 ?_
                        refine lv_aload_n F.1 F.2.1 dX11_copyLengths_185 rfl (lv_at hl 0 rfl) ?_
                        refine ad_get F G fl_X11_80 0 rfl rfl dX11_copyLengths_186 ?_
                        refine lv_iload_n F.1 F.2.1 dX11_copyLengths_189 rfl (lv_at hl 1 rfl) ?_
                        refine ad_aaldA F G 4 8 rfl rfl (w := (MS 0)) (by omega) (hS 0 (by decide)) dX11_copyLengths_190 ?_
                        refine lv_iload F.1 F.2.1 dX11_copyLengths_191 (lv_at hl 5 rfl) ?_
                        refine ad_fald F G 7 rfl (w := (vget vs0 i).2) (by omega) hS1.2 dX11_copyLengths_193 ?_
                        refine lv_fcmp F.1 F.2.1 dX11_copyLengths_194 ?_
                        refine ad_top32 (y := cmpI ((vget vs1 i).2) ((vget vs0 i).2)) (iI_of _) ?_
                        refine ad_if_eq (tgt := 202) F (cmpI_r _ _) dX11_copyLengths_195 (by decide) (fun cc_27 => ?_) (fun cc_27 => ?_)
                        · refine ad_iconst F dX11_copyLengths_202 ?_
                          refine ad_iorn F (by omega) dX11_copyLengths_203 ?_
                          refine lv_istore (lv' := [(4, .int (iI ch)), (0, .ref m0), (1, .int (iI 0)), (2, .int (iI k)), (3, .int (iI 1)), (5, .int (iI i))]) F.1 F.2.1 dX11_copyLengths_204 hl (by decide) rfl (fun ls hl => ?_)
                          refine lv_aload_n F.1 F.2.1 dX11_copyLengths_206 rfl (lv_at hl 1 rfl) ?_
                          refine ad_get F G fl_X11_75 0 rfl rfl dX11_copyLengths_207 ?_
                          refine lv_iload_n F.1 F.2.1 dX11_copyLengths_210 rfl (lv_at hl 4 rfl) ?_
                          refine ad_aaldA F G 3 7 rfl rfl (w := (ME 1)) (by omega) (hE 1 (by decide)) dX11_copyLengths_211 ?_
                          refine lv_iload F.1 F.2.1 dX11_copyLengths_212 (lv_at hl 5 rfl) ?_
                          refine lv_aload_n F.1 F.2.1 dX11_copyLengths_214 rfl (lv_at hl 1 rfl) ?_
                          refine ad_get F G fl_X11_75 0 rfl rfl dX11_copyLengths_215 ?_
                          refine lv_iload_n F.1 F.2.1 dX11_copyLengths_218 rfl (lv_at hl 2 rfl) ?_
                          refine ad_aaldA F G 3 7 rfl rfl (w := (ME 0)) (by omega) (hE 0 (by decide)) dX11_copyLengths_219 ?_
                          refine lv_iload F.1 F.2.1 dX11_copyLengths_220 (lv_at hl 5 rfl) ?_
                          refine ad_iald F G 5 rfl (w := (vget vs0 i).1) (by omega) hS1.1 dX11_copyLengths_222 ?_
                          refine ad_iast F G 6 rfl (by omega) (ws' := [(m0, mO M 0 xrm xsv xln xat xer xwr xwd xlo xhi xwl xml xkl xfi xse xdn xon xtw xol xrw xgl xus xpr xmk xab), (M 45, aI (K 0) 2 gsz), (M 46, aI (K 4) 2 gex), (M 43, aR (K 7) 2 gE), (M 44, aR (K 8) 2 gS), (ME 0, aI (K 0) 60 e0), (ME 1, aI (K 0) 60 (va_up gx i.toNat ((vget vs0 i).1))), (MS 0, aF (K 3) 60 s0), (MS 1, aF (K 3) 60 gy)]) rfl dX11_copyLengths_223 (fun H locs G => ?_)
                          refine lv_aload_n F.1 F.2.1 dX11_copyLengths_224 rfl (lv_at hl 1 rfl) ?_
                          refine ad_get F G fl_X11_80 0 rfl rfl dX11_copyLengths_225 ?_
                          refine lv_iload_n F.1 F.2.1 dX11_copyLengths_228 rfl (lv_at hl 4 rfl) ?_
                          refine ad_aaldA F G 4 8 rfl rfl (w := (MS 1)) (by omega) (hS 1 (by decide)) dX11_copyLengths_229 ?_
                          refine lv_iload F.1 F.2.1 dX11_copyLengths_230 (lv_at hl 5 rfl) ?_
                          refine lv_aload_n F.1 F.2.1 dX11_copyLengths_232 rfl (lv_at hl 1 rfl) ?_
                          refine ad_get F G fl_X11_80 0 rfl rfl dX11_copyLengths_233 ?_
                          refine lv_iload_n F.1 F.2.1 dX11_copyLengths_236 rfl (lv_at hl 2 rfl) ?_
                          refine ad_aaldA F G 4 8 rfl rfl (w := (MS 0)) (by omega) (hS 0 (by decide)) dX11_copyLengths_237 ?_
                          refine lv_iload F.1 F.2.1 dX11_copyLengths_238 (lv_at hl 5 rfl) ?_
                          refine ad_fald F G 7 rfl (w := (vget vs0 i).2) (by omega) hS1.2 dX11_copyLengths_240 ?_
                          refine ad_fast F G 8 rfl (by omega) (ws' := [(m0, mO M 0 xrm xsv xln xat xer xwr xwd xlo xhi xwl xml xkl xfi xse xdn xon xtw xol xrw xgl xus xpr xmk xab), (M 45, aI (K 0) 2 gsz), (M 46, aI (K 4) 2 gex), (M 43, aR (K 7) 2 gE), (M 44, aR (K 8) 2 gS), (ME 0, aI (K 0) 60 e0), (ME 1, aI (K 0) 60 (va_up gx i.toNat ((vget vs0 i).1))), (MS 0, aF (K 3) 60 s0), (MS 1, aF (K 3) 60 (va_up gy i.toNat ((vget vs0 i).2)))]) rfl dX11_copyLengths_241 (fun H locs G => ?_)
                          refine ad_iinc (lv' := [(5, .int (iI (i + 1))), (4, .int (iI ch)), (0, .ref m0), (1, .int (iI 0)), (2, .int (iI k)), (3, .int (iI 1))]) F dX11_copyLengths_242 hl (k := 5) rfl (by decide) rfl (fun ls hl => ?_)
                          refine lv_goto (tgt := 130) F.1 F.2.1 dX11_copyLengths_245 (by decide) ?_
                          exact ih130 (i + 1) ch (va_up gx i.toNat ((vget vs0 i).1)) (va_up gy i.toNat ((vget vs0 i).2)) _ _ _ (by omega) hc ⟨fun h => (hb.mp h).elim (fun z a => ⟨z, a.1, by omega, a.2.2⟩), fun ⟨z, a1, a2, a3⟩ => hb.mpr ⟨z, a1, (show z = i ∨ z < i by omega).elim (fun h => by rw [h] at a3; exact absurd a3 (fun a3 => (by rw [elF, elF, if_pos (by omega), if_pos (by omega)] at a3; exact a3 cc_27))) id, a3⟩⟩ (fun z h1 h2 => by rw [tkV_get (by omega) (by omega) (by omega) h1]; exact (show z = i ∨ z ≠ i by omega).elim (fun h => by rw [h, if_pos (by omega)]; exact ⟨va_upI_s _ _ _, va_upI_s _ _ _⟩) (fun h => by (have q := hRm z h1 h2); rw [tkV_get (by omega) (by omega) (by omega) h1] at q; rw [va_upI_o h1 (by omega) h, va_upI_o h1 (by omega) h]; exact (show z < i ∨ ¬ z < i by omega).elim (fun hz => by rw [if_pos hz] at q; rw [if_pos (by omega)]; exact q) (fun hz => by rw [if_neg hz] at q; rw [if_neg (by omega)]; exact q))) (by omega) (G.perm (ws' := [(m0, mO M 0 xrm xsv xln xat xer xwr xwd xlo xhi xwl xml xkl xfi xse xdn xon xtw xol xrw xgl xus xpr xmk xab), (M 45, aI (K 0) 2 gsz), (M 46, aI (K 4) 2 gex), (M 43, aR (K 7) 2 gE), (M 44, aR (K 8) 2 gS), (ME 0, aI (K 0) 60 e0), (ME 1, aI (K 0) 60 (va_up gx i.toNat ((vget vs0 i).1))), (MS 0, aF (K 3) 60 s0), (MS 1, aF (K 3) 60 (va_up gy i.toNat ((vget vs0 i).2)))]) [0, 1, 2, 3, 4, 5, 6, 7, 8] rfl rfl) (lv_sub hl [2, 3, 4, 5, 1, 0] rfl)
                        · refine ad_iconst F dX11_copyLengths_198 ?_
                          refine lv_goto (tgt := 203) F.1 F.2.1 dX11_copyLengths_199 (by decide) ?_
                          refine ad_iory F (by omega) dX11_copyLengths_203 ?_
                          refine lv_istore (lv' := [(4, .int (iI 1)), (0, .ref m0), (1, .int (iI 0)), (2, .int (iI k)), (3, .int (iI 1)), (5, .int (iI i))]) F.1 F.2.1 dX11_copyLengths_204 hl (by decide) rfl (fun ls hl => ?_)
                          refine lv_aload_n F.1 F.2.1 dX11_copyLengths_206 rfl (lv_at hl 1 rfl) ?_
                          refine ad_get F G fl_X11_75 0 rfl rfl dX11_copyLengths_207 ?_
                          refine lv_iload_n F.1 F.2.1 dX11_copyLengths_210 rfl (lv_at hl 4 rfl) ?_
                          refine ad_aaldA F G 3 7 rfl rfl (w := (ME 1)) (by omega) (hE 1 (by decide)) dX11_copyLengths_211 ?_
                          refine lv_iload F.1 F.2.1 dX11_copyLengths_212 (lv_at hl 5 rfl) ?_
                          refine lv_aload_n F.1 F.2.1 dX11_copyLengths_214 rfl (lv_at hl 1 rfl) ?_
                          refine ad_get F G fl_X11_75 0 rfl rfl dX11_copyLengths_215 ?_
                          refine lv_iload_n F.1 F.2.1 dX11_copyLengths_218 rfl (lv_at hl 2 rfl) ?_
                          refine ad_aaldA F G 3 7 rfl rfl (w := (ME 0)) (by omega) (hE 0 (by decide)) dX11_copyLengths_219 ?_
                          refine lv_iload F.1 F.2.1 dX11_copyLengths_220 (lv_at hl 5 rfl) ?_
                          refine ad_iald F G 5 rfl (w := (vget vs0 i).1) (by omega) hS1.1 dX11_copyLengths_222 ?_
                          refine ad_iast F G 6 rfl (by omega) (ws' := [(m0, mO M 0 xrm xsv xln xat xer xwr xwd xlo xhi xwl xml xkl xfi xse xdn xon xtw xol xrw xgl xus xpr xmk xab), (M 45, aI (K 0) 2 gsz), (M 46, aI (K 4) 2 gex), (M 43, aR (K 7) 2 gE), (M 44, aR (K 8) 2 gS), (ME 0, aI (K 0) 60 e0), (ME 1, aI (K 0) 60 (va_up gx i.toNat ((vget vs0 i).1))), (MS 0, aF (K 3) 60 s0), (MS 1, aF (K 3) 60 gy)]) rfl dX11_copyLengths_223 (fun H locs G => ?_)
                          refine lv_aload_n F.1 F.2.1 dX11_copyLengths_224 rfl (lv_at hl 1 rfl) ?_
                          refine ad_get F G fl_X11_80 0 rfl rfl dX11_copyLengths_225 ?_
                          refine lv_iload_n F.1 F.2.1 dX11_copyLengths_228 rfl (lv_at hl 4 rfl) ?_
                          refine ad_aaldA F G 4 8 rfl rfl (w := (MS 1)) (by omega) (hS 1 (by decide)) dX11_copyLengths_229 ?_
                          refine lv_iload F.1 F.2.1 dX11_copyLengths_230 (lv_at hl 5 rfl) ?_
                          refine lv_aload_n F.1 F.2.1 dX11_copyLengths_232 rfl (lv_at hl 1 rfl) ?_
                          refine ad_get F G fl_X11_80 0 rfl rfl dX11_copyLengths_233 ?_
                          refine lv_iload_n F.1 F.2.1 dX11_copyLengths_236 rfl (lv_at hl 2 rfl) ?_
                          refine ad_aaldA F G 4 8 rfl rfl (w := (MS 0)) (by omega) (hS 0 (by decide)) dX11_copyLengths_237 ?_
                          refine lv_iload F.1 F.2.1 dX11_copyLengths_238 (lv_at hl 5 rfl) ?_
                          refine ad_fald F G 7 rfl (w := (vget vs0 i).2) (by omega) hS1.2 dX11_copyLengths_240 ?_
                          refine ad_fast F G 8 rfl (by omega) (ws' := [(m0, mO M 0 xrm xsv xln xat xer xwr xwd xlo xhi xwl xml xkl xfi xse xdn xon xtw xol xrw xgl xus xpr xmk xab), (M 45, aI (K 0) 2 gsz), (M 46, aI (K 4) 2 gex), (M 43, aR (K 7) 2 gE), (M 44, aR (K 8) 2 gS), (ME 0, aI (K 0) 60 e0), (ME 1, aI (K 0) 60 (va_up gx i.toNat ((vget vs0 i).1))), (MS 0, aF (K 3) 60 s0), (MS 1, aF (K 3) 60 (va_up gy i.toNat ((vget vs0 i).2)))]) rfl dX11_copyLengths_241 (fun H locs G => ?_)
                          refine ad_iinc (lv' := [(5, .int (iI (i + 1))), (4, .int (iI 1)), (0, .ref m0), (1, .int (iI 0)), (2, .int (iI k)), (3, .int (iI 1))]) F dX11_copyLengths_242 hl (k := 5) rfl (by decide) rfl (fun ls hl => ?_)
                          refine lv_goto (tgt := 130) F.1 F.2.1 dX11_copyLengths_245 (by decide) ?_
                          exact ih130 (i + 1) 1 (va_up gx i.toNat ((vget vs0 i).1)) (va_up gy i.toNat ((vget vs0 i).2)) _ _ _ (by omega) (by omega) ⟨fun _ => ⟨i, by omega, by omega, (by rw [elF, elF, if_pos (by omega), if_pos (by omega)]; exact cc_27)⟩, fun _ => rfl⟩ (fun z h1 h2 => by rw [tkV_get (by omega) (by omega) (by omega) h1]; exact (show z = i ∨ z ≠ i by omega).elim (fun h => by rw [h, if_pos (by omega)]; exact ⟨va_upI_s _ _ _, va_upI_s _ _ _⟩) (fun h => by (have q := hRm z h1 h2); rw [tkV_get (by omega) (by omega) (by omega) h1] at q; rw [va_upI_o h1 (by omega) h, va_upI_o h1 (by omega) h]; exact (show z < i ∨ ¬ z < i by omega).elim (fun hz => by rw [if_pos hz] at q; rw [if_pos (by omega)]; exact q) (fun hz => by rw [if_neg hz] at q; rw [if_neg (by omega)]; exact q))) (by omega) (G.perm (ws' := [(m0, mO M 0 xrm xsv xln xat xer xwr xwd xlo xhi xwl xml xkl xfi xse xdn xon xtw xol xrw xgl xus xpr xmk xab), (M 45, aI (K 0) 2 gsz), (M 46, aI (K 4) 2 gex), (M 43, aR (K 7) 2 gE), (M 44, aR (K 8) 2 gS), (ME 0, aI (K 0) 60 e0), (ME 1, aI (K 0) 60 (va_up gx i.toNat ((vget vs0 i).1))), (MS 0, aF (K 3) 60 s0), (MS 1, aF (K 3) 60 (va_up gy i.toNat ((vget vs0 i).2)))]) [0, 1, 2, 3, 4, 5, 6, 7, 8] rfl rfl) (lv_sub hl [2, 3, 4, 5, 1, 0] rfl)
                      · refine lv_aload_n F.1 F.2.1 dX11_copyLengths_147 rfl (lv_at hl 0 rfl) ?_
                        refine ad_get F G fl_X11_75 0 rfl rfl dX11_copyLengths_148 ?_
                        refine lv_iload_n F.1 F.2.1 dX11_copyLengths_151 rfl (lv_at hl 3 rfl) ?_
                        refine ad_aaldA F G 3 7 rfl rfl (w := (ME 1)) (by omega) (hE 1 (by decide)) dX11_copyLengths_152 ?_
                        refine lv_iload F.1 F.2.1 dX11_copyLengths_153 (lv_at hl 5 rfl) ?_
                        refine ad_iald F G 6 rfl (w := (vget vs1 i).1) (by omega) hT1.1 dX11_copyLengths_155 ?_
                        refine lv_aload_n F.1 F.2.1 dX11_copyLengths_156 rfl (lv_at hl 0 rfl) ?_
                        refine ad_get F G fl_X11_75 0 rfl rfl dX11_copyLengths_157 ?_
                        refine lv_iload_n F.1 F.2.1 dX11_copyLengths_160 rfl (lv_at hl 1 rfl) ?_
                        refine ad_aaldA F G 3 7 rfl rfl (w := (ME 0)) (by omega) (hE 0 (by decide)) dX11_copyLengths_161 ?_
                        refine lv_iload F.1 F.2.1 dX11_copyLengths_162 (lv_at hl 5 rfl) ?_
                        refine ad_iald F G 5 rfl (w := (vget vs0 i).1) (by omega) hS1.1 dX11_copyLengths_164 ?_
                        refine ad_icmp_eq (tgt := 172) F (by omega) dX11_copyLengths_165 (by decide) (fun cc_28 => ?_) (fun cc_28 => ?_)
                        · refine ad_iconst F dX11_copyLengths_172 ?_
                          refine lv_goto (tgt := 203) F.1 F.2.1 dX11_copyLengths_173 (by decide) ?_
                          refine ad_iorn F (by omega) dX11_copyLengths_203 ?_
                          refine lv_istore (lv' := [(4, .int (iI ch)), (0, .ref m0), (1, .int (iI 0)), (2, .int (iI k)), (3, .int (iI 1)), (5, .int (iI i))]) F.1 F.2.1 dX11_copyLengths_204 hl (by decide) rfl (fun ls hl => ?_)
                          refine lv_aload_n F.1 F.2.1 dX11_copyLengths_206 rfl (lv_at hl 1 rfl) ?_
                          refine ad_get F G fl_X11_75 0 rfl rfl dX11_copyLengths_207 ?_
                          refine lv_iload_n F.1 F.2.1 dX11_copyLengths_210 rfl (lv_at hl 4 rfl) ?_
                          refine ad_aaldA F G 3 7 rfl rfl (w := (ME 1)) (by omega) (hE 1 (by decide)) dX11_copyLengths_211 ?_
                          refine lv_iload F.1 F.2.1 dX11_copyLengths_212 (lv_at hl 5 rfl) ?_
                          refine lv_aload_n F.1 F.2.1 dX11_copyLengths_214 rfl (lv_at hl 1 rfl) ?_
                          refine ad_get F G fl_X11_75 0 rfl rfl dX11_copyLengths_215 ?_
                          refine lv_iload_n F.1 F.2.1 dX11_copyLengths_218 rfl (lv_at hl 2 rfl) ?_
                          refine ad_aaldA F G 3 7 rfl rfl (w := (ME 0)) (by omega) (hE 0 (by decide)) dX11_copyLengths_219 ?_
                          refine lv_iload F.1 F.2.1 dX11_copyLengths_220 (lv_at hl 5 rfl) ?_
                          refine ad_iald F G 5 rfl (w := (vget vs0 i).1) (by omega) hS1.1 dX11_copyLengths_222 ?_
                          refine ad_iast F G 6 rfl (by omega) (ws' := [(m0, mO M 0 xrm xsv xln xat xer xwr xwd xlo xhi xwl xml xkl xfi xse xdn xon xtw xol xrw xgl xus xpr xmk xab), (M 45, aI (K 0) 2 gsz), (M 46, aI (K 4) 2 gex), (M 43, aR (K 7) 2 gE), (M 44, aR (K 8) 2 gS), (ME 0, aI (K 0) 60 e0), (ME 1, aI (K 0) 60 (va_up gx i.toNat ((vget vs0 i).1))), (MS 0, aF (K 3) 60 s0), (MS 1, aF (K 3) 60 gy)]) rfl dX11_copyLengths_223 (fun H locs G => ?_)
                          refine lv_aload_n F.1 F.2.1 dX11_copyLengths_224 rfl (lv_at hl 1 rfl) ?_
                          refine ad_get F G fl_X11_80 0 rfl rfl dX11_copyLengths_225 ?_
                          refine lv_iload_n F.1 F.2.1 dX11_copyLengths_228 rfl (lv_at hl 4 rfl) ?_
                          refine ad_aaldA F G 4 8 rfl rfl (w := (MS 1)) (by omega) (hS 1 (by decide)) dX11_copyLengths_229 ?_
                          refine lv_iload F.1 F.2.1 dX11_copyLengths_230 (lv_at hl 5 rfl) ?_
                          refine lv_aload_n F.1 F.2.1 dX11_copyLengths_232 rfl (lv_at hl 1 rfl) ?_
                          refine ad_get F G fl_X11_80 0 rfl rfl dX11_copyLengths_233 ?_
                          refine lv_iload_n F.1 F.2.1 dX11_copyLengths_236 rfl (lv_at hl 2 rfl) ?_
                          refine ad_aaldA F G 4 8 rfl rfl (w := (MS 0)) (by omega) (hS 0 (by decide)) dX11_copyLengths_237 ?_
                          refine lv_iload F.1 F.2.1 dX11_copyLengths_238 (lv_at hl 5 rfl) ?_
                          refine ad_fald F G 7 rfl (w := (vget vs0 i).2) (by omega) hS1.2 dX11_copyLengths_240 ?_
                          refine ad_fast F G 8 rfl (by omega) (ws' := [(m0, mO M 0 xrm xsv xln xat xer xwr xwd xlo xhi xwl xml xkl xfi xse xdn xon xtw xol xrw xgl xus xpr xmk xab), (M 45, aI (K 0) 2 gsz), (M 46, aI (K 4) 2 gex), (M 43, aR (K 7) 2 gE), (M 44, aR (K 8) 2 gS), (ME 0, aI (K 0) 60 e0), (ME 1, aI (K 0) 60 (va_up gx i.toNat ((vget vs0 i).1))), (MS 0, aF (K 3) 60 s0), (MS 1, aF (K 3) 60 (va_up gy i.toNat ((vget vs0 i).2)))]) rfl dX11_copyLengths_241 (fun H locs G => ?_)
                          refine ad_iinc (lv' := [(5, .int (iI (i + 1))), (4, .int (iI ch)), (0, .ref m0), (1, .int (iI 0)), (2, .int (iI k)), (3, .int (iI 1))]) F dX11_copyLengths_242 hl (k := 5) rfl (by decide) rfl (fun ls hl => ?_)
                          refine lv_goto (tgt := 130) F.1 F.2.1 dX11_copyLengths_245 (by decide) ?_
                          exact ih130 (i + 1) ch (va_up gx i.toNat ((vget vs0 i).1)) (va_up gy i.toNat ((vget vs0 i).2)) _ _ _ (by omega) hc ⟨fun h => (hb.mp h).elim (fun z a => ⟨z, a.1, by omega, a.2.2⟩), fun ⟨z, a1, a2, a3⟩ => hb.mpr ⟨z, a1, (show z = i ∨ z < i by omega).elim (fun h => by rw [h] at a3; exact absurd a3 (fun a3 => ((dif_int (x := x0) (show x0 ≠ 0 by omega) hbT hbS).mp a3 cc_28))) id, a3⟩⟩ (fun z h1 h2 => by rw [tkV_get (by omega) (by omega) (by omega) h1]; exact (show z = i ∨ z ≠ i by omega).elim (fun h => by rw [h, if_pos (by omega)]; exact ⟨va_upI_s _ _ _, va_upI_s _ _ _⟩) (fun h => by (have q := hRm z h1 h2); rw [tkV_get (by omega) (by omega) (by omega) h1] at q; rw [va_upI_o h1 (by omega) h, va_upI_o h1 (by omega) h]; exact (show z < i ∨ ¬ z < i by omega).elim (fun hz => by rw [if_pos hz] at q; rw [if_pos (by omega)]; exact q) (fun hz => by rw [if_neg hz] at q; rw [if_neg (by omega)]; exact q))) (by omega) (G.perm (ws' := [(m0, mO M 0 xrm xsv xln xat xer xwr xwd xlo xhi xwl xml xkl xfi xse xdn xon xtw xol xrw xgl xus xpr xmk xab), (M 45, aI (K 0) 2 gsz), (M 46, aI (K 4) 2 gex), (M 43, aR (K 7) 2 gE), (M 44, aR (K 8) 2 gS), (ME 0, aI (K 0) 60 e0), (ME 1, aI (K 0) 60 (va_up gx i.toNat ((vget vs0 i).1))), (MS 0, aF (K 3) 60 s0), (MS 1, aF (K 3) 60 (va_up gy i.toNat ((vget vs0 i).2)))]) [0, 1, 2, 3, 4, 5, 6, 7, 8] rfl rfl) (lv_sub hl [2, 3, 4, 5, 1, 0] rfl)
                        · refine ad_iconst F dX11_copyLengths_168 ?_
                          refine lv_goto (tgt := 203) F.1 F.2.1 dX11_copyLengths_169 (by decide) ?_
                          refine ad_iory F (by omega) dX11_copyLengths_203 ?_
                          refine lv_istore (lv' := [(4, .int (iI 1)), (0, .ref m0), (1, .int (iI 0)), (2, .int (iI k)), (3, .int (iI 1)), (5, .int (iI i))]) F.1 F.2.1 dX11_copyLengths_204 hl (by decide) rfl (fun ls hl => ?_)
                          refine lv_aload_n F.1 F.2.1 dX11_copyLengths_206 rfl (lv_at hl 1 rfl) ?_
                          refine ad_get F G fl_X11_75 0 rfl rfl dX11_copyLengths_207 ?_
                          refine lv_iload_n F.1 F.2.1 dX11_copyLengths_210 rfl (lv_at hl 4 rfl) ?_
                          refine ad_aaldA F G 3 7 rfl rfl (w := (ME 1)) (by omega) (hE 1 (by decide)) dX11_copyLengths_211 ?_
                          refine lv_iload F.1 F.2.1 dX11_copyLengths_212 (lv_at hl 5 rfl) ?_
                          refine lv_aload_n F.1 F.2.1 dX11_copyLengths_214 rfl (lv_at hl 1 rfl) ?_
                          refine ad_get F G fl_X11_75 0 rfl rfl dX11_copyLengths_215 ?_
                          refine lv_iload_n F.1 F.2.1 dX11_copyLengths_218 rfl (lv_at hl 2 rfl) ?_
                          refine ad_aaldA F G 3 7 rfl rfl (w := (ME 0)) (by omega) (hE 0 (by decide)) dX11_copyLengths_219 ?_
                          refine lv_iload F.1 F.2.1 dX11_copyLengths_220 (lv_at hl 5 rfl) ?_
                          refine ad_iald F G 5 rfl (w := (vget vs0 i).1) (by omega) hS1.1 dX11_copyLengths_222 ?_
                          refine ad_iast F G 6 rfl (by omega) (ws' := [(m0, mO M 0 xrm xsv xln xat xer xwr xwd xlo xhi xwl xml xkl xfi xse xdn xon xtw xol xrw xgl xus xpr xmk xab), (M 45, aI (K 0) 2 gsz), (M 46, aI (K 4) 2 gex), (M 43, aR (K 7) 2 gE), (M 44, aR (K 8) 2 gS), (ME 0, aI (K 0) 60 e0), (ME 1, aI (K 0) 60 (va_up gx i.toNat ((vget vs0 i).1))), (MS 0, aF (K 3) 60 s0), (MS 1, aF (K 3) 60 gy)]) rfl dX11_copyLengths_223 (fun H locs G => ?_)
                          refine lv_aload_n F.1 F.2.1 dX11_copyLengths_224 rfl (lv_at hl 1 rfl) ?_
                          refine ad_get F G fl_X11_80 0 rfl rfl dX11_copyLengths_225 ?_
                          refine lv_iload_n F.1 F.2.1 dX11_copyLengths_228 rfl (lv_at hl 4 rfl) ?_
                          refine ad_aaldA F G 4 8 rfl rfl (w := (MS 1)) (by omega) (hS 1 (by decide)) dX11_copyLengths_229 ?_
                          refine lv_iload F.1 F.2.1 dX11_copyLengths_230 (lv_at hl 5 rfl) ?_
                          refine lv_aload_n F.1 F.2.1 dX11_copyLengths_232 rfl (lv_at hl 1 rfl) ?_
                          refine ad_get F G fl_X11_80 0 rfl rfl dX11_copyLengths_233 ?_
                          refine lv_iload_n F.1 F.2.1 dX11_copyLengths_236 rfl (lv_at hl 2 rfl) ?_
                          refine ad_aaldA F G 4 8 rfl rfl (w := (MS 0)) (by omega) (hS 0 (by decide)) dX11_copyLengths_237 ?_
                          refine lv_iload F.1 F.2.1 dX11_copyLengths_238 (lv_at hl 5 rfl) ?_
                          refine ad_fald F G 7 rfl (w := (vget vs0 i).2) (by omega) hS1.2 dX11_copyLengths_240 ?_
                          refine ad_fast F G 8 rfl (by omega) (ws' := [(m0, mO M 0 xrm xsv xln xat xer xwr xwd xlo xhi xwl xml xkl xfi xse xdn xon xtw xol xrw xgl xus xpr xmk xab), (M 45, aI (K 0) 2 gsz), (M 46, aI (K 4) 2 gex), (M 43, aR (K 7) 2 gE), (M 44, aR (K 8) 2 gS), (ME 0, aI (K 0) 60 e0), (ME 1, aI (K 0) 60 (va_up gx i.toNat ((vget vs0 i).1))), (MS 0, aF (K 3) 60 s0), (MS 1, aF (K 3) 60 (va_up gy i.toNat ((vget vs0 i).2)))]) rfl dX11_copyLengths_241 (fun H locs G => ?_)
                          refine ad_iinc (lv' := [(5, .int (iI (i + 1))), (4, .int (iI 1)), (0, .ref m0), (1, .int (iI 0)), (2, .int (iI k)), (3, .int (iI 1))]) F dX11_copyLengths_242 hl (k := 5) rfl (by decide) rfl (fun ls hl => ?_)
                          refine lv_goto (tgt := 130) F.1 F.2.1 dX11_copyLengths_245 (by decide) ?_
                          exact ih130 (i + 1) 1 (va_up gx i.toNat ((vget vs0 i).1)) (va_up gy i.toNat ((vget vs0 i).2)) _ _ _ (by omega) (by omega) ⟨fun _ => ⟨i, by omega, by omega, ((dif_int (x := x0) (show x0 ≠ 0 by omega) hbT hbS).mpr cc_28)⟩, fun _ => rfl⟩ (fun z h1 h2 => by rw [tkV_get (by omega) (by omega) (by omega) h1]; exact (show z = i ∨ z ≠ i by omega).elim (fun h => by rw [h, if_pos (by omega)]; exact ⟨va_upI_s _ _ _, va_upI_s _ _ _⟩) (fun h => by (have q := hRm z h1 h2); rw [tkV_get (by omega) (by omega) (by omega) h1] at q; rw [va_upI_o h1 (by omega) h, va_upI_o h1 (by omega) h]; exact (show z < i ∨ ¬ z < i by omega).elim (fun hz => by rw [if_pos hz] at q; rw [if_pos (by omega)]; exact q) (fun hz => by rw [if_neg hz] at q; rw [if_neg (by omega)]; exact q))) (by omega) (G.perm (ws' := [(m0, mO M 0 xrm xsv xln xat xer xwr xwd xlo xhi xwl xml xkl xfi xse xdn xon xtw xol xrw xgl xus xpr xmk xab), (M 45, aI (K 0) 2 gsz), (M 46, aI (K 4) 2 gex), (M 43, aR (K 7) 2 gE), (M 44, aR (K 8) 2 gS), (ME 0, aI (K 0) 60 e0), (ME 1, aI (K 0) 60 (va_up gx i.toNat ((vget vs0 i).1))), (MS 0, aF (K 3) 60 s0), (MS 1, aF (K 3) 60 (va_up gy i.toNat ((vget vs0 i).2)))]) [0, 1, 2, 3, 4, 5, 6, 7, 8] rfl rfl) (lv_sub hl [2, 3, 4, 5, 1, 0] rfl)
                exact lp130 ((((k - 0 : Int)) + 1).toNat) 0 0 e1 s1 _ _ _ (by omega) hc_2 ⟨fun h => absurd h (by decide), fun ⟨z, a1, a2, _⟩ => absurd (show z < 0 from a2) (by omega)⟩ (fun z h1 h2 => by rw [tkV_0]; exact hr1 z h1 h2) (by omega) (G.perm (ws' := [(m0, mO M 0 xrm xsv xln xat xer xwr xwd xlo xhi xwl xml xkl xfi xse xdn xon xtw xol xrw xgl xus xpr xmk xab), (M 45, aI (K 0) 2 gsz), (M 46, aI (K 4) 2 gex), (M 43, aR (K 7) 2 gE), (M 44, aR (K 8) 2 gS), (ME 0, aI (K 0) 60 e0), (ME 1, aI (K 0) 60 e1), (MS 0, aF (K 3) 60 s0), (MS 1, aF (K 3) 60 s1)]) [0, 1, 2, 3, 4, 5, 6, 7, 8] rfl rfl) (lv_sub hl [3, 4, 5, 2, 1, 0] rfl)
              · refine ad_iconst F dX11_copyLengths_107 ?_
                refine lv_goto (tgt := 112) F.1 F.2.1 dX11_copyLengths_108 (by decide) ?_
                refine ad_callV (As := [.int (iI 4), .int (iI 1)]) (rest := []) F G (c_X11_fails_1 l D K z0 m0 M 0 xrm xsv xln xat xer xwr xwd xlo xhi xwl xml xkl xfi xse xdn xon xtw xol xrw xgl xus xpr xmk xab 4 (by omega)) my_X11_fails mv_X11_111 (wr := [(M 45, aI (K 0) 2 gsz), (M 46, aI (K 4) 2 gex), (M 43, aR (K 7) 2 gE), (M 44, aR (K 8) 2 gS), (ME 0, aI (K 0) 60 e0), (ME 1, aI (K 0) 60 e1), (MS 0, aF (K 3) 60 s0), (MS 1, aF (K 3) 60 s1)]) (isC := [0]) (isR := [1, 2, 3, 4, 5, 6, 7, 8]) ⟨rfl, rfl, rfl, rfl, by decide⟩ 11 0 rfl rfl rfl rfl ⟨Nat.le_of_ble_eq_true rfl, Nat.le_of_ble_eq_true rfl⟩ ⟨Nat.le_of_ble_eq_true rfl, Nat.le_of_ble_eq_true rfl⟩ (Nat.le_of_ble_eq_true rfl) hl.1 (cells9 := 0) (slots9 := 0) ⟨rfl, rfl⟩ dX11_copyLengths_112 (fun v u H locs hw_29 G => ?_)
                obtain ⟨rfl, rfl⟩ := hw_29
                replace G := G.perm (ws' := [(m0, mO M 4 xrm xsv xln xat xer xwr xwd xlo xhi xwl xml xkl xfi xse xdn xon xtw xol xrw xgl xus xpr xmk xab), (M 45, aI (K 0) 2 gsz), (M 46, aI (K 4) 2 gex), (M 43, aR (K 7) 2 gE), (M 44, aR (K 8) 2 gS), (ME 0, aI (K 0) 60 e0), (ME 1, aI (K 0) 60 e1), (MS 0, aF (K 3) 60 s0), (MS 1, aF (K 3) 60 s1)]) [8, 0, 1, 2, 3, 4, 5, 6, 7] rfl rfl
                refine W.eq (g2 := F0 m9 115 ls [.int (iI 1)]) rfl ?_
                refine ad_if_eq (tgt := 120) F (by decide) dX11_copyLengths_115 (by decide) (fun cc_30 => absurd cc_30 (by decide)) (fun _ => ?_)
                refine ad_iconst F dX11_copyLengths_118 ?_
                exact ad_zreturn F G hR rfl (Nat.le_of_ble_eq_true rfl) (Nat.le_of_ble_eq_true rfl) rfl (Or.inr (Or.inr (Or.inl ⟨rfl, (by omega), cc_13, (by omega), rfl⟩))) dX11_copyLengths_119
        · refine ad_iconst F dX11_copyLengths_68 ?_
          refine lv_goto (tgt := 73) F.1 F.2.1 dX11_copyLengths_69 (by decide) ?_
          refine ad_callV (As := [.int (iI 3), .int (iI 1)]) (rest := []) F G (c_X11_fails_1 l D K z0 m0 M 0 xrm xsv xln xat xer xwr xwd xlo xhi xwl xml xkl xfi xse xdn xon xtw xol xrw xgl xus xpr xmk xab 3 (by omega)) my_X11_fails mv_X11_111 (wr := [(M 45, aI (K 0) 2 gsz), (M 46, aI (K 4) 2 gex), (M 43, aR (K 7) 2 gE), (M 44, aR (K 8) 2 gS), (ME 0, aI (K 0) 60 e0), (ME 1, aI (K 0) 60 e1), (MS 0, aF (K 3) 60 s0), (MS 1, aF (K 3) 60 s1)]) (isC := [0]) (isR := [1, 2, 3, 4, 5, 6, 7, 8]) ⟨rfl, rfl, rfl, rfl, by decide⟩ 11 0 rfl rfl rfl rfl ⟨Nat.le_of_ble_eq_true rfl, Nat.le_of_ble_eq_true rfl⟩ ⟨Nat.le_of_ble_eq_true rfl, Nat.le_of_ble_eq_true rfl⟩ (Nat.le_of_ble_eq_true rfl) hl.1 (cells9 := 0) (slots9 := 0) ⟨rfl, rfl⟩ dX11_copyLengths_73 (fun v u H locs hw_31 G => ?_)
          obtain ⟨rfl, rfl⟩ := hw_31
          replace G := G.perm (ws' := [(m0, mO M 3 xrm xsv xln xat xer xwr xwd xlo xhi xwl xml xkl xfi xse xdn xon xtw xol xrw xgl xus xpr xmk xab), (M 45, aI (K 0) 2 gsz), (M 46, aI (K 4) 2 gex), (M 43, aR (K 7) 2 gE), (M 44, aR (K 8) 2 gS), (ME 0, aI (K 0) 60 e0), (ME 1, aI (K 0) 60 e1), (MS 0, aF (K 3) 60 s0), (MS 1, aF (K 3) 60 s1)]) [8, 0, 1, 2, 3, 4, 5, 6, 7] rfl rfl
          refine W.eq (g2 := F0 m9 76 ls [.int (iI 1)]) rfl ?_
          refine ad_if_eq (tgt := 81) F (by decide) dX11_copyLengths_76 (by decide) (fun cc_32 => absurd cc_32 (by decide)) (fun _ => ?_)
          refine ad_iconst F dX11_copyLengths_79 ?_
          exact ad_zreturn F G hR rfl (Nat.le_of_ble_eq_true rfl) (Nat.le_of_ble_eq_true rfl) rfl (Or.inr (Or.inl ⟨rfl, (by omega), cc_13, rfl⟩)) dX11_copyLengths_80
      · refine ad_iconst F dX11_copyLengths_40 ?_
        refine lv_goto (tgt := 45) F.1 F.2.1 dX11_copyLengths_41 (by decide) ?_
        refine ad_callV (As := [.int (iI 2), .int (iI 1)]) (rest := []) F G (c_X11_fails_1 l D K z0 m0 M 0 xrm xsv xln xat xer xwr xwd xlo xhi xwl xml xkl xfi xse xdn xon xtw xol xrw xgl xus xpr xmk xab 2 (by omega)) my_X11_fails mv_X11_111 (wr := [(M 45, aI (K 0) 2 gsz), (M 46, aI (K 4) 2 gex), (M 43, aR (K 7) 2 gE), (M 44, aR (K 8) 2 gS), (ME 0, aI (K 0) 60 e0), (ME 1, aI (K 0) 60 e1), (MS 0, aF (K 3) 60 s0), (MS 1, aF (K 3) 60 s1)]) (isC := [0]) (isR := [1, 2, 3, 4, 5, 6, 7, 8]) ⟨rfl, rfl, rfl, rfl, by decide⟩ 11 0 rfl rfl rfl rfl ⟨Nat.le_of_ble_eq_true rfl, Nat.le_of_ble_eq_true rfl⟩ ⟨Nat.le_of_ble_eq_true rfl, Nat.le_of_ble_eq_true rfl⟩ (Nat.le_of_ble_eq_true rfl) hl.1 (cells9 := 0) (slots9 := 0) ⟨rfl, rfl⟩ dX11_copyLengths_45 (fun v u H locs hw_33 G => ?_)
        obtain ⟨rfl, rfl⟩ := hw_33
        replace G := G.perm (ws' := [(m0, mO M 2 xrm xsv xln xat xer xwr xwd xlo xhi xwl xml xkl xfi xse xdn xon xtw xol xrw xgl xus xpr xmk xab), (M 45, aI (K 0) 2 gsz), (M 46, aI (K 4) 2 gex), (M 43, aR (K 7) 2 gE), (M 44, aR (K 8) 2 gS), (ME 0, aI (K 0) 60 e0), (ME 1, aI (K 0) 60 e1), (MS 0, aF (K 3) 60 s0), (MS 1, aF (K 3) 60 s1)]) [8, 0, 1, 2, 3, 4, 5, 6, 7] rfl rfl
        refine W.eq (g2 := F0 m9 48 ls [.int (iI 1)]) rfl ?_
        refine ad_if_ne (tgt := 79) F (by decide) dX11_copyLengths_48 (by decide) (fun _ => ?_) (fun cc_34 => absurd cc_34 (by decide))
        refine ad_iconst F dX11_copyLengths_79 ?_
        exact ad_zreturn F G hR rfl (Nat.le_of_ble_eq_true rfl) (Nat.le_of_ble_eq_true rfl) rfl (Or.inl ⟨rfl, (by omega), rfl⟩) dX11_copyLengths_80
  · replace G := G.perm (ws' := [(m0, mO M xth xrm xsv xln xat xer xwr xwd xlo xhi xwl xml xkl xfi xse xdn xon xtw xol xrw xgl xus xpr xmk xab), (M 45, aI (K 0) 2 gsz), (M 46, aI (K 4) 2 gex), (M 43, aR (K 7) 2 gE), (M 44, aR (K 8) 2 gS), (ME 0, aI (K 0) 60 e0), (ME 1, aI (K 0) 60 e1), (MS 0, aF (K 3) 60 s0), (MS 1, aF (K 3) 60 s1)]) [0, 1, 2, 3, 4, 5, 6, 7, 8] rfl rfl
    refine W.eq (g2 := F0 m9 6 ls [.int (iI 0), .int (iI 1), .ref m0]) rfl ?_
    exfalso; omega

def rm_X11_storedBits_0 : Room := { frames := 3, cells := 0, slots := 0, locals := 54 }
set_option maxHeartbeats 4000000 in
set_option maxRecDepth 100000 in
theorem c_X11_storedBits_0 (l : Launch) (D : va_G) (K : Nat → ClassId) (z0 : Nat) (m0 : Nat) (M : Nat → Nat) (xth : Int) (xrm : Int) (xsv : Int) (xln : Int) (xat : Int) (xer : Int) (xwr : Int) (xwd : Int) (xlo : Int) (xhi : Int) (xwl : Int) (xml : Int) (xkl : Int) (xfi : Int) (xse : Int) (xdn : Int) (xon : Int) (xtw : Int) (xol : Int) (xrw : Int) (xgl : Int) (xus : Int) (xpr : Int) (xmk : Int) (xab : Int) (gsz : Nat → Int) (gex : Nat → Int) (ME : Nat → Nat) (MS : Nat → Nat) (gE : Nat → Option Nat) (gS : Nat → Option Nat) (e0 : Nat → Int) (e1 : Nat → Int) (s0 : Nat → UInt32) (s1 : Nat → UInt32) (sz0 : Int) (sz1 : Int) (x0 : Int) (x1 : Int) (vs0 : List Vw) (vs1 : List Vw) (z : Int) (hE : ∀ j : Nat, j < 2 → gE j = some (ME j)) (hS : ∀ j : Nat, j < 2 → gS j = some (MS j)) (hsz : gsz 0 = sz0 ∧ gsz 1 = sz1) (hxx : gex 0 = x0 ∧ gex 1 = x1) (hb_ : -1 ≤ sz0 ∧ sz0 ≤ 50 ∧ -1 ≤ sz1 ∧ sz1 ≤ 50) (hx01 : (x0 = 0 ∨ x0 = 1) ∧ (x1 = 0 ∨ x1 = 1)) (hv0 : 0 ≤ sz0 → sz0 = vs0.length ∧ VOk vs0 ∧ ∀ z : Int, 0 ≤ z → z < vs0.length → e0 z.toNat = (vget vs0 z).1 ∧ s0 z.toNat = (vget vs0 z).2) (hv1 : 0 ≤ sz1 → sz1 = vs1.length ∧ VOk vs1 ∧ ∀ z : Int, 0 ≤ z → z < vs1.length → e1 z.toNat = (vget vs1 z).1 ∧ s1 z.toNat = (vget vs1 z).2) (hz : -2147483648 ≤ z ∧ z < 2147483648) : CT l D K z0 yX11_storedBits cX11_storedBits 3 (some .int) rm_X11_storedBits_0 [.ref m0, .int (iI 0), .int (iI z)] [(m0, mO M xth xrm xsv xln xat xer xwr xwd xlo xhi xwl xml xkl xfi xse xdn xon xtw xol xrw xgl xus xpr xmk xab), (M 45, aI (K 0) 2 gsz), (M 46, aI (K 4) 2 gex), (M 43, aR (K 7) 2 gE), (M 44, aR (K 8) 2 gS), (ME 0, aI (K 0) 60 e0), (ME 1, aI (K 0) 60 e1), (MS 0, aF (K 3) 60 s0), (MS 1, aF (K 3) 60 s1)] (fun v9 u9 => (v9 = some (.int (iI 0)) ∧ (¬ (0 ≤ z ∧ z < sz0)) ∧ u9 = [(m0, mO M 2 xrm xsv xln xat xer xwr xwd xlo xhi xwl xml xkl xfi xse xdn xon xtw xol xrw xgl xus xpr xmk xab), (M 45, aI (K 0) 2 gsz), (M 46, aI (K 4) 2 gex), (M 43, aR (K 7) 2 gE), (M 44, aR (K 8) 2 gS), (ME 0, aI (K 0) 60 e0), (ME 1, aI (K 0) 60 e1), (MS 0, aF (K 3) 60 s0), (MS 1, aF (K 3) 60 s1)]) ∨ (v9 = some (.int (iI ((elF x0 vs0 z).toInt32.toInt))) ∧ (0 ≤ z ∧ z < sz0) ∧ u9 = [(m0, mO M 0 xrm xsv xln xat xer xwr xwd xlo xhi xwl xml xkl xfi xse xdn xon xtw xol xrw xgl xus xpr xmk xab), (M 45, aI (K 0) 2 gsz), (M 46, aI (K 4) 2 gex), (M 43, aR (K 7) 2 gE), (M 44, aR (K 8) 2 gS), (ME 0, aI (K 0) 60 e0), (ME 1, aI (K 0) 60 e1), (MS 0, aF (K 3) 60 s0), (MS 1, aF (K 3) 60 s1)])) := by
  refine CT.start RX11 "storedBits" (by decide) rfl rfl (Nat.le_of_ble_eq_true rfl) ?_
  intro p9 e9 s9 m9 ag9 bl9 mt9 c9 A9 Q9 ls F G hR hl
  have hl : lv_has ls 3 [(0, .ref m0), (1, .int (iI 0)), (2, .int (iI z))] := hl
  refine lv_aload_n F.1 F.2.1 dX11_storedBits_0 rfl (lv_at hl 0 rfl) ?_
  refine ad_iconst F dX11_storedBits_1 ?_
  refine lv_iload_n F.1 F.2.1 dX11_storedBits_2 rfl (lv_at hl 1 rfl) ?_
  refine ad_callS (As := [.int (iI 0)]) (rest := [.int (iI 1), .ref m0]) F G (c_X11_isRow l D K z0 0 (by omega)) my_X11_isRow ms_X11_345 (wr := [(m0, mO M xth xrm xsv xln xat xer xwr xwd xlo xhi xwl xml xkl xfi xse xdn xon xtw xol xrw xgl xus xpr xmk xab), (M 45, aI (K 0) 2 gsz), (M 46, aI (K 4) 2 gex), (M 43, aR (K 7) 2 gE), (M 44, aR (K 8) 2 gS), (ME 0, aI (K 0) 60 e0), (ME 1, aI (K 0) 60 e1), (MS 0, aF (K 3) 60 s0), (MS 1, aF (K 3) 60 s1)]) (isC := []) (isR := [0, 1, 2, 3, 4, 5, 6, 7, 8]) ⟨rfl, rfl, rfl, rfl, by decide⟩ rfl rfl ⟨Nat.le_of_ble_eq_true rfl, Nat.le_of_ble_eq_true rfl⟩ ⟨Nat.le_of_ble_eq_true rfl, Nat.le_of_ble_eq_true rfl⟩ (Nat.le_of_ble_eq_true rfl) hl.1 (cells9 := 0) (slots9 := 0) ⟨rfl, rfl⟩ dX11_storedBits_3 (fun v u H locs hw_1 G => ?_)
  rcases hw_1 with ⟨rfl, hc_2, rfl⟩ | ⟨rfl, hc_3, rfl⟩
  · replace G := G.perm (ws' := [(m0, mO M xth xrm xsv xln xat xer xwr xwd xlo xhi xwl xml xkl xfi xse xdn xon xtw xol xrw xgl xus xpr xmk xab), (M 45, aI (K 0) 2 gsz), (M 46, aI (K 4) 2 gex), (M 43, aR (K 7) 2 gE), (M 44, aR (K 8) 2 gS), (ME 0, aI (K 0) 60 e0), (ME 1, aI (K 0) 60 e1), (MS 0, aF (K 3) 60 s0), (MS 1, aF (K 3) 60 s1)]) [0, 1, 2, 3, 4, 5, 6, 7, 8] rfl rfl
    refine W.eq (g2 := F0 m9 6 ls [.int (iI 1), .int (iI 1), .ref m0]) rfl ?_
    refine ad_if_ne (tgt := 13) F (by decide) dX11_storedBits_6 (by decide) (fun _ => ?_) (fun cc_4 => absurd cc_4 (by decide))
    refine ad_iconst F dX11_storedBits_13 ?_
    refine ad_callV (As := [.int (iI 1), .int (iI 0)]) (rest := []) F G (c_X11_fails_0 l D K z0 m0 M xth xrm xsv xln xat xer xwr xwd xlo xhi xwl xml xkl xfi xse xdn xon xtw xol xrw xgl xus xpr xmk xab 1 (by omega)) my_X11_fails mv_X11_111 (wr := [(M 45, aI (K 0) 2 gsz), (M 46, aI (K 4) 2 gex), (M 43, aR (K 7) 2 gE), (M 44, aR (K 8) 2 gS), (ME 0, aI (K 0) 60 e0), (ME 1, aI (K 0) 60 e1), (MS 0, aF (K 3) 60 s0), (MS 1, aF (K 3) 60 s1)]) (isC := [0]) (isR := [1, 2, 3, 4, 5, 6, 7, 8]) ⟨rfl, rfl, rfl, rfl, by decide⟩ 11 0 rfl rfl rfl rfl ⟨Nat.le_of_ble_eq_true rfl, Nat.le_of_ble_eq_true rfl⟩ ⟨Nat.le_of_ble_eq_true rfl, Nat.le_of_ble_eq_true rfl⟩ (Nat.le_of_ble_eq_true rfl) hl.1 (cells9 := 0) (slots9 := 0) ⟨rfl, rfl⟩ dX11_storedBits_14 (fun v u H locs hw_5 G => ?_)
    obtain ⟨rfl, rfl⟩ := hw_5
    replace G := G.perm (ws' := [(m0, mO M 0 xrm xsv xln xat xer xwr xwd xlo xhi xwl xml xkl xfi xse xdn xon xtw xol xrw xgl xus xpr xmk xab), (M 45, aI (K 0) 2 gsz), (M 46, aI (K 4) 2 gex), (M 43, aR (K 7) 2 gE), (M 44, aR (K 8) 2 gS), (ME 0, aI (K 0) 60 e0), (ME 1, aI (K 0) 60 e1), (MS 0, aF (K 3) 60 s0), (MS 1, aF (K 3) 60 s1)]) [8, 0, 1, 2, 3, 4, 5, 6, 7] rfl rfl
    refine W.eq (g2 := F0 m9 17 ls [.int (iI 0)]) rfl ?_
    refine ad_if_ne (tgt := 49) F (by decide) dX11_storedBits_17 (by decide) (fun cc_6 => absurd cc_6 (by decide)) (fun _ => ?_)
    refine lv_aload_n F.1 F.2.1 dX11_storedBits_20 rfl (lv_at hl 0 rfl) ?_
    refine ad_iconst F dX11_storedBits_21 ?_
    refine lv_iload_n F.1 F.2.1 dX11_storedBits_22 rfl (lv_at hl 2 rfl) ?_
    refine ad_iconst F dX11_storedBits_23 ?_
    refine lv_aload_n F.1 F.2.1 dX11_storedBits_24 rfl (lv_at hl 0 rfl) ?_
    refine ad_get F G fl_X11_83 0 rfl rfl dX11_storedBits_25 ?_
    refine lv_iload_n F.1 F.2.1 dX11_storedBits_28 rfl (lv_at hl 1 rfl) ?_
    refine ad_iald F G 1 rfl (w := sz0) (by omega) hsz.1 dX11_storedBits_29 ?_
    refine ad_iconst F dX11_storedBits_30 ?_
    refine ad_isub F dX11_storedBits_31 ?_
    refine ad_callS (As := [.int (iI z), .int (iI 0), .int (iI (sz0 - 1))]) (rest := [.int (iI 2), .ref m0]) F G (c_X11_isBetween l D K z0 z 0 (sz0 - 1) hz (by omega) (by omega)) my_X11_isBetween ms_X11_107 (wr := [(m0, mO M 0 xrm xsv xln xat xer xwr xwd xlo xhi xwl xml xkl xfi xse xdn xon xtw xol xrw xgl xus xpr xmk xab), (M 45, aI (K 0) 2 gsz), (M 46, aI (K 4) 2 gex), (M 43, aR (K 7) 2 gE), (M 44, aR (K 8) 2 gS), (ME 0, aI (K 0) 60 e0), (ME 1, aI (K 0) 60 e1), (MS 0, aF (K 3) 60 s0), (MS 1, aF (K 3) 60 s1)]) (isC := []) (isR := [0, 1, 2, 3, 4, 5, 6, 7, 8]) ⟨rfl, rfl, rfl, rfl, by decide⟩ rfl rfl ⟨Nat.le_of_ble_eq_true rfl, Nat.le_of_ble_eq_true rfl⟩ ⟨Nat.le_of_ble_eq_true rfl, Nat.le_of_ble_eq_true rfl⟩ (Nat.le_of_ble_eq_true rfl) hl.1 (cells9 := 0) (slots9 := 0) ⟨rfl, rfl⟩ dX11_storedBits_32 (fun v u H locs hw_7 G => ?_)
    rcases hw_7 with ⟨rfl, hc_8, rfl⟩ | ⟨rfl, hc_9, rfl⟩
    · replace G := G.perm (ws' := [(m0, mO M 0 xrm xsv xln xat xer xwr xwd xlo xhi xwl xml xkl xfi xse xdn xon xtw xol xrw xgl xus xpr xmk xab), (M 45, aI (K 0) 2 gsz), (M 46, aI (K 4) 2 gex), (M 43, aR (K 7) 2 gE), (M 44, aR (K 8) 2 gS), (ME 0, aI (K 0) 60 e0), (ME 1, aI (K 0) 60 e1), (MS 0, aF (K 3) 60 s0), (MS 1, aF (K 3) 60 s1)]) [0, 1, 2, 3, 4, 5, 6, 7, 8] rfl rfl
      refine W.eq (g2 := F0 m9 35 ls [.int (iI 1), .int (iI 2), .ref m0]) rfl ?_
      refine ad_if_ne (tgt := 42) F (by decide) dX11_storedBits_35 (by decide) (fun _ => ?_) (fun cc_10 => absurd cc_10 (by decide))
      refine ad_iconst F dX11_storedBits_42 ?_
      refine ad_callV (As := [.int (iI 2), .int (iI 0)]) (rest := []) F G (c_X11_fails_0 l D K z0 m0 M 0 xrm xsv xln xat xer xwr xwd xlo xhi xwl xml xkl xfi xse xdn xon xtw xol xrw xgl xus xpr xmk xab 2 (by omega)) my_X11_fails mv_X11_111 (wr := [(M 45, aI (K 0) 2 gsz), (M 46, aI (K 4) 2 gex), (M 43, aR (K 7) 2 gE), (M 44, aR (K 8) 2 gS), (ME 0, aI (K 0) 60 e0), (ME 1, aI (K 0) 60 e1), (MS 0, aF (K 3) 60 s0), (MS 1, aF (K 3) 60 s1)]) (isC := [0]) (isR := [1, 2, 3, 4, 5, 6, 7, 8]) ⟨rfl, rfl, rfl, rfl, by decide⟩ 11 0 rfl rfl rfl rfl ⟨Nat.le_of_ble_eq_true rfl, Nat.le_of_ble_eq_true rfl⟩ ⟨Nat.le_of_ble_eq_true rfl, Nat.le_of_ble_eq_true rfl⟩ (Nat.le_of_ble_eq_true rfl) hl.1 (cells9 := 0) (slots9 := 0) ⟨rfl, rfl⟩ dX11_storedBits_43 (fun v u H locs hw_11 G => ?_)
      obtain ⟨rfl, rfl⟩ := hw_11
      replace G := G.perm (ws' := [(m0, mO M 0 xrm xsv xln xat xer xwr xwd xlo xhi xwl xml xkl xfi xse xdn xon xtw xol xrw xgl xus xpr xmk xab), (M 45, aI (K 0) 2 gsz), (M 46, aI (K 4) 2 gex), (M 43, aR (K 7) 2 gE), (M 44, aR (K 8) 2 gS), (ME 0, aI (K 0) 60 e0), (ME 1, aI (K 0) 60 e1), (MS 0, aF (K 3) 60 s0), (MS 1, aF (K 3) 60 s1)]) [8, 0, 1, 2, 3, 4, 5, 6, 7] rfl rfl
      refine W.eq (g2 := F0 m9 46 ls [.int (iI 0)]) rfl ?_
      refine ad_if_eq (tgt := 51) F (by decide) dX11_storedBits_46 (by decide) (fun _ => ?_) (fun cc_12 => absurd cc_12 (by decide))
      obtain ⟨hl0, ho0, hr0⟩ := hv0 (by omega)
      have hT1 := hr0 z (by omega) (by omega)
      have hbT := ho0.2 z (by omega) (by omega)
      refine lv_aload_n F.1 F.2.1 dX11_storedBits_51 rfl (lv_at hl 0 rfl) ?_
      refine ad_get F G fl_X11_86 0 rfl rfl dX11_storedBits_52 ?_
      refine lv_iload_n F.1 F.2.1 dX11_storedBits_55 rfl (lv_at hl 1 rfl) ?_
      refine ad_zald F G 2 rfl (w := x0) (by omega) hxx.1 dX11_storedBits_56 ?_
      refine ad_if_eq (tgt := 72) F (by omega) dX11_storedBits_57 (by decide) (fun cc_13 => ?_) (fun cc_13 => ?_)
      · refine lv_aload_n F.1 F.2.1 dX11_storedBits_72 rfl (lv_at hl 0 rfl) ?_
        refine ad_get F G fl_X11_80 0 rfl rfl dX11_storedBits_73 ?_
        refine lv_iload_n F.1 F.2.1 dX11_storedBits_76 rfl (lv_at hl 1 rfl) ?_
        refine ad_aaldA F G 4 8 rfl rfl (w := (MS 0)) (by omega) (hS 0 (by decide)) dX11_storedBits_77 ?_
        refine lv_iload_n F.1 F.2.1 dX11_storedBits_78 rfl (lv_at hl 2 rfl) ?_
        refine ad_fald F G 7 rfl (w := (vget vs0 z).2) (by omega) hT1.2 dX11_storedBits_79 ?_
        refine ad_callS (As := [.float ((vget vs0 z).2)]) (rest := []) F G (c_Jxf58ca_floatToIntBits_5c35a l D K z0 ((vget vs0 z).2) (cmp_sh hbT)) my_Jxf58ca_floatToIntBits_5c35a ms_X11_348 (wr := [(m0, mO M 0 xrm xsv xln xat xer xwr xwd xlo xhi xwl xml xkl xfi xse xdn xon xtw xol xrw xgl xus xpr xmk xab), (M 45, aI (K 0) 2 gsz), (M 46, aI (K 4) 2 gex), (M 43, aR (K 7) 2 gE), (M 44, aR (K 8) 2 gS), (ME 0, aI (K 0) 60 e0), (ME 1, aI (K 0) 60 e1), (MS 0, aF (K 3) 60 s0), (MS 1, aF (K 3) 60 s1)]) (isC := []) (isR := [0, 1, 2, 3, 4, 5, 6, 7, 8]) ⟨rfl, rfl, rfl, rfl, by decide⟩ rfl rfl ⟨Nat.le_of_ble_eq_true rfl, Nat.le_of_ble_eq_true rfl⟩ ⟨Nat.le_of_ble_eq_true rfl, Nat.le_of_ble_eq_true rfl⟩ (Nat.le_of_ble_eq_true rfl) hl.1 (cells9 := 0) (slots9 := 0) ⟨rfl, rfl⟩ dX11_storedBits_80 (fun v u H locs hw_14 G => ?_)
        obtain ⟨rfl, rfl⟩ := hw_14
        replace G := G.perm (ws' := [(m0, mO M 0 xrm xsv xln xat xer xwr xwd xlo xhi xwl xml xkl xfi xse xdn xon xtw xol xrw xgl xus xpr xmk xab), (M 45, aI (K 0) 2 gsz), (M 46, aI (K 4) 2 gex), (M 43, aR (K 7) 2 gE), (M 44, aR (K 8) 2 gS), (ME 0, aI (K 0) 60 e0), (ME 1, aI (K 0) 60 e1), (MS 0, aF (K 3) 60 s0), (MS 1, aF (K 3) 60 s1)]) [0, 1, 2, 3, 4, 5, 6, 7, 8] rfl rfl
        refine W.eq (g2 := F0 m9 83 ls [.int (iI (((vget vs0 z).2).toInt32.toInt))]) rfl ?_
        exact ad_ireturn F G hR rfl (Nat.le_of_ble_eq_true rfl) (Nat.le_of_ble_eq_true rfl) (Or.inr (⟨(ad_eqi (by rw [elF, if_pos (by omega)])), (by omega), rfl⟩)) dX11_storedBits_83
      · refine lv_aload_n F.1 F.2.1 dX11_storedBits_60 rfl (lv_at hl 0 rfl) ?_
        refine ad_get F G fl_X11_75 0 rfl rfl dX11_storedBits_61 ?_
        refine lv_iload_n F.1 F.2.1 dX11_storedBits_64 rfl (lv_at hl 1 rfl) ?_
        refine ad_aaldA F G 3 7 rfl rfl (w := (ME 0)) (by omega) (hE 0 (by decide)) dX11_storedBits_65 ?_
        refine lv_iload_n F.1 F.2.1 dX11_storedBits_66 rfl (lv_at hl 2 rfl) ?_
        refine ad_iald F G 5 rfl (w := (vget vs0 z).1) (by omega) hT1.1 dX11_storedBits_67 ?_
        refine lv_i2f F.1 F.2.1 dX11_storedBits_68 ?_
        refine lv_goto (tgt := 80) F.1 F.2.1 dX11_storedBits_69 (by decide) ?_
        refine ad_callS (As := [.float (FP.i2f (iI ((vget vs0 z).1)))]) (rest := []) F G (c_Jxf58ca_floatToIntBits_5c35a l D K z0 (FP.i2f (iI ((vget vs0 z).1))) ((cmp_int (by omega) (by omega)).mpr rfl)) my_Jxf58ca_floatToIntBits_5c35a ms_X11_348 (wr := [(m0, mO M 0 xrm xsv xln xat xer xwr xwd xlo xhi xwl xml xkl xfi xse xdn xon xtw xol xrw xgl xus xpr xmk xab), (M 45, aI (K 0) 2 gsz), (M 46, aI (K 4) 2 gex), (M 43, aR (K 7) 2 gE), (M 44, aR (K 8) 2 gS), (ME 0, aI (K 0) 60 e0), (ME 1, aI (K 0) 60 e1), (MS 0, aF (K 3) 60 s0), (MS 1, aF (K 3) 60 s1)]) (isC := []) (isR := [0, 1, 2, 3, 4, 5, 6, 7, 8]) ⟨rfl, rfl, rfl, rfl, by decide⟩ rfl rfl ⟨Nat.le_of_ble_eq_true rfl, Nat.le_of_ble_eq_true rfl⟩ ⟨Nat.le_of_ble_eq_true rfl, Nat.le_of_ble_eq_true rfl⟩ (Nat.le_of_ble_eq_true rfl) hl.1 (cells9 := 0) (slots9 := 0) ⟨rfl, rfl⟩ dX11_storedBits_80 (fun v u H locs hw_15 G => ?_)
        obtain ⟨rfl, rfl⟩ := hw_15
        replace G := G.perm (ws' := [(m0, mO M 0 xrm xsv xln xat xer xwr xwd xlo xhi xwl xml xkl xfi xse xdn xon xtw xol xrw xgl xus xpr xmk xab), (M 45, aI (K 0) 2 gsz), (M 46, aI (K 4) 2 gex), (M 43, aR (K 7) 2 gE), (M 44, aR (K 8) 2 gS), (ME 0, aI (K 0) 60 e0), (ME 1, aI (K 0) 60 e1), (MS 0, aF (K 3) 60 s0), (MS 1, aF (K 3) 60 s1)]) [0, 1, 2, 3, 4, 5, 6, 7, 8] rfl rfl
        refine W.eq (g2 := F0 m9 83 ls [.int (iI ((FP.i2f (iI ((vget vs0 z).1))).toInt32.toInt))]) rfl ?_
        exact ad_ireturn F G hR rfl (Nat.le_of_ble_eq_true rfl) (Nat.le_of_ble_eq_true rfl) (Or.inr (⟨(ad_eqi (by rw [elF, if_neg (by omega)])), (by omega), rfl⟩)) dX11_storedBits_83
    · replace G := G.perm (ws' := [(m0, mO M 0 xrm xsv xln xat xer xwr xwd xlo xhi xwl xml xkl xfi xse xdn xon xtw xol xrw xgl xus xpr xmk xab), (M 45, aI (K 0) 2 gsz), (M 46, aI (K 4) 2 gex), (M 43, aR (K 7) 2 gE), (M 44, aR (K 8) 2 gS), (ME 0, aI (K 0) 60 e0), (ME 1, aI (K 0) 60 e1), (MS 0, aF (K 3) 60 s0), (MS 1, aF (K 3) 60 s1)]) [0, 1, 2, 3, 4, 5, 6, 7, 8] rfl rfl
      refine W.eq (g2 := F0 m9 35 ls [.int (iI 0), .int (iI 2), .ref m0]) rfl ?_
      refine ad_if_ne (tgt := 42) F (by decide) dX11_storedBits_35 (by decide) (fun cc_16 => absurd cc_16 (by decide)) (fun _ => ?_)
      refine ad_iconst F dX11_storedBits_38 ?_
      refine lv_goto (tgt := 43) F.1 F.2.1 dX11_storedBits_39 (by decide) ?_
      refine ad_callV (As := [.int (iI 2), .int (iI 1)]) (rest := []) F G (c_X11_fails_1 l D K z0 m0 M 0 xrm xsv xln xat xer xwr xwd xlo xhi xwl xml xkl xfi xse xdn xon xtw xol xrw xgl xus xpr xmk xab 2 (by omega)) my_X11_fails mv_X11_111 (wr := [(M 45, aI (K 0) 2 gsz), (M 46, aI (K 4) 2 gex), (M 43, aR (K 7) 2 gE), (M 44, aR (K 8) 2 gS), (ME 0, aI (K 0) 60 e0), (ME 1, aI (K 0) 60 e1), (MS 0, aF (K 3) 60 s0), (MS 1, aF (K 3) 60 s1)]) (isC := [0]) (isR := [1, 2, 3, 4, 5, 6, 7, 8]) ⟨rfl, rfl, rfl, rfl, by decide⟩ 11 0 rfl rfl rfl rfl ⟨Nat.le_of_ble_eq_true rfl, Nat.le_of_ble_eq_true rfl⟩ ⟨Nat.le_of_ble_eq_true rfl, Nat.le_of_ble_eq_true rfl⟩ (Nat.le_of_ble_eq_true rfl) hl.1 (cells9 := 0) (slots9 := 0) ⟨rfl, rfl⟩ dX11_storedBits_43 (fun v u H locs hw_17 G => ?_)
      obtain ⟨rfl, rfl⟩ := hw_17
      replace G := G.perm (ws' := [(m0, mO M 2 xrm xsv xln xat xer xwr xwd xlo xhi xwl xml xkl xfi xse xdn xon xtw xol xrw xgl xus xpr xmk xab), (M 45, aI (K 0) 2 gsz), (M 46, aI (K 4) 2 gex), (M 43, aR (K 7) 2 gE), (M 44, aR (K 8) 2 gS), (ME 0, aI (K 0) 60 e0), (ME 1, aI (K 0) 60 e1), (MS 0, aF (K 3) 60 s0), (MS 1, aF (K 3) 60 s1)]) [8, 0, 1, 2, 3, 4, 5, 6, 7] rfl rfl
      refine W.eq (g2 := F0 m9 46 ls [.int (iI 1)]) rfl ?_
      refine ad_if_eq (tgt := 51) F (by decide) dX11_storedBits_46 (by decide) (fun cc_18 => absurd cc_18 (by decide)) (fun _ => ?_)
      refine ad_iconst F dX11_storedBits_49 ?_
      exact ad_ireturn F G hR rfl (Nat.le_of_ble_eq_true rfl) (Nat.le_of_ble_eq_true rfl) (Or.inl ⟨rfl, (by omega), rfl⟩) dX11_storedBits_50
  · replace G := G.perm (ws' := [(m0, mO M xth xrm xsv xln xat xer xwr xwd xlo xhi xwl xml xkl xfi xse xdn xon xtw xol xrw xgl xus xpr xmk xab), (M 45, aI (K 0) 2 gsz), (M 46, aI (K 4) 2 gex), (M 43, aR (K 7) 2 gE), (M 44, aR (K 8) 2 gS), (ME 0, aI (K 0) 60 e0), (ME 1, aI (K 0) 60 e1), (MS 0, aF (K 3) 60 s0), (MS 1, aF (K 3) 60 s1)]) [0, 1, 2, 3, 4, 5, 6, 7, 8] rfl rfl
    refine W.eq (g2 := F0 m9 6 ls [.int (iI 0), .int (iI 1), .ref m0]) rfl ?_
    exfalso; omega

def rm_X11_storeLengths_1 : Room := { frames := 3, cells := 0, slots := 0, locals := 54 }
set_option maxHeartbeats 4000000 in
set_option maxRecDepth 100000 in
theorem c_X11_storeLengths_1 (l : Launch) (D : va_G) (K : Nat → ClassId) (z0 : Nat) (m0 : Nat) (M : Nat → Nat) (xth : Int) (xrm : Int) (xsv : Int) (xln : Int) (xat : Int) (xer : Int) (xwr : Int) (xwd : Int) (xlo : Int) (xhi : Int) (xwl : Int) (xml : Int) (xkl : Int) (xfi : Int) (xse : Int) (xdn : Int) (xon : Int) (xtw : Int) (xol : Int) (xgl : Int) (xus : Int) (xpr : Int) (xmk : Int) (xab : Int) (q1 : Nat → Int) (q2 : Nat → Int) (q3 : Nat → Int) (q4 : Nat → Int) (q5 : Nat → Int) (q6 : Nat → Int) (qs : List Wq) (gsz : Nat → Int) (gex : Nat → Int) (ME : Nat → Nat) (MS : Nat → Nat) (gE : Nat → Option Nat) (gS : Nat → Option Nat) (e0 : Nat → Int) (e1 : Nat → Int) (s0 : Nat → UInt32) (s1 : Nat → UInt32) (e : Int) (hQ : QRep q1 q2 q3 q4 q5 q6 qs) (hql : qs.length ≤ 50) (hE : ∀ j : Nat, j < 2 → gE j = some (ME j)) (hS : ∀ j : Nat, j < 2 → gS j = some (MS j)) (hq : QOk qs) (he : e = 0 ∨ e = 1) : CT l D K z0 yX11_storeLengths cX11_storeLengths 4 (some .int) rm_X11_storeLengths_1 [.ref m0, .int (iI 1), .int (iI e)] [(m0, mO M xth xrm xsv xln xat xer xwr xwd xlo xhi xwl xml xkl xfi xse xdn xon xtw xol (qs.length : Int) xgl xus xpr xmk xab), (M 32, aI (K 0) 60 q4), (M 33, aI (K 0) 60 q5), (M 45, aI (K 0) 2 gsz), (M 46, aI (K 4) 2 gex), (M 43, aR (K 7) 2 gE), (M 44, aR (K 8) 2 gS), (ME 0, aI (K 0) 60 e0), (ME 1, aI (K 0) 60 e1), (MS 0, aF (K 3) 60 s0), (MS 1, aF (K 3) 60 s1)] (fun v9 u9 => ∃ (gx : Nat → Int), ∃ (gy : Nat → UInt32), v9 = some (.int (iI (qs.length : Int))) ∧ (∀ z : Int, 0 ≤ z → z < qs.length → gx z.toNat = (vget (rowV qs) z).1 ∧ gy z.toNat = (vget (rowV qs) z).2) ∧ u9 = [(m0, mO M 0 xrm xsv xln xat xer xwr xwd xlo xhi xwl xml xkl xfi xse xdn xon xtw xol (qs.length : Int) xgl xus xpr xmk xab), (M 32, aI (K 0) 60 q4), (M 33, aI (K 0) 60 q5), (M 45, aI (K 0) 2 (va_up gsz (1 : Int).toNat (qs.length : Int))), (M 46, aI (K 4) 2 (va_up gex (1 : Int).toNat e)), (M 43, aR (K 7) 2 gE), (M 44, aR (K 8) 2 gS), (ME 0, aI (K 0) 60 e0), (ME 1, aI (K 0) 60 gx), (MS 0, aF (K 3) 60 s0), (MS 1, aF (K 3) 60 gy)]) := by
  refine CT.start RX11 "storeLengths" (by decide) rfl rfl (Nat.le_of_ble_eq_true rfl) ?_
  intro p9 e9 s9 m9 ag9 bl9 mt9 c9 A9 Q9 ls F G hR hl
  have hl : lv_has ls 4 [(0, .ref m0), (1, .int (iI 1)), (2, .int (iI e))] := hl
  refine lv_aload_n F.1 F.2.1 dX11_storeLengths_0 rfl (lv_at hl 0 rfl) ?_
  refine ad_iconst F dX11_storeLengths_1 ?_
  refine lv_iload_n F.1 F.2.1 dX11_storeLengths_2 rfl (lv_at hl 1 rfl) ?_
  refine ad_callS (As := [.int (iI 1)]) (rest := [.int (iI 1), .ref m0]) F G (c_X11_isRow l D K z0 1 (by omega)) my_X11_isRow ms_X11_345 (wr := [(m0, mO M xth xrm xsv xln xat xer xwr xwd xlo xhi xwl xml xkl xfi xse xdn xon xtw xol (qs.length : Int) xgl xus xpr xmk xab), (M 32, aI (K 0) 60 q4), (M 33, aI (K 0) 60 q5), (M 45, aI (K 0) 2 gsz), (M 46, aI (K 4) 2 gex), (M 43, aR (K 7) 2 gE), (M 44, aR (K 8) 2 gS), (ME 0, aI (K 0) 60 e0), (ME 1, aI (K 0) 60 e1), (MS 0, aF (K 3) 60 s0), (MS 1, aF (K 3) 60 s1)]) (isC := []) (isR := [0, 1, 2, 3, 4, 5, 6, 7, 8, 9, 10]) ⟨rfl, rfl, rfl, rfl, by decide⟩ rfl rfl ⟨Nat.le_of_ble_eq_true rfl, Nat.le_of_ble_eq_true rfl⟩ ⟨Nat.le_of_ble_eq_true rfl, Nat.le_of_ble_eq_true rfl⟩ (Nat.le_of_ble_eq_true rfl) hl.1 (cells9 := 0) (slots9 := 0) ⟨rfl, rfl⟩ dX11_storeLengths_3 (fun v u H locs hw_1 G => ?_)
  rcases hw_1 with ⟨rfl, hc_2, rfl⟩ | ⟨rfl, hc_3, rfl⟩
  · replace G := G.perm (ws' := [(m0, mO M xth xrm xsv xln xat xer xwr xwd xlo xhi xwl xml xkl xfi xse xdn xon xtw xol (qs.length : Int) xgl xus xpr xmk xab), (M 32, aI (K 0) 60 q4), (M 33, aI (K 0) 60 q5), (M 45, aI (K 0) 2 gsz), (M 46, aI (K 4) 2 gex), (M 43, aR (K 7) 2 gE), (M 44, aR (K 8) 2 gS), (ME 0, aI (K 0) 60 e0), (ME 1, aI (K 0) 60 e1), (MS 0, aF (K 3) 60 s0), (MS 1, aF (K 3) 60 s1)]) [0, 1, 2, 3, 4, 5, 6, 7, 8, 9, 10] rfl rfl
    refine W.eq (g2 := F0 m9 6 ls [.int (iI 1), .int (iI 1), .ref m0]) rfl ?_
    refine ad_if_ne (tgt := 13) F (by decide) dX11_storeLengths_6 (by decide) (fun _ => ?_) (fun cc_4 => absurd cc_4 (by decide))
    refine ad_iconst F dX11_storeLengths_13 ?_
    refine ad_callV (As := [.int (iI 1), .int (iI 0)]) (rest := []) F G (c_X11_fails_0 l D K z0 m0 M xth xrm xsv xln xat xer xwr xwd xlo xhi xwl xml xkl xfi xse xdn xon xtw xol (qs.length : Int) xgl xus xpr xmk xab 1 (by omega)) my_X11_fails mv_X11_111 (wr := [(M 32, aI (K 0) 60 q4), (M 33, aI (K 0) 60 q5), (M 45, aI (K 0) 2 gsz), (M 46, aI (K 4) 2 gex), (M 43, aR (K 7) 2 gE), (M 44, aR (K 8) 2 gS), (ME 0, aI (K 0) 60 e0), (ME 1, aI (K 0) 60 e1), (MS 0, aF (K 3) 60 s0), (MS 1, aF (K 3) 60 s1)]) (isC := [0]) (isR := [1, 2, 3, 4, 5, 6, 7, 8, 9, 10]) ⟨rfl, rfl, rfl, rfl, by decide⟩ 11 0 rfl rfl rfl rfl ⟨Nat.le_of_ble_eq_true rfl, Nat.le_of_ble_eq_true rfl⟩ ⟨Nat.le_of_ble_eq_true rfl, Nat.le_of_ble_eq_true rfl⟩ (Nat.le_of_ble_eq_true rfl) hl.1 (cells9 := 0) (slots9 := 0) ⟨rfl, rfl⟩ dX11_storeLengths_14 (fun v u H locs hw_5 G => ?_)
    obtain ⟨rfl, rfl⟩ := hw_5
    replace G := G.perm (ws' := [(m0, mO M 0 xrm xsv xln xat xer xwr xwd xlo xhi xwl xml xkl xfi xse xdn xon xtw xol (qs.length : Int) xgl xus xpr xmk xab), (M 32, aI (K 0) 60 q4), (M 33, aI (K 0) 60 q5), (M 45, aI (K 0) 2 gsz), (M 46, aI (K 4) 2 gex), (M 43, aR (K 7) 2 gE), (M 44, aR (K 8) 2 gS), (ME 0, aI (K 0) 60 e0), (ME 1, aI (K 0) 60 e1), (MS 0, aF (K 3) 60 s0), (MS 1, aF (K 3) 60 s1)]) [10, 0, 1, 2, 3, 4, 5, 6, 7, 8, 9] rfl rfl
    refine W.eq (g2 := F0 m9 17 ls [.int (iI 0)]) rfl ?_
    refine ad_if_ne (tgt := 32) F (by decide) dX11_storeLengths_17 (by decide) (fun cc_6 => absurd cc_6 (by decide)) (fun _ => ?_)
    refine lv_aload_n F.1 F.2.1 dX11_storeLengths_20 rfl (lv_at hl 0 rfl) ?_
    refine ad_iconst F dX11_storeLengths_21 ?_
    refine lv_aload_n F.1 F.2.1 dX11_storeLengths_22 rfl (lv_at hl 0 rfl) ?_
    refine ad_callV (As := []) (rest := [.int (iI 2), .ref m0]) F G (c_X11_hasNone l D K z0 m0 M 0 xrm xsv xln xat xer xwr xwd xlo xhi xwl xml xkl xfi xse xdn xon xtw xol (qs.length : Int) xgl xus xpr xmk xab (by omega)) my_X11_hasNone mv_X11_342 (wr := [(M 32, aI (K 0) 60 q4), (M 33, aI (K 0) 60 q5), (M 45, aI (K 0) 2 gsz), (M 46, aI (K 4) 2 gex), (M 43, aR (K 7) 2 gE), (M 44, aR (K 8) 2 gS), (ME 0, aI (K 0) 60 e0), (ME 1, aI (K 0) 60 e1), (MS 0, aF (K 3) 60 s0), (MS 1, aF (K 3) 60 s1)]) (isC := [0]) (isR := [1, 2, 3, 4, 5, 6, 7, 8, 9, 10]) ⟨rfl, rfl, rfl, rfl, by decide⟩ 11 0 rfl rfl rfl rfl ⟨Nat.le_of_ble_eq_true rfl, Nat.le_of_ble_eq_true rfl⟩ ⟨Nat.le_of_ble_eq_true rfl, Nat.le_of_ble_eq_true rfl⟩ (Nat.le_of_ble_eq_true rfl) hl.1 (cells9 := 0) (slots9 := 0) ⟨rfl, rfl⟩ dX11_storeLengths_23 (fun v u H locs hw_7 G => ?_)
    rcases hw_7 with ⟨rfl, hc_8, rfl⟩ | ⟨rfl, hc_9, rfl⟩
    · replace G := G.perm (ws' := [(m0, mO M 0 xrm xsv xln xat xer xwr xwd xlo xhi xwl xml xkl xfi xse xdn xon xtw xol (qs.length : Int) xgl xus xpr xmk xab), (M 32, aI (K 0) 60 q4), (M 33, aI (K 0) 60 q5), (M 45, aI (K 0) 2 gsz), (M 46, aI (K 4) 2 gex), (M 43, aR (K 7) 2 gE), (M 44, aR (K 8) 2 gS), (ME 0, aI (K 0) 60 e0), (ME 1, aI (K 0) 60 e1), (MS 0, aF (K 3) 60 s0), (MS 1, aF (K 3) 60 s1)]) [10, 0, 1, 2, 3, 4, 5, 6, 7, 8, 9] rfl rfl
      refine W.eq (g2 := F0 m9 26 ls [.int (iI 1), .int (iI 2), .ref m0]) rfl ?_
      exfalso; omega
    · replace G := G.perm (ws' := [(m0, mO M 0 xrm xsv xln xat xer xwr xwd xlo xhi xwl xml xkl xfi xse xdn xon xtw xol (qs.length : Int) xgl xus xpr xmk xab), (M 32, aI (K 0) 60 q4), (M 33, aI (K 0) 60 q5), (M 45, aI (K 0) 2 gsz), (M 46, aI (K 4) 2 gex), (M 43, aR (K 7) 2 gE), (M 44, aR (K 8) 2 gS), (ME 0, aI (K 0) 60 e0), (ME 1, aI (K 0) 60 e1), (MS 0, aF (K 3) 60 s0), (MS 1, aF (K 3) 60 s1)]) [10, 0, 1, 2, 3, 4, 5, 6, 7, 8, 9] rfl rfl
      refine W.eq (g2 := F0 m9 26 ls [.int (iI 0), .int (iI 2), .ref m0]) rfl ?_
      refine ad_callV (As := [.int (iI 2), .int (iI 0)]) (rest := []) F G (c_X11_fails_0 l D K z0 m0 M 0 xrm xsv xln xat xer xwr xwd xlo xhi xwl xml xkl xfi xse xdn xon xtw xol (qs.length : Int) xgl xus xpr xmk xab 2 (by omega)) my_X11_fails mv_X11_111 (wr := [(M 32, aI (K 0) 60 q4), (M 33, aI (K 0) 60 q5), (M 45, aI (K 0) 2 gsz), (M 46, aI (K 4) 2 gex), (M 43, aR (K 7) 2 gE), (M 44, aR (K 8) 2 gS), (ME 0, aI (K 0) 60 e0), (ME 1, aI (K 0) 60 e1), (MS 0, aF (K 3) 60 s0), (MS 1, aF (K 3) 60 s1)]) (isC := [0]) (isR := [1, 2, 3, 4, 5, 6, 7, 8, 9, 10]) ⟨rfl, rfl, rfl, rfl, by decide⟩ 11 0 rfl rfl rfl rfl ⟨Nat.le_of_ble_eq_true rfl, Nat.le_of_ble_eq_true rfl⟩ ⟨Nat.le_of_ble_eq_true rfl, Nat.le_of_ble_eq_true rfl⟩ (Nat.le_of_ble_eq_true rfl) hl.1 (cells9 := 0) (slots9 := 0) ⟨rfl, rfl⟩ dX11_storeLengths_26 (fun v u H locs hw_10 G => ?_)
      obtain ⟨rfl, rfl⟩ := hw_10
      replace G := G.perm (ws' := [(m0, mO M 0 xrm xsv xln xat xer xwr xwd xlo xhi xwl xml xkl xfi xse xdn xon xtw xol (qs.length : Int) xgl xus xpr xmk xab), (M 32, aI (K 0) 60 q4), (M 33, aI (K 0) 60 q5), (M 45, aI (K 0) 2 gsz), (M 46, aI (K 4) 2 gex), (M 43, aR (K 7) 2 gE), (M 44, aR (K 8) 2 gS), (ME 0, aI (K 0) 60 e0), (ME 1, aI (K 0) 60 e1), (MS 0, aF (K 3) 60 s0), (MS 1, aF (K 3) 60 s1)]) [10, 0, 1, 2, 3, 4, 5, 6, 7, 8, 9] rfl rfl
      refine W.eq (g2 := F0 m9 29 ls [.int (iI 0)]) rfl ?_
      refine ad_if_eq (tgt := 34) F (by decide) dX11_storeLengths_29 (by decide) (fun _ => ?_) (fun cc_11 => absurd cc_11 (by decide))
      refine lv_aload_n F.1 F.2.1 dX11_storeLengths_34 rfl (lv_at hl 0 rfl) ?_
      refine ad_get F G fl_X11_83 0 rfl rfl dX11_storeLengths_35 ?_
      refine lv_iload_n F.1 F.2.1 dX11_storeLengths_38 rfl (lv_at hl 1 rfl) ?_
      refine lv_aload_n F.1 F.2.1 dX11_storeLengths_39 rfl (lv_at hl 0 rfl) ?_
      refine ad_get F G fl_X11_72 0 rfl rfl dX11_storeLengths_40 ?_
      refine ad_iast F G 3 rfl (by omega) (ws' := [(m0, mO M 0 xrm xsv xln xat xer xwr xwd xlo xhi xwl xml xkl xfi xse xdn xon xtw xol (qs.length : Int) xgl xus xpr xmk xab), (M 32, aI (K 0) 60 q4), (M 33, aI (K 0) 60 q5), (M 45, aI (K 0) 2 (va_up gsz (1 : Int).toNat (qs.length : Int))), (M 46, aI (K 4) 2 gex), (M 43, aR (K 7) 2 gE), (M 44, aR (K 8) 2 gS), (ME 0, aI (K 0) 60 e0), (ME 1, aI (K 0) 60 e1), (MS 0, aF (K 3) 60 s0), (MS 1, aF (K 3) 60 s1)]) rfl dX11_storeLengths_43 (fun H locs G => ?_)
      refine lv_aload_n F.1 F.2.1 dX11_storeLengths_44 rfl (lv_at hl 0 rfl) ?_
      refine ad_get F G fl_X11_86 0 rfl rfl dX11_storeLengths_45 ?_
      refine lv_iload_n F.1 F.2.1 dX11_storeLengths_48 rfl (lv_at hl 1 rfl) ?_
      refine lv_iload_n F.1 F.2.1 dX11_storeLengths_49 rfl (lv_at hl 2 rfl) ?_
      refine ad_zast F G 4 rfl (by omega) (by omega) (ws' := [(m0, mO M 0 xrm xsv xln xat xer xwr xwd xlo xhi xwl xml xkl xfi xse xdn xon xtw xol (qs.length : Int) xgl xus xpr xmk xab), (M 32, aI (K 0) 60 q4), (M 33, aI (K 0) 60 q5), (M 45, aI (K 0) 2 (va_up gsz (1 : Int).toNat (qs.length : Int))), (M 46, aI (K 4) 2 (va_up gex (1 : Int).toNat e)), (M 43, aR (K 7) 2 gE), (M 44, aR (K 8) 2 gS), (ME 0, aI (K 0) 60 e0), (ME 1, aI (K 0) 60 e1), (MS 0, aF (K 3) 60 s0), (MS 1, aF (K 3) 60 s1)]) rfl dX11_storeLengths_50 (fun H locs G => ?_)
      refine ad_iconst F dX11_storeLengths_51 ?_
      refine lv_istore_n (lv' := [(3, .int (iI 0)), (0, .ref m0), (1, .int (iI 1)), (2, .int (iI e))]) F.1 F.2.1 dX11_storeLengths_52 rfl hl (by decide) rfl (fun ls hl => ?_)
      have lp53 : ∀ (n53 : Nat) (k : Int) (gx : Nat → Int) (gy : Nat → UInt32) (H : Heap) (locs : List Loc) (ls : Array Slot), (0 ≤ k ∧ k ≤ qs.length) → (∀ z : Int, 0 ≤ z → z < k → gx z.toNat = (vget (rowV qs) z).1 ∧ gy z.toNat = (vget (rowV qs) z).2) → (qs.length - k) < (n53 : Int) → ad_G D A9 s9.heap H locs [(m0, mO M 0 xrm xsv xln xat xer xwr xwd xlo xhi xwl xml xkl xfi xse xdn xon xtw xol (qs.length : Int) xgl xus xpr xmk xab), (M 32, aI (K 0) 60 q4), (M 33, aI (K 0) 60 q5), (M 45, aI (K 0) 2 (va_up gsz (1 : Int).toNat (qs.length : Int))), (M 46, aI (K 4) 2 (va_up gex (1 : Int).toNat e)), (M 43, aR (K 7) 2 gE), (M 44, aR (K 8) 2 gS), (ME 0, aI (K 0) 60 e0), (ME 1, aI (K 0) 60 gx), (MS 0, aF (K 3) 60 s0), (MS 1, aF (K 3) 60 gy)] → lv_has ls 4 [(0, .ref m0), (1, .int (iI 1)), (2, .int (iI e)), (3, .int (iI k))] → W p9 l e9 rm_X11_storeLengths_1 s9 m9 ag9 bl9 mt9 c9 H locs 0 0 Q9 (F0 m9 53 ls []) := by
        intro n53
        induction n53 with
        | zero =>
          intro k gx gy H locs ls hk hv hm53
          exact absurd hm53 (by omega)
        | succ n53 ih53 =>
          intro k gx gy H locs ls hk hv hm53 G hl
          refine lv_iload_n F.1 F.2.1 dX11_storeLengths_53 rfl (lv_at hl 3 rfl) ?_
          refine lv_aload_n F.1 F.2.1 dX11_storeLengths_54 rfl (lv_at hl 0 rfl) ?_
          refine ad_get F G fl_X11_72 0 rfl rfl dX11_storeLengths_55 ?_
          refine ad_icmp_ge (tgt := 104) F (by omega) dX11_storeLengths_58 (by decide) (fun cc_12 => ?_) (fun cc_12 => ?_)
          · refine lv_aload_n F.1 F.2.1 dX11_storeLengths_104 rfl (lv_at hl 0 rfl) ?_
            refine ad_get F G fl_X11_72 0 rfl rfl dX11_storeLengths_105 ?_
            exact ad_ireturn F G hR rfl (Nat.le_of_ble_eq_true rfl) (Nat.le_of_ble_eq_true rfl) ⟨gx, gy, rfl, (fun z h1 h2 => hv z h1 (by omega)), rfl⟩ dX11_storeLengths_108
          · have hqi := hq.2 k (by omega) (by omega)
            refine lv_aload_n F.1 F.2.1 dX11_storeLengths_61 rfl (lv_at hl 0 rfl) ?_
            refine ad_get F G fl_X11_75 0 rfl rfl dX11_storeLengths_62 ?_
            refine lv_iload_n F.1 F.2.1 dX11_storeLengths_65 rfl (lv_at hl 1 rfl) ?_
            refine ad_aaldA F G 5 7 rfl rfl (w := (ME 1)) (by omega) (hE 1 (by decide)) dX11_storeLengths_66 ?_
            refine lv_iload_n F.1 F.2.1 dX11_storeLengths_67 rfl (lv_at hl 3 rfl) ?_
            refine lv_aload_n F.1 F.2.1 dX11_storeLengths_68 rfl (lv_at hl 0 rfl) ?_
            refine ad_get F G fl_X11_63 0 rfl rfl dX11_storeLengths_69 ?_
            refine lv_iload_n F.1 F.2.1 dX11_storeLengths_72 rfl (lv_at hl 3 rfl) ?_
            refine ad_iald F G 2 rfl (w := (qget qs k).2.2.2.2.1) (by omega) (QRep_at hQ (by omega) (by omega)).2.2.2.2.1 dX11_storeLengths_73 ?_
            refine ad_iast F G 8 rfl (by omega) (ws' := [(m0, mO M 0 xrm xsv xln xat xer xwr xwd xlo xhi xwl xml xkl xfi xse xdn xon xtw xol (qs.length : Int) xgl xus xpr xmk xab), (M 32, aI (K 0) 60 q4), (M 33, aI (K 0) 60 q5), (M 45, aI (K 0) 2 (va_up gsz (1 : Int).toNat (qs.length : Int))), (M 46, aI (K 4) 2 (va_up gex (1 : Int).toNat e)), (M 43, aR (K 7) 2 gE), (M 44, aR (K 8) 2 gS), (ME 0, aI (K 0) 60 e0), (ME 1, aI (K 0) 60 (va_up gx k.toNat ((qget qs k).2.2.2.2.1))), (MS 0, aF (K 3) 60 s0), (MS 1, aF (K 3) 60 gy)]) rfl dX11_storeLengths_74 (fun H locs G => ?_)
            refine lv_aload_n F.1 F.2.1 dX11_storeLengths_75 rfl (lv_at hl 0 rfl) ?_
            refine ad_get F G fl_X11_80 0 rfl rfl dX11_storeLengths_76 ?_
            refine lv_iload_n F.1 F.2.1 dX11_storeLengths_79 rfl (lv_at hl 1 rfl) ?_
            refine ad_aaldA F G 6 8 rfl rfl (w := (MS 1)) (by omega) (hS 1 (by decide)) dX11_storeLengths_80 ?_
            refine lv_iload_n F.1 F.2.1 dX11_storeLengths_81 rfl (lv_at hl 3 rfl) ?_
            refine lv_aload_n F.1 F.2.1 dX11_storeLengths_82 rfl (lv_at hl 0 rfl) ?_
            refine ad_get F G fl_X11_63 0 rfl rfl dX11_storeLengths_83 ?_
            refine lv_iload_n F.1 F.2.1 dX11_storeLengths_86 rfl (lv_at hl 3 rfl) ?_
            refine ad_iald F G 2 rfl (w := (qget qs k).2.2.2.2.1) (by omega) (QRep_at hQ (by omega) (by omega)).2.2.2.2.1 dX11_storeLengths_87 ?_
            refine lv_i2f F.1 F.2.1 dX11_storeLengths_88 ?_
            refine lv_aload_n F.1 F.2.1 dX11_storeLengths_89 rfl (lv_at hl 0 rfl) ?_
            refine ad_get F G fl_X11_60 0 rfl rfl dX11_storeLengths_90 ?_
            refine lv_iload_n F.1 F.2.1 dX11_storeLengths_93 rfl (lv_at hl 3 rfl) ?_
            refine ad_iald F G 1 rfl (w := (qget qs k).2.2.2.1) (by omega) (QRep_at hQ (by omega) (by omega)).2.2.2.1 dX11_storeLengths_94 ?_
            refine lv_i2f F.1 F.2.1 dX11_storeLengths_95 ?_
            refine lv_fdiv F.1 F.2.1 dX11_storeLengths_96 (shr_n (by omega) hqi.1) ?_
            refine ad_fast F G 10 rfl (by omega) (ws' := [(m0, mO M 0 xrm xsv xln xat xer xwr xwd xlo xhi xwl xml xkl xfi xse xdn xon xtw xol (qs.length : Int) xgl xus xpr xmk xab), (M 32, aI (K 0) 60 q4), (M 33, aI (K 0) 60 q5), (M 45, aI (K 0) 2 (va_up gsz (1 : Int).toNat (qs.length : Int))), (M 46, aI (K 4) 2 (va_up gex (1 : Int).toNat e)), (M 43, aR (K 7) 2 gE), (M 44, aR (K 8) 2 gS), (ME 0, aI (K 0) 60 e0), (ME 1, aI (K 0) 60 (va_up gx k.toNat ((qget qs k).2.2.2.2.1))), (MS 0, aF (K 3) 60 s0), (MS 1, aF (K 3) 60 (va_up gy k.toNat (FP.fdiv (FP.i2f (iI ((qget qs k).2.2.2.2.1))) (FP.i2f (iI ((qget qs k).2.2.2.1))))))]) rfl dX11_storeLengths_97 (fun H locs G => ?_)
            refine ad_iinc (lv' := [(3, .int (iI (k + 1))), (0, .ref m0), (1, .int (iI 1)), (2, .int (iI e))]) F dX11_storeLengths_98 hl (k := 3) rfl (by decide) rfl (fun ls hl => ?_)
            refine lv_goto (tgt := 53) F.1 F.2.1 dX11_storeLengths_101 (by decide) ?_
            exact ih53 (k + 1) (va_up gx k.toNat ((qget qs k).2.2.2.2.1)) (va_up gy k.toNat (FP.fdiv (FP.i2f (iI ((qget qs k).2.2.2.2.1))) (FP.i2f (iI ((qget qs k).2.2.2.1))))) _ _ _ (by omega) (fun z h1 h2 => (show z = k ∨ z < k by omega).elim (fun h => by rw [h, rowV_get (by omega) (by omega)]; exact ⟨va_upI_s _ _ _, va_upI_s _ _ _⟩) (fun h => by rw [va_upI_o h1 (by omega) (by omega), va_upI_o h1 (by omega) (by omega)]; exact hv z h1 h)) (by omega) (G.perm (ws' := [(m0, mO M 0 xrm xsv xln xat xer xwr xwd xlo xhi xwl xml xkl xfi xse xdn xon xtw xol (qs.length : Int) xgl xus xpr xmk xab), (M 32, aI (K 0) 60 q4), (M 33, aI (K 0) 60 q5), (M 45, aI (K 0) 2 (va_up gsz (1 : Int).toNat (qs.length : Int))), (M 46, aI (K 4) 2 (va_up gex (1 : Int).toNat e)), (M 43, aR (K 7) 2 gE), (M 44, aR (K 8) 2 gS), (ME 0, aI (K 0) 60 e0), (ME 1, aI (K 0) 60 (va_up gx k.toNat ((qget qs k).2.2.2.2.1))), (MS 0, aF (K 3) 60 s0), (MS 1, aF (K 3) 60 (va_up gy k.toNat (FP.fdiv (FP.i2f (iI ((qget qs k).2.2.2.2.1))) (FP.i2f (iI ((qget qs k).2.2.2.1))))))]) [0, 1, 2, 3, 4, 5, 6, 7, 8, 9, 10] rfl rfl) (lv_sub hl [1, 2, 3, 0] rfl)
      exact lp53 ((((qs.length - 0 : Int)) + 1).toNat) 0 e1 s1 _ _ _ (by omega) (fun z h1 h2 => by omega) (by omega) (G.perm (ws' := [(m0, mO M 0 xrm xsv xln xat xer xwr xwd xlo xhi xwl xml xkl xfi xse xdn xon xtw xol (qs.length : Int) xgl xus xpr xmk xab), (M 32, aI (K 0) 60 q4), (M 33, aI (K 0) 60 q5), (M 45, aI (K 0) 2 (va_up gsz (1 : Int).toNat (qs.length : Int))), (M 46, aI (K 4) 2 (va_up gex (1 : Int).toNat e)), (M 43, aR (K 7) 2 gE), (M 44, aR (K 8) 2 gS), (ME 0, aI (K 0) 60 e0), (ME 1, aI (K 0) 60 e1), (MS 0, aF (K 3) 60 s0), (MS 1, aF (K 3) 60 s1)]) [0, 1, 2, 3, 4, 5, 6, 7, 8, 9, 10] rfl rfl) (lv_sub hl [1, 2, 3, 0] rfl)
  · replace G := G.perm (ws' := [(m0, mO M xth xrm xsv xln xat xer xwr xwd xlo xhi xwl xml xkl xfi xse xdn xon xtw xol (qs.length : Int) xgl xus xpr xmk xab), (M 32, aI (K 0) 60 q4), (M 33, aI (K 0) 60 q5), (M 45, aI (K 0) 2 gsz), (M 46, aI (K 4) 2 gex), (M 43, aR (K 7) 2 gE), (M 44, aR (K 8) 2 gS), (ME 0, aI (K 0) 60 e0), (ME 1, aI (K 0) 60 e1), (MS 0, aF (K 3) 60 s0), (MS 1, aF (K 3) 60 s1)]) [0, 1, 2, 3, 4, 5, 6, 7, 8, 9, 10] rfl rfl
    refine W.eq (g2 := F0 m9 6 ls [.int (iI 0), .int (iI 1), .ref m0]) rfl ?_
    exfalso; omega

def rm_X11_storeLengths_1n : Room := { frames := 3, cells := 0, slots := 0, locals := 54 }
set_option maxHeartbeats 4000000 in
set_option maxRecDepth 100000 in
theorem c_X11_storeLengths_1n (l : Launch) (D : va_G) (K : Nat → ClassId) (z0 : Nat) (m0 : Nat) (M : Nat → Nat) (xth : Int) (xrm : Int) (xsv : Int) (xln : Int) (xat : Int) (xer : Int) (xwr : Int) (xwd : Int) (xlo : Int) (xhi : Int) (xwl : Int) (xml : Int) (xkl : Int) (xfi : Int) (xse : Int) (xdn : Int) (xon : Int) (xtw : Int) (xol : Int) (xrw : Int) (xgl : Int) (xus : Int) (xpr : Int) (xmk : Int) (xab : Int) (e : Int) (hrr : -1 ≤ xrw ∧ xrw ≤ 60) (hn_ : xrw < 0) (he : e = 0 ∨ e = 1) : CT l D K z0 yX11_storeLengths cX11_storeLengths 4 (some .int) rm_X11_storeLengths_1n [.ref m0, .int (iI 1), .int (iI e)] [(m0, mO M xth xrm xsv xln xat xer xwr xwd xlo xhi xwl xml xkl xfi xse xdn xon xtw xol xrw xgl xus xpr xmk xab)] (fun v9 u9 => v9 = some (.int (iI 0)) ∧ u9 = [(m0, mO M 2 xrm xsv xln xat xer xwr xwd xlo xhi xwl xml xkl xfi xse xdn xon xtw xol xrw xgl xus xpr xmk xab)]) := by
  refine CT.start RX11 "storeLengths" (by decide) rfl rfl (Nat.le_of_ble_eq_true rfl) ?_
  intro p9 e9 s9 m9 ag9 bl9 mt9 c9 A9 Q9 ls F G hR hl
  have hl : lv_has ls 4 [(0, .ref m0), (1, .int (iI 1)), (2, .int (iI e))] := hl
  refine lv_aload_n F.1 F.2.1 dX11_storeLengths_0 rfl (lv_at hl 0 rfl) ?_
  refine ad_iconst F dX11_storeLengths_1 ?_
  refine lv_iload_n F.1 F.2.1 dX11_storeLengths_2 rfl (lv_at hl 1 rfl) ?_
  refine ad_callS (As := [.int (iI 1)]) (rest := [.int (iI 1), .ref m0]) F G (c_X11_isRow l D K z0 1 (by omega)) my_X11_isRow ms_X11_345 (wr := [(m0, mO M xth xrm xsv xln xat xer xwr xwd xlo xhi xwl xml xkl xfi xse xdn xon xtw xol xrw xgl xus xpr xmk xab)]) (isC := []) (isR := [0]) ⟨rfl, rfl, rfl, rfl, by decide⟩ rfl rfl ⟨Nat.le_of_ble_eq_true rfl, Nat.le_of_ble_eq_true rfl⟩ ⟨Nat.le_of_ble_eq_true rfl, Nat.le_of_ble_eq_true rfl⟩ (Nat.le_of_ble_eq_true rfl) hl.1 (cells9 := 0) (slots9 := 0) ⟨rfl, rfl⟩ dX11_storeLengths_3 (fun v u H locs hw_1 G => ?_)
  rcases hw_1 with ⟨rfl, hc_2, rfl⟩ | ⟨rfl, hc_3, rfl⟩
  · replace G := G.perm (ws' := [(m0, mO M xth xrm xsv xln xat xer xwr xwd xlo xhi xwl xml xkl xfi xse xdn xon xtw xol xrw xgl xus xpr xmk xab)]) [0] rfl rfl
    refine W.eq (g2 := F0 m9 6 ls [.int (iI 1), .int (iI 1), .ref m0]) rfl ?_
    refine ad_if_ne (tgt := 13) F (by decide) dX11_storeLengths_6 (by decide) (fun _ => ?_) (fun cc_4 => absurd cc_4 (by decide))
    refine ad_iconst F dX11_storeLengths_13 ?_
    refine ad_callV (As := [.int (iI 1), .int (iI 0)]) (rest := []) F G (c_X11_fails_0 l D K z0 m0 M xth xrm xsv xln xat xer xwr xwd xlo xhi xwl xml xkl xfi xse xdn xon xtw xol xrw xgl xus xpr xmk xab 1 (by omega)) my_X11_fails mv_X11_111 (wr := []) (isC := [0]) (isR := []) ⟨rfl, rfl, rfl, rfl, by decide⟩ 11 0 rfl rfl rfl rfl ⟨Nat.le_of_ble_eq_true rfl, Nat.le_of_ble_eq_true rfl⟩ ⟨Nat.le_of_ble_eq_true rfl, Nat.le_of_ble_eq_true rfl⟩ (Nat.le_of_ble_eq_true rfl) hl.1 (cells9 := 0) (slots9 := 0) ⟨rfl, rfl⟩ dX11_storeLengths_14 (fun v u H locs hw_5 G => ?_)
    obtain ⟨rfl, rfl⟩ := hw_5
    replace G := G.perm (ws' := [(m0, mO M 0 xrm xsv xln xat xer xwr xwd xlo xhi xwl xml xkl xfi xse xdn xon xtw xol xrw xgl xus xpr xmk xab)]) [0] rfl rfl
    refine W.eq (g2 := F0 m9 17 ls [.int (iI 0)]) rfl ?_
    refine ad_if_ne (tgt := 32) F (by decide) dX11_storeLengths_17 (by decide) (fun cc_6 => absurd cc_6 (by decide)) (fun _ => ?_)
    refine lv_aload_n F.1 F.2.1 dX11_storeLengths_20 rfl (lv_at hl 0 rfl) ?_
    refine ad_iconst F dX11_storeLengths_21 ?_
    refine lv_aload_n F.1 F.2.1 dX11_storeLengths_22 rfl (lv_at hl 0 rfl) ?_
    refine ad_callV (As := []) (rest := [.int (iI 2), .ref m0]) F G (c_X11_hasNone l D K z0 m0 M 0 xrm xsv xln xat xer xwr xwd xlo xhi xwl xml xkl xfi xse xdn xon xtw xol xrw xgl xus xpr xmk xab (by omega)) my_X11_hasNone mv_X11_342 (wr := []) (isC := [0]) (isR := []) ⟨rfl, rfl, rfl, rfl, by decide⟩ 11 0 rfl rfl rfl rfl ⟨Nat.le_of_ble_eq_true rfl, Nat.le_of_ble_eq_true rfl⟩ ⟨Nat.le_of_ble_eq_true rfl, Nat.le_of_ble_eq_true rfl⟩ (Nat.le_of_ble_eq_true rfl) hl.1 (cells9 := 0) (slots9 := 0) ⟨rfl, rfl⟩ dX11_storeLengths_23 (fun v u H locs hw_7 G => ?_)
    rcases hw_7 with ⟨rfl, hc_8, rfl⟩ | ⟨rfl, hc_9, rfl⟩
    · replace G := G.perm (ws' := [(m0, mO M 0 xrm xsv xln xat xer xwr xwd xlo xhi xwl xml xkl xfi xse xdn xon xtw xol xrw xgl xus xpr xmk xab)]) [0] rfl rfl
      refine W.eq (g2 := F0 m9 26 ls [.int (iI 1), .int (iI 2), .ref m0]) rfl ?_
      refine ad_callV (As := [.int (iI 2), .int (iI 1)]) (rest := []) F G (c_X11_fails_1 l D K z0 m0 M 0 xrm xsv xln xat xer xwr xwd xlo xhi xwl xml xkl xfi xse xdn xon xtw xol xrw xgl xus xpr xmk xab 2 (by omega)) my_X11_fails mv_X11_111 (wr := []) (isC := [0]) (isR := []) ⟨rfl, rfl, rfl, rfl, by decide⟩ 11 0 rfl rfl rfl rfl ⟨Nat.le_of_ble_eq_true rfl, Nat.le_of_ble_eq_true rfl⟩ ⟨Nat.le_of_ble_eq_true rfl, Nat.le_of_ble_eq_true rfl⟩ (Nat.le_of_ble_eq_true rfl) hl.1 (cells9 := 0) (slots9 := 0) ⟨rfl, rfl⟩ dX11_storeLengths_26 (fun v u H locs hw_10 G => ?_)
      obtain ⟨rfl, rfl⟩ := hw_10
      replace G := G.perm (ws' := [(m0, mO M 2 xrm xsv xln xat xer xwr xwd xlo xhi xwl xml xkl xfi xse xdn xon xtw xol xrw xgl xus xpr xmk xab)]) [0] rfl rfl
      refine W.eq (g2 := F0 m9 29 ls [.int (iI 1)]) rfl ?_
      refine ad_if_eq (tgt := 34) F (by decide) dX11_storeLengths_29 (by decide) (fun cc_11 => absurd cc_11 (by decide)) (fun _ => ?_)
      refine ad_iconst F dX11_storeLengths_32 ?_
      exact ad_ireturn F G hR rfl (Nat.le_of_ble_eq_true rfl) (Nat.le_of_ble_eq_true rfl) ⟨rfl, rfl⟩ dX11_storeLengths_33
    · replace G := G.perm (ws' := [(m0, mO M 0 xrm xsv xln xat xer xwr xwd xlo xhi xwl xml xkl xfi xse xdn xon xtw xol xrw xgl xus xpr xmk xab)]) [0] rfl rfl
      refine W.eq (g2 := F0 m9 26 ls [.int (iI 0), .int (iI 2), .ref m0]) rfl ?_
      exfalso; omega
  · replace G := G.perm (ws' := [(m0, mO M xth xrm xsv xln xat xer xwr xwd xlo xhi xwl xml xkl xfi xse xdn xon xtw xol xrw xgl xus xpr xmk xab)]) [0] rfl rfl
    refine W.eq (g2 := F0 m9 6 ls [.int (iI 0), .int (iI 1), .ref m0]) rfl ?_
    exfalso; omega

def rm_X11_copyLengths_1 : Room := { frames := 3, cells := 0, slots := 0, locals := 54 }
set_option maxHeartbeats 4000000 in
set_option maxRecDepth 100000 in
theorem c_X11_copyLengths_1 (l : Launch) (D : va_G) (K : Nat → ClassId) (z0 : Nat) (m0 : Nat) (M : Nat → Nat) (xth : Int) (xrm : Int) (xsv : Int) (xln : Int) (xat : Int) (xer : Int) (xwr : Int) (xwd : Int) (xlo : Int) (xhi : Int) (xwl : Int) (xml : Int) (xkl : Int) (xfi : Int) (xse : Int) (xdn : Int) (xon : Int) (xtw : Int) (xol : Int) (xrw : Int) (xgl : Int) (xus : Int) (xpr : Int) (xmk : Int) (xab : Int) (gsz : Nat → Int) (gex : Nat → Int) (ME : Nat → Nat) (MS : Nat → Nat) (gE : Nat → Option Nat) (gS : Nat → Option Nat) (e0 : Nat → Int) (e1 : Nat → Int) (s0 : Nat → UInt32) (s1 : Nat → UInt32) (sz0 : Int) (sz1 : Int) (x0 : Int) (x1 : Int) (vs0 : List Vw) (vs1 : List Vw) (k : Int) (hE : ∀ j : Nat, j < 2 → gE j = some (ME j)) (hS : ∀ j : Nat, j < 2 → gS j = some (MS j)) (hsz : gsz 0 = sz0 ∧ gsz 1 = sz1) (hxx : gex 0 = x0 ∧ gex 1 = x1) (hb_ : -1 ≤ sz0 ∧ sz0 ≤ 50 ∧ -1 ≤ sz1 ∧ sz1 ≤ 50) (hx01 : (x0 = 0 ∨ x0 = 1) ∧ (x1 = 0 ∨ x1 = 1)) (hv0 : 0 ≤ sz0 → sz0 = vs0.length ∧ VOk vs0 ∧ ∀ z : Int, 0 ≤ z → z < vs0.length → e0 z.toNat = (vget vs0 z).1 ∧ s0 z.toNat = (vget vs0 z).2) (hv1 : 0 ≤ sz1 → sz1 = vs1.length ∧ VOk vs1 ∧ ∀ z : Int, 0 ≤ z → z < vs1.length → e1 z.toNat = (vget vs1 z).1 ∧ s1 z.toNat = (vget vs1 z).2) (hk : -2147483648 ≤ k ∧ k < 2147483648) : CT l D K z0 yX11_copyLengths cX11_copyLengths 6 (some .boolean) rm_X11_copyLengths_1 [.ref m0, .int (iI 1), .int (iI k)] [(m0, mO M xth xrm xsv xln xat xer xwr xwd xlo xhi xwl xml xkl xfi xse xdn xon xtw xol xrw xgl xus xpr xmk xab), (M 45, aI (K 0) 2 gsz), (M 46, aI (K 4) 2 gex), (M 43, aR (K 7) 2 gE), (M 44, aR (K 8) 2 gS), (ME 0, aI (K 0) 60 e0), (ME 1, aI (K 0) 60 e1), (MS 0, aF (K 3) 60 s0), (MS 1, aF (K 3) 60 s1)] (fun v9 u9 => (v9 = some (.int (iI 0)) ∧ (sz0 < 0 ∨ sz1 < 0) ∧ u9 = [(m0, mO M 2 xrm xsv xln xat xer xwr xwd xlo xhi xwl xml xkl xfi xse xdn xon xtw xol xrw xgl xus xpr xmk xab), (M 45, aI (K 0) 2 gsz), (M 46, aI (K 4) 2 gex), (M 43, aR (K 7) 2 gE), (M 44, aR (K 8) 2 gS), (ME 0, aI (K 0) 60 e0), (ME 1, aI (K 0) 60 e1), (MS 0, aF (K 3) 60 s0), (MS 1, aF (K 3) 60 s1)]) ∨ (v9 = some (.int (iI 0)) ∧ (0 ≤ sz0 ∧ 0 ≤ sz1) ∧ (x0 ≠ x1) ∧ u9 = [(m0, mO M 3 xrm xsv xln xat xer xwr xwd xlo xhi xwl xml xkl xfi xse xdn xon xtw xol xrw xgl xus xpr xmk xab), (M 45, aI (K 0) 2 gsz), (M 46, aI (K 4) 2 gex), (M 43, aR (K 7) 2 gE), (M 44, aR (K 8) 2 gS), (ME 0, aI (K 0) 60 e0), (ME 1, aI (K 0) 60 e1), (MS 0, aF (K 3) 60 s0), (MS 1, aF (K 3) 60 s1)]) ∨ (v9 = some (.int (iI 0)) ∧ (0 ≤ sz0 ∧ 0 ≤ sz1) ∧ (x0 = x1) ∧ (¬ (0 ≤ k ∧ k ≤ sz0 ∧ k ≤ sz1)) ∧ u9 = [(m0, mO M 4 xrm xsv xln xat xer xwr xwd xlo xhi xwl xml xkl xfi xse xdn xon xtw xol xrw xgl xus xpr xmk xab), (M 45, aI (K 0) 2 gsz), (M 46, aI (K 4) 2 gex), (M 43, aR (K 7) 2 gE), (M 44, aR (K 8) 2 gS), (ME 0, aI (K 0) 60 e0), (ME 1, aI (K 0) 60 e1), (MS 0, aF (K 3) 60 s0), (MS 1, aF (K 3) 60 s1)]) ∨ (∃ (c : Int), ∃ (gx : Nat → Int), ∃ (gy : Nat → UInt32), v9 = some (.int (iI c)) ∧ (0 ≤ sz0 ∧ 0 ≤ sz1) ∧ (x0 = x1) ∧ (0 ≤ k ∧ k ≤ sz0 ∧ k ≤ sz1) ∧ (c = 1 ↔ difE x0 vs0 vs1 k) ∧ (c = 0 ∨ c = 1) ∧ (∀ z : Int, 0 ≤ z → z < vs0.length → gx z.toNat = (vget (tkV vs0 vs1 k) z).1 ∧ gy z.toNat = (vget (tkV vs0 vs1 k) z).2) ∧ u9 = [(m0, mO M 0 xrm xsv xln xat xer xwr xwd xlo xhi xwl xml xkl xfi xse xdn xon xtw xol xrw xgl xus xpr xmk xab), (M 45, aI (K 0) 2 gsz), (M 46, aI (K 4) 2 gex), (M 43, aR (K 7) 2 gE), (M 44, aR (K 8) 2 gS), (ME 0, aI (K 0) 60 gx), (ME 1, aI (K 0) 60 e1), (MS 0, aF (K 3) 60 gy), (MS 1, aF (K 3) 60 s1)])) := by
  refine CT.start RX11 "copyLengths" (by decide) rfl rfl (Nat.le_of_ble_eq_true rfl) ?_
  intro p9 e9 s9 m9 ag9 bl9 mt9 c9 A9 Q9 ls F G hR hl
  have hl : lv_has ls 6 [(0, .ref m0), (1, .int (iI 1)), (2, .int (iI k))] := hl
  refine lv_aload_n F.1 F.2.1 dX11_copyLengths_0 rfl (lv_at hl 0 rfl) ?_
  refine ad_iconst F dX11_copyLengths_1 ?_
  refine lv_iload_n F.1 F.2.1 dX11_copyLengths_2 rfl (lv_at hl 1 rfl) ?_
  refine ad_callS (As := [.int (iI 1)]) (rest := [.int (iI 1), .ref m0]) F G (c_X11_isRow l D K z0 1 (by omega)) my_X11_isRow ms_X11_345 (wr := [(m0, mO M xth xrm xsv xln xat xer xwr xwd xlo xhi xwl xml xkl xfi xse xdn xon xtw xol xrw xgl xus xpr xmk xab), (M 45, aI (K 0) 2 gsz), (M 46, aI (K 4) 2 gex), (M 43, aR (K 7) 2 gE), (M 44, aR (K 8) 2 gS), (ME 0, aI (K 0) 60 e0), (ME 1, aI (K 0) 60 e1), (MS 0, aF (K 3) 60 s0), (MS 1, aF (K 3) 60 s1)]) (isC := []) (isR := [0, 1, 2, 3, 4, 5, 6, 7, 8]) ⟨rfl, rfl, rfl, rfl, by decide⟩ rfl rfl ⟨Nat.le_of_ble_eq_true rfl, Nat.le_of_ble_eq_true rfl⟩ ⟨Nat.le_of_ble_eq_true rfl, Nat.le_of_ble_eq_true rfl⟩ (Nat.le_of_ble_eq_true rfl) hl.1 (cells9 := 0) (slots9 := 0) ⟨rfl, rfl⟩ dX11_copyLengths_3 (fun v u H locs hw_1 G => ?_)
  rcases hw_1 with ⟨rfl, hc_2, rfl⟩ | ⟨rfl, hc_3, rfl⟩
  · replace G := G.perm (ws' := [(m0, mO M xth xrm xsv xln xat xer xwr xwd xlo xhi xwl xml xkl xfi xse xdn xon xtw xol xrw xgl xus xpr xmk xab), (M 45, aI (K 0) 2 gsz), (M 46, aI (K 4) 2 gex), (M 43, aR (K 7) 2 gE), (M 44, aR (K 8) 2 gS), (ME 0, aI (K 0) 60 e0), (ME 1, aI (K 0) 60 e1), (MS 0, aF (K 3) 60 s0), (MS 1, aF (K 3) 60 s1)]) [0, 1, 2, 3, 4, 5, 6, 7, 8] rfl rfl
    refine W.eq (g2 := F0 m9 6 ls [.int (iI 1), .int (iI 1), .ref m0]) rfl ?_
    refine ad_if_ne (tgt := 13) F (by decide) dX11_copyLengths_6 (by decide) (fun _ => ?_) (fun cc_4 => absurd cc_4 (by decide))
    refine ad_iconst F dX11_copyLengths_13 ?_
    refine ad_callV (As := [.int (iI 1), .int (iI 0)]) (rest := []) F G (c_X11_fails_0 l D K z0 m0 M xth xrm xsv xln xat xer xwr xwd xlo xhi xwl xml xkl xfi xse xdn xon xtw xol xrw xgl xus xpr xmk xab 1 (by omega)) my_X11_fails mv_X11_111 (wr := [(M 45, aI (K 0) 2 gsz), (M 46, aI (K 4) 2 gex), (M 43, aR (K 7) 2 gE), (M 44, aR (K 8) 2 gS), (ME 0, aI (K 0) 60 e0), (ME 1, aI (K 0) 60 e1), (MS 0, aF (K 3) 60 s0), (MS 1, aF (K 3) 60 s1)]) (isC := [0]) (isR := [1, 2, 3, 4, 5, 6, 7, 8]) ⟨rfl, rfl, rfl, rfl, by decide⟩ 11 0 rfl rfl rfl rfl ⟨Nat.le_of_ble_eq_true rfl, Nat.le_of_ble_eq_true rfl⟩ ⟨Nat.le_of_ble_eq_true rfl, Nat.le_of_ble_eq_true rfl⟩ (Nat.le_of_ble_eq_true rfl) hl.1 (cells9 := 0) (slots9 := 0) ⟨rfl, rfl⟩ dX11_copyLengths_14 (fun v u H locs hw_5 G => ?_)
    obtain ⟨rfl, rfl⟩ := hw_5
    replace G := G.perm (ws' := [(m0, mO M 0 xrm xsv xln xat xer xwr xwd xlo xhi xwl xml xkl xfi xse xdn xon xtw xol xrw xgl xus xpr xmk xab), (M 45, aI (K 0) 2 gsz), (M 46, aI (K 4) 2 gex), (M 43, aR (K 7) 2 gE), (M 44, aR (K 8) 2 gS), (ME 0, aI (K 0) 60 e0), (ME 1, aI (K 0) 60 e1), (MS 0, aF (K 3) 60 s0), (MS 1, aF (K 3) 60 s1)]) [8, 0, 1, 2, 3, 4, 5, 6, 7] rfl rfl
    refine W.eq (g2 := F0 m9 17 ls [.int (iI 0)]) rfl ?_
    refine ad_if_ne (tgt := 79) F (by decide) dX11_copyLengths_17 (by decide) (fun cc_6 => absurd cc_6 (by decide)) (fun _ => ?_)
    refine lv_aload_n F.1 F.2.1 dX11_copyLengths_20 rfl (lv_at hl 0 rfl) ?_
    refine ad_iconst F dX11_copyLengths_21 ?_
    refine lv_aload_n F.1 F.2.1 dX11_copyLengths_22 rfl (lv_at hl 0 rfl) ?_
    refine ad_get F G fl_X11_83 0 rfl rfl dX11_copyLengths_23 ?_
    refine ad_iconst F dX11_copyLengths_26 ?_
    refine ad_iald F G 1 rfl (w := sz0) (by omega) hsz.1 dX11_copyLengths_27 ?_
    refine ad_if_lt (tgt := 40) F (by omega) dX11_copyLengths_28 (by decide) (fun cc_7 => ?_) (fun cc_7 => ?_)
    · refine ad_iconst F dX11_copyLengths_40 ?_
      refine lv_goto (tgt := 45) F.1 F.2.1 dX11_copyLengths_41 (by decide) ?_
      refine ad_callV (As := [.int (iI 2), .int (iI 1)]) (rest := []) F G (c_X11_fails_1 l D K z0 m0 M 0 xrm xsv xln xat xer xwr xwd xlo xhi xwl xml xkl xfi xse xdn xon xtw xol xrw xgl xus xpr xmk xab 2 (by omega)) my_X11_fails mv_X11_111 (wr := [(M 45, aI (K 0) 2 gsz), (M 46, aI (K 4) 2 gex), (M 43, aR (K 7) 2 gE), (M 44, aR (K 8) 2 gS), (ME 0, aI (K 0) 60 e0), (ME 1, aI (K 0) 60 e1), (MS 0, aF (K 3) 60 s0), (MS 1, aF (K 3) 60 s1)]) (isC := [0]) (isR := [1, 2, 3, 4, 5, 6, 7, 8]) ⟨rfl, rfl, rfl, rfl, by decide⟩ 11 0 rfl rfl rfl rfl ⟨Nat.le_of_ble_eq_true rfl, Nat.le_of_ble_eq_true rfl⟩ ⟨Nat.le_of_ble_eq_true rfl, Nat.le_of_ble_eq_true rfl⟩ (Nat.le_of_ble_eq_true rfl) hl.1 (cells9 := 0) (slots9 := 0) ⟨rfl, rfl⟩ dX11_copyLengths_45 (fun v u H locs hw_8 G => ?_)
      obtain ⟨rfl, rfl⟩ := hw_8
      replace G := G.perm (ws' := [(m0, mO M 2 xrm xsv xln xat xer xwr xwd xlo xhi xwl xml xkl xfi xse xdn xon xtw xol xrw xgl xus xpr xmk xab), (M 45, aI (K 0) 2 gsz), (M 46, aI (K 4) 2 gex), (M 43, aR (K 7) 2 gE), (M 44, aR (K 8) 2 gS), (ME 0, aI (K 0) 60 e0), (ME 1, aI (K 0) 60 e1), (MS 0, aF (K 3) 60 s0), (MS 1, aF (K 3) 60 s1)]) [8, 0, 1, 2, 3, 4, 5, 6, 7] rfl rfl
      refine W.eq (g2 := F0 m9 48 ls [.int (iI 1)]) rfl ?_
      refine ad_if_ne (tgt := 79) F (by decide) dX11_copyLengths_48 (by decide) (fun _ => ?_) (fun cc_9 => absurd cc_9 (by decide))
      refine ad_iconst F dX11_copyLengths_79 ?_
      exact ad_zreturn F G hR rfl (Nat.le_of_ble_eq_true rfl) (Nat.le_of_ble_eq_true rfl) rfl (Or.inl ⟨rfl, (by omega), rfl⟩) dX11_copyLengths_80
    · refine lv_aload_n F.1 F.2.1 dX11_copyLengths_31 rfl (lv_at hl 0 rfl) ?_
      refine ad_get F G fl_X11_83 0 rfl rfl dX11_copyLengths_32 ?_
      refine ad_iconst F dX11_copyLengths_35 ?_
      refine ad_iald F G 1 rfl (w := sz1) (by omega) hsz.2 dX11_copyLengths_36 ?_
      refine ad_if_ge (tgt := 44) F (by omega) dX11_copyLengths_37 (by decide) (fun cc_10 => ?_) (fun cc_10 => ?_)
      · refine ad_iconst F dX11_copyLengths_44 ?_
        refine ad_callV (As := [.int (iI 2), .int (iI 0)]) (rest := []) F G (c_X11_fails_0 l D K z0 m0 M 0 xrm xsv xln xat xer xwr xwd xlo xhi xwl xml xkl xfi xse xdn xon xtw xol xrw xgl xus xpr xmk xab 2 (by omega)) my_X11_fails mv_X11_111 (wr := [(M 45, aI (K 0) 2 gsz), (M 46, aI (K 4) 2 gex), (M 43, aR (K 7) 2 gE), (M 44, aR (K 8) 2 gS), (ME 0, aI (K 0) 60 e0), (ME 1, aI (K 0) 60 e1), (MS 0, aF (K 3) 60 s0), (MS 1, aF (K 3) 60 s1)]) (isC := [0]) (isR := [1, 2, 3, 4, 5, 6, 7, 8]) ⟨rfl, rfl, rfl, rfl, by decide⟩ 11 0 rfl rfl rfl rfl ⟨Nat.le_of_ble_eq_true rfl, Nat.le_of_ble_eq_true rfl⟩ ⟨Nat.le_of_ble_eq_true rfl, Nat.le_of_ble_eq_true rfl⟩ (Nat.le_of_ble_eq_true rfl) hl.1 (cells9 := 0) (slots9 := 0) ⟨rfl, rfl⟩ dX11_copyLengths_45 (fun v u H locs hw_11 G => ?_)
        obtain ⟨rfl, rfl⟩ := hw_11
        replace G := G.perm (ws' := [(m0, mO M 0 xrm xsv xln xat xer xwr xwd xlo xhi xwl xml xkl xfi xse xdn xon xtw xol xrw xgl xus xpr xmk xab), (M 45, aI (K 0) 2 gsz), (M 46, aI (K 4) 2 gex), (M 43, aR (K 7) 2 gE), (M 44, aR (K 8) 2 gS), (ME 0, aI (K 0) 60 e0), (ME 1, aI (K 0) 60 e1), (MS 0, aF (K 3) 60 s0), (MS 1, aF (K 3) 60 s1)]) [8, 0, 1, 2, 3, 4, 5, 6, 7] rfl rfl
        refine W.eq (g2 := F0 m9 48 ls [.int (iI 0)]) rfl ?_
        refine ad_if_ne (tgt := 79) F (by decide) dX11_copyLengths_48 (by decide) (fun cc_12 => absurd cc_12 (by decide)) (fun _ => ?_)
        refine lv_aload_n F.1 F.2.1 dX11_copyLengths_51 rfl (lv_at hl 0 rfl) ?_
        refine ad_iconst F dX11_copyLengths_52 ?_
        refine lv_aload_n F.1 F.2.1 dX11_copyLengths_53 rfl (lv_at hl 0 rfl) ?_
        refine ad_get F G fl_X11_86 0 rfl rfl dX11_copyLengths_54 ?_
        refine ad_iconst F dX11_copyLengths_57 ?_
        refine ad_zald F G 2 rfl (w := x0) (by omega) hxx.1 dX11_copyLengths_58 ?_
        refine lv_aload_n F.1 F.2.1 dX11_copyLengths_59 rfl (lv_at hl 0 rfl) ?_
        refine ad_get F G fl_X11_86 0 rfl rfl dX11_copyLengths_60 ?_
        refine ad_iconst F dX11_copyLengths_63 ?_
        refine ad_zald F G 2 rfl (w := x1) (by omega) hxx.2 dX11_copyLengths_64 ?_
        refine ad_icmp_eq (tgt := 72) F (by omega) dX11_copyLengths_65 (by decide) (fun cc_13 => ?_) (fun cc_13 => ?_)
        · refine ad_iconst F dX11_copyLengths_72 ?_
          refine ad_callV (As := [.int (iI 3), .int (iI 0)]) (rest := []) F G (c_X11_fails_0 l D K z0 m0 M 0 xrm xsv xln xat xer xwr xwd xlo xhi xwl xml xkl xfi xse xdn xon xtw xol xrw xgl xus xpr xmk xab 3 (by omega)) my_X11_fails mv_X11_111 (wr := [(M 45, aI (K 0) 2 gsz), (M 46, aI (K 4) 2 gex), (M 43, aR (K 7) 2 gE), (M 44, aR (K 8) 2 gS), (ME 0, aI (K 0) 60 e0), (ME 1, aI (K 0) 60 e1), (MS 0, aF (K 3) 60 s0), (MS 1, aF (K 3) 60 s1)]) (isC := [0]) (isR := [1, 2, 3, 4, 5, 6, 7, 8]) ⟨rfl, rfl, rfl, rfl, by decide⟩ 11 0 rfl rfl rfl rfl ⟨Nat.le_of_ble_eq_true rfl, Nat.le_of_ble_eq_true rfl⟩ ⟨Nat.le_of_ble_eq_true rfl, Nat.le_of_ble_eq_true rfl⟩ (Nat.le_of_ble_eq_true rfl) hl.1 (cells9 := 0) (slots9 := 0) ⟨rfl, rfl⟩ dX11_copyLengths_73 (fun v u H locs hw_14 G => ?_)
          obtain ⟨rfl, rfl⟩ := hw_14
          replace G := G.perm (ws' := [(m0, mO M 0 xrm xsv xln xat xer xwr xwd xlo xhi xwl xml xkl xfi xse xdn xon xtw xol xrw xgl xus xpr xmk xab), (M 45, aI (K 0) 2 gsz), (M 46, aI (K 4) 2 gex), (M 43, aR (K 7) 2 gE), (M 44, aR (K 8) 2 gS), (ME 0, aI (K 0) 60 e0), (ME 1, aI (K 0) 60 e1), (MS 0, aF (K 3) 60 s0), (MS 1, aF (K 3) 60 s1)]) [8, 0, 1, 2, 3, 4, 5, 6, 7] rfl rfl
          refine W.eq (g2 := F0 m9 76 ls [.int (iI 0)]) rfl ?_
          refine ad_if_eq (tgt := 81) F (by decide) dX11_copyLengths_76 (by decide) (fun _ => ?_) (fun cc_15 => absurd cc_15 (by decide))
          refine lv_aload_n F.1 F.2.1 dX11_copyLengths_81 rfl (lv_at hl 0 rfl) ?_
          refine ad_iconst F dX11_copyLengths_82 ?_
          refine lv_iload_n F.1 F.2.1 dX11_copyLengths_83 rfl (lv_at hl 2 rfl) ?_
          refine ad_if_lt (tgt := 107) F (by omega) dX11_copyLengths_84 (by decide) (fun cc_16 => ?_) (fun cc_16 => ?_)
          · refine ad_iconst F dX11_copyLengths_107 ?_
            refine lv_goto (tgt := 112) F.1 F.2.1 dX11_copyLengths_108 (by decide) ?_
            refine ad_callV (As := [.int (iI 4), .int (iI 1)]) (rest := []) F G (c_X11_fails_1 l D K z0 m0 M 0 xrm xsv xln xat xer xwr xwd xlo xhi xwl xml xkl xfi xse xdn xon xtw xol xrw xgl xus xpr xmk xab 4 (by omega)) my_X11_fails mv_X11_111 (wr := [(M 45, aI (K 0) 2 gsz), (M 46, aI (K 4) 2 gex), (M 43, aR (K 7) 2 gE), (M 44, aR (K 8) 2 gS), (ME 0, aI (K 0) 60 e0), (ME 1, aI (K 0) 60 e1), (MS 0, aF (K 3) 60 s0), (MS 1, aF (K 3) 60 s1)]) (isC := [0]) (isR := [1, 2, 3, 4, 5, 6, 7, 8]) ⟨rfl, rfl, rfl, rfl, by decide⟩ 11 0 rfl rfl rfl rfl ⟨Nat.le_of_ble_eq_true rfl, Nat.le_of_ble_eq_true rfl⟩ ⟨Nat.le_of_ble_eq_true rfl, Nat.le_of_ble_eq_true rfl⟩ (Nat.le_of_ble_eq_true rfl) hl.1 (cells9 := 0) (slots9 := 0) ⟨rfl, rfl⟩ dX11_copyLengths_112 (fun v u H locs hw_17 G => ?_)
            obtain ⟨rfl, rfl⟩ := hw_17
            replace G := G.perm (ws' := [(m0, mO M 4 xrm xsv xln xat xer xwr xwd xlo xhi xwl xml xkl xfi xse xdn xon xtw xol xrw xgl xus xpr xmk xab), (M 45, aI (K 0) 2 gsz), (M 46, aI (K 4) 2 gex), (M 43, aR (K 7) 2 gE), (M 44, aR (K 8) 2 gS), (ME 0, aI (K 0) 60 e0), (ME 1, aI (K 0) 60 e1), (MS 0, aF (K 3) 60 s0), (MS 1, aF (K 3) 60 s1)]) [8, 0, 1, 2, 3, 4, 5, 6, 7] rfl rfl
            refine W.eq (g2 := F0 m9 115 ls [.int (iI 1)]) rfl ?_
            refine ad_if_eq (tgt := 120) F (by decide) dX11_copyLengths_115 (by decide) (fun cc_18 => absurd cc_18 (by decide)) (fun _ => ?_)
            refine ad_iconst F dX11_copyLengths_118 ?_
            exact ad_zreturn F G hR rfl (Nat.le_of_ble_eq_true rfl) (Nat.le_of_ble_eq_true rfl) rfl (Or.inr (Or.inr (Or.inl ⟨rfl, (by omega), cc_13, (by omega), rfl⟩))) dX11_copyLengths_119
          · refine lv_iload_n F.1 F.2.1 dX11_copyLengths_87 rfl (lv_at hl 2 rfl) ?_
            refine lv_aload_n F.1 F.2.1 dX11_copyLengths_88 rfl (lv_at hl 0 rfl) ?_
            refine ad_get F G fl_X11_83 0 rfl rfl dX11_copyLengths_89 ?_
            refine ad_iconst F dX11_copyLengths_92 ?_
            refine ad_iald F G 1 rfl (w := sz0) (by omega) hsz.1 dX11_copyLengths_93 ?_
            refine ad_icmp_gt (tgt := 107) F (by omega) dX11_copyLengths_94 (by decide) (fun cc_19 => ?_) (fun cc_19 => ?_)
            · refine ad_iconst F dX11_copyLengths_107 ?_
              refine lv_goto (tgt := 112) F.1 F.2.1 dX11_copyLengths_108 (by decide) ?_
              refine ad_callV (As := [.int (iI 4), .int (iI 1)]) (rest := []) F G (c_X11_fails_1 l D K z0 m0 M 0 xrm xsv xln xat xer xwr xwd xlo xhi xwl xml xkl xfi xse xdn xon xtw xol xrw xgl xus xpr xmk xab 4 (by omega)) my_X11_fails mv_X11_111 (wr := [(M 45, aI (K 0) 2 gsz), (M 46, aI (K 4) 2 gex), (M 43, aR (K 7) 2 gE), (M 44, aR (K 8) 2 gS), (ME 0, aI (K 0) 60 e0), (ME 1, aI (K 0) 60 e1), (MS 0, aF (K 3) 60 s0), (MS 1, aF (K 3) 60 s1)]) (isC := [0]) (isR := [1, 2, 3, 4, 5, 6, 7, 8]) ⟨rfl, rfl, rfl, rfl, by decide⟩ 11 0 rfl rfl rfl rfl ⟨Nat.le_of_ble_eq_true rfl, Nat.le_of_ble_eq_true rfl⟩ ⟨Nat.le_of_ble_eq_true rfl, Nat.le_of_ble_eq_true rfl⟩ (Nat.le_of_ble_eq_true rfl) hl.1 (cells9 := 0) (slots9 := 0) ⟨rfl, rfl⟩ dX11_copyLengths_112 (fun v u H locs hw_20 G => ?_)
              obtain ⟨rfl, rfl⟩ := hw_20
              replace G := G.perm (ws' := [(m0, mO M 4 xrm xsv xln xat xer xwr xwd xlo xhi xwl xml xkl xfi xse xdn xon xtw xol xrw xgl xus xpr xmk xab), (M 45, aI (K 0) 2 gsz), (M 46, aI (K 4) 2 gex), (M 43, aR (K 7) 2 gE), (M 44, aR (K 8) 2 gS), (ME 0, aI (K 0) 60 e0), (ME 1, aI (K 0) 60 e1), (MS 0, aF (K 3) 60 s0), (MS 1, aF (K 3) 60 s1)]) [8, 0, 1, 2, 3, 4, 5, 6, 7] rfl rfl
              refine W.eq (g2 := F0 m9 115 ls [.int (iI 1)]) rfl ?_
              refine ad_if_eq (tgt := 120) F (by decide) dX11_copyLengths_115 (by decide) (fun cc_21 => absurd cc_21 (by decide)) (fun _ => ?_)
              refine ad_iconst F dX11_copyLengths_118 ?_
              exact ad_zreturn F G hR rfl (Nat.le_of_ble_eq_true rfl) (Nat.le_of_ble_eq_true rfl) rfl (Or.inr (Or.inr (Or.inl ⟨rfl, (by omega), cc_13, (by omega), rfl⟩))) dX11_copyLengths_119
            · refine lv_iload_n F.1 F.2.1 dX11_copyLengths_97 rfl (lv_at hl 2 rfl) ?_
              refine lv_aload_n F.1 F.2.1 dX11_copyLengths_98 rfl (lv_at hl 0 rfl) ?_
              refine ad_get F G fl_X11_83 0 rfl rfl dX11_copyLengths_99 ?_
              refine ad_iconst F dX11_copyLengths_102 ?_
              refine ad_iald F G 1 rfl (w := sz1) (by omega) hsz.2 dX11_copyLengths_103 ?_
              refine ad_icmp_le (tgt := 111) F (by omega) dX11_copyLengths_104 (by decide) (fun cc_22 => ?_) (fun cc_22 => ?_)
              · refine ad_iconst F dX11_copyLengths_111 ?_
                refine ad_callV (As := [.int (iI 4), .int (iI 0)]) (rest := []) F G (c_X11_fails_0 l D K z0 m0 M 0 xrm xsv xln xat xer xwr xwd xlo xhi xwl xml xkl xfi xse xdn xon xtw xol xrw xgl xus xpr xmk xab 4 (by omega)) my_X11_fails mv_X11_111 (wr := [(M 45, aI (K 0) 2 gsz), (M 46, aI (K 4) 2 gex), (M 43, aR (K 7) 2 gE), (M 44, aR (K 8) 2 gS), (ME 0, aI (K 0) 60 e0), (ME 1, aI (K 0) 60 e1), (MS 0, aF (K 3) 60 s0), (MS 1, aF (K 3) 60 s1)]) (isC := [0]) (isR := [1, 2, 3, 4, 5, 6, 7, 8]) ⟨rfl, rfl, rfl, rfl, by decide⟩ 11 0 rfl rfl rfl rfl ⟨Nat.le_of_ble_eq_true rfl, Nat.le_of_ble_eq_true rfl⟩ ⟨Nat.le_of_ble_eq_true rfl, Nat.le_of_ble_eq_true rfl⟩ (Nat.le_of_ble_eq_true rfl) hl.1 (cells9 := 0) (slots9 := 0) ⟨rfl, rfl⟩ dX11_copyLengths_112 (fun v u H locs hw_23 G => ?_)
                obtain ⟨rfl, rfl⟩ := hw_23
                replace G := G.perm (ws' := [(m0, mO M 0 xrm xsv xln xat xer xwr xwd xlo xhi xwl xml xkl xfi xse xdn xon xtw xol xrw xgl xus xpr xmk xab), (M 45, aI (K 0) 2 gsz), (M 46, aI (K 4) 2 gex), (M 43, aR (K 7) 2 gE), (M 44, aR (K 8) 2 gS), (ME 0, aI (K 0) 60 e0), (ME 1, aI (K 0) 60 e1), (MS 0, aF (K 3) 60 s0), (MS 1, aF (K 3) 60 s1)]) [8, 0, 1, 2, 3, 4, 5, 6, 7] rfl rfl
                refine W.eq (g2 := F0 m9 115 ls [.int (iI 0)]) rfl ?_
                refine ad_if_eq (tgt := 120) F (by decide) dX11_copyLengths_115 (by decide) (fun _ => ?_) (fun cc_24 => absurd cc_24 (by decide))
                refine ad_iconst F dX11_copyLengths_120 ?_
                refine lv_iload_n F.1 F.2.1 dX11_copyLengths_121 rfl (lv_at hl 1 rfl) ?_
                refine ad_isub F dX11_copyLengths_122 ?_
                refine ad_topi (y := 0) (by omega) ?_
                refine lv_istore_n (lv' := [(3, .int (iI 0)), (0, .ref m0), (1, .int (iI 1)), (2, .int (iI k))]) F.1 F.2.1 dX11_copyLengths_123 rfl hl (by decide) rfl (fun ls hl => ?_)
                refine ad_iconst F dX11_copyLengths_124 ?_
                refine lv_istore (lv' := [(4, .int (iI 0)), (3, .int (iI 0)), (0, .ref m0), (1, .int (iI 1)), (2, .int (iI k))]) F.1 F.2.1 dX11_copyLengths_125 hl (by decide) rfl (fun ls hl => ?_)
                obtain ⟨hl0, ho0, hr0⟩ := hv0 (by omega)
                obtain ⟨hl1, ho1, hr1⟩ := hv1 (by omega)
                refine ad_iconst F dX11_copyLengths_127 ?_
                refine lv_istore (lv' := [(5, .int (iI 0)), (4, .int (iI 0)), (3, .int (iI 0)), (0, .ref m0), (1, .int (iI 1)), (2, .int (iI k))]) F.1 F.2.1 dX11_copyLengths_128 hl (by decide) rfl (fun ls hl => ?_)
                have lp130 : ∀ (n130 : Nat) (i : Int) (ch : Int) (gx : Nat → Int) (gy : Nat → UInt32) (H : Heap) (locs : List Loc) (ls : Array Slot), (0 ≤ i ∧ i ≤ k) → (ch = 0 ∨ ch = 1) → (ch = 1 ↔ difE x0 vs0 vs1 i) → (∀ z : Int, 0 ≤ z → z < vs0.length → gx z.toNat = (vget (tkV vs0 vs1 i) z).1 ∧ gy z.toNat = (vget (tkV vs0 vs1 i) z).2) → (k - i) < (n130 : Int) → ad_G D A9 s9.heap H locs [(m0, mO M 0 xrm xsv xln xat xer xwr xwd xlo xhi xwl xml xkl xfi xse xdn xon xtw xol xrw xgl xus xpr xmk xab), (M 45, aI (K 0) 2 gsz), (M 46, aI (K 4) 2 gex), (M 43, aR (K 7) 2 gE), (M 44, aR (K 8) 2 gS), (ME 0, aI (K 0) 60 gx), (ME 1, aI (K 0) 60 e1), (MS 0, aF (K 3) 60 gy), (MS 1, aF (K 3) 60 s1)] → lv_has ls 6 [(0, .ref m0), (1, .int (iI 1)), (2, .int (iI k)), (3, .int (iI 0)), (4, .int (iI ch)), (5, .int (iI i))] → W p9 l e9 rm_X11_copyLengths_1 s9 m9 ag9 bl9 mt9 c9 H locs 0 0 Q9 (F0 m9 130 ls []) := by
                  intro n130
                  induction n130 with
                  | zero =>
                    intro i ch gx gy H locs ls hi hc hb hRm hm130
                    exact absurd hm130 (by omega)
                  | succ n130 ih130 =>
                    intro i ch gx gy H locs ls hi hc hb hRm hm130 G hl
                    refine lv_iload F.1 F.2.1 dX11_copyLengths_130 (lv_at hl 5 rfl) ?_
                    refine lv_iload_n F.1 F.2.1 dX11_copyLengths_132 rfl (lv_at hl 2 rfl) ?_
                    refine ad_icmp_ge (tgt := 248) F (by omega) dX11_copyLengths_133 (by decide) (fun cc_25 => ?_) (fun cc_25 => ?_)
                    · refine lv_iload F.1 F.2.1 dX11_copyLengths_248 (lv_at hl 4 rfl) ?_
                      exact ad_zreturn F G hR rfl (Nat.le_of_ble_eq_true rfl) (Nat.le_of_ble_eq_true rfl) (iI_boolN (by omega)).1 (Or.inr (Or.inr (Or.inr (⟨ch, gx, gy, rfl, (by omega), cc_13, (by omega), (by rw [hb, show i = k by omega]), hc, (by rw [← show i = k by omega]; exact hRm), rfl⟩)))) dX11_copyLengths_250
                    · have htk := tkV_get (vs := vs0) (ws := vs1) (k := i) (by omega) (by omega) (by omega) (z := i) (by omega)
                      rw [if_neg (by omega)] at htk
                      have hT1 : gx i.toNat = (vget vs0 i).1 ∧ gy i.toNat = (vget vs0 i).2 := by have q := hRm i (by omega) (by omega); rw [htk] at q; exact q
                      have hS1 := hr1 i (by omega) (by omega)
                      have hbT := ho0.2 i (by omega) (by omega)
                      have hbS := ho1.2 i (by omega) (by omega)
                      refine lv_iload F.1 F.2.1 dX11_copyLengths_136 (lv_at hl 4 rfl) ?_
                      refine lv_aload_n F.1 F.2.1 dX11_copyLengths_138 rfl (lv_at hl 0 rfl) ?_
                      refine ad_get F G fl_X11_86 0 rfl rfl dX11_copyLengths_139 ?_
                      refine ad_iconst F dX11_copyLengths_142 ?_
                      refine ad_zald F G 2 rfl (w := x0) (by omega) hxx.1 dX11_copyLengths_143 ?_
                      refine ad_if_eq (tgt := 176) F (by omega) dX11_copyLengths_144 (by decide) (fun cc_26 => ?_) (fun cc_26 => ?_)
                      · refine lv_aload_n F.1 F.2.1 dX11_copyLengths_176 rfl (lv_at hl 0 rfl) ?_
                        refine ad_get F G fl_X11_80 0 rfl rfl dX11_copyLengths_177 ?_
                        refine lv_iload_n F.1 F.2.1 dX11_copyLengths_180 rfl (lv_at hl 3 rfl) ?_
                        refine ad_aaldA F G 4 8 rfl rfl (w := (MS 0)) (by omega) (hS 0 (by decide)) dX11_copyLengths_181 ?_
                        refine lv_iload F.1 F.2.1 dX11_copyLengths_182 (lv_at hl 5 rfl) ?_
                        refine ad_fald F G 7 rfl (w := (vget vs0 i).2) (by omega) hT1.2 dX11_copyLengths_184 ?_
                        refine lv_aload_n F.1 F.2.1 dX11_copyLengths_185 rfl (lv_at hl 0 rfl) ?_
                        refine ad_get F G fl_X11_80 0 rfl rfl dX11_copyLengths_186 ?_
                        refine lv_iload_n F.1 F.2.1 dX11_copyLengths_189 rfl (lv_at hl 1 rfl) ?_
                        refine ad_aaldA F G 4 8 rfl rfl (w := (MS 1)) (by omega) (hS 1 (by decide)) dX11_copyLengths_190 ?_
                        refine lv_iload F.1 F.2.1 dX11_copyLengths_191 (lv_at hl 5 rfl) ?_
                        refine ad_fald F G 8 rfl (w := (vget vs1 i).2) (by omega) hS1.2 dX11_copyLengths_193 ?_
                        refine lv_fcmp F.1 F.2.1 dX11_copyLengths_194 ?_
                        refine ad_top32 (y := cmpI ((vget vs0 i).2) ((vget vs1 i).2)) (iI_of _) ?_
                        refine ad_if_eq (tgt := 202) F (cmpI_r _ _) dX11_copyLengths_195 (by decide) (fun cc_27 => ?_) (fun cc_27 => ?_)
                        · refine ad_iconst F dX11_copyLengths_202 ?_
                          refine ad_iorn F (by omega) dX11_copyLengths_203 ?_
                          refine lv_istore (lv' := [(4, .int (iI ch)), (0, .ref m0), (1, .int (iI 1)), (2, .int (iI k)), (3, .int (iI 0)), (5, .int (iI i))]) F.1 F.2.1 dX11_copyLengths_204 hl (by decide) rfl (fun ls hl => ?_)
                          refine lv_aload_n F.1 F.2.1 dX11_copyLengths_206 rfl (lv_at hl 1 rfl) ?_
                          refine ad_get F G fl_X11_75 0 rfl rfl dX11_copyLengths_207 ?_
                          refine lv_iload_n F.1 F.2.1 dX11_copyLengths_210 rfl (lv_at hl 4 rfl) ?_
                          refine ad_aaldA F G 3 7 rfl rfl (w := (ME 0)) (by omega) (hE 0 (by decide)) dX11_copyLengths_211 ?_
                          refine lv_iload F.1 F.2.1 dX11_copyLengths_212 (lv_at hl 5 rfl) ?_
                          refine lv_aload_n F.1 F.2.1 dX11_copyLengths_214 rfl (lv_at hl 1 rfl) ?_
                          refine ad_get F G fl_X11_75 0 rfl rfl dX11_copyLengths_215 ?_
                          refine lv_iload_n F.1 F.2.1 dX11_copyLengths_218 rfl (lv_at hl 2 rfl) ?_
                          refine ad_aaldA F G 3 7 rfl rfl (w := (ME 1)) (by omega) (hE 1 (by decide)) dX11_copyLengths_219 ?_
                          refine lv_iload F.1 F.2.1 dX11_copyLengths_220 (lv_at hl 5 rfl) ?_
                          refine ad_iald F G 6 rfl (w := (vget vs1 i).1) (by omega) hS1.1 dX11_copyLengths_222 ?_
                          refine ad_iast F G 5 rfl (by omega) (ws' := [(m0, mO M 0 xrm xsv xln xat xer xwr xwd xlo xhi xwl xml xkl xfi xse xdn xon xtw xol xrw xgl xus xpr xmk xab), (M 45, aI (K 0) 2 gsz), (M 46, aI (K 4) 2 gex), (M 43, aR (K 7) 2 gE), (M 44, aR (K 8) 2 gS), (ME 0, aI (K 0) 60 (va_up gx i.toNat ((vget vs1 i).1))), (ME 1, aI (K 0) 60 e1), (MS 0, aF (K 3) 60 gy), (MS 1, aF (K 3) 60 s1)]) rfl dX11_copyLengths_223 (fun H locs G => ?_)
                          refine lv_aload_n F.1 F.2.1 dX11_copyLengths_224 rfl (lv_at hl 1 rfl) ?_
                          refine ad_get F G fl_X11_80 0 rfl rfl dX11_copyLengths_225 ?_
                          refine lv_iload_n F.1 F.2.1 dX11_copyLengths_228 rfl (lv_at hl 4 rfl) ?_
                          refine ad_aaldA F G 4 8 rfl rfl (w := (MS 0)) (by omega) (hS 0 (by decide)) dX11_copyLengths_229 ?_
                          refine lv_iload F.1 F.2.1 dX11_copyLengths_230 (lv_at hl 5 rfl) ?_
                          refine lv_aload_n F.1 F.2.1 dX11_copyLengths_232 rfl (lv_at hl 1 rfl) ?_
                          refine ad_get F G fl_X11_80 0 rfl rfl dX11_copyLengths_233 ?_
                          refine lv_iload_n F.1 F.2.1 dX11_copyLengths_236 rfl (lv_at hl 2 rfl) ?_
                          refine ad_aaldA F G 4 8 rfl rfl (w := (MS 1)) (by omega) (hS 1 (by decide)) dX11_copyLengths_237 ?_
                          refine lv_iload F.1 F.2.1 dX11_copyLengths_238 (lv_at hl 5 rfl) ?_
                          refine ad_fald F G 8 rfl (w := (vget vs1 i).2) (by omega) hS1.2 dX11_copyLengths_240 ?_
                          refine ad_fast F G 7 rfl (by omega) (ws' := [(m0, mO M 0 xrm xsv xln xat xer xwr xwd xlo xhi xwl xml xkl xfi xse xdn xon xtw xol xrw xgl xus xpr xmk xab), (M 45, aI (K 0) 2 gsz), (M 46, aI (K 4) 2 gex), (M 43, aR (K 7) 2 gE), (M 44, aR (K 8) 2 gS), (ME 0, aI (K 0) 60 (va_up gx i.toNat ((vget vs1 i).1))), (ME 1, aI (K 0) 60 e1), (MS 0, aF (K 3) 60 (va_up gy i.toNat ((vget vs1 i).2))), (MS 1, aF (K 3) 60 s1)]) rfl dX11_copyLengths_241 (fun H locs G => ?_)
                          refine ad_iinc (lv' := [(5, .int (iI (i + 1))), (4, .int (iI ch)), (0, .ref m0), (1, .int (iI 1)), (2, .int (iI k)), (3, .int (iI 0))]) F dX11_copyLengths_242 hl (k := 5) rfl (by decide) rfl (fun ls hl => ?_)
                          refine lv_goto (tgt := 130) F.1 F.2.1 dX11_copyLengths_245 (by decide) ?_
                          exact ih130 (i + 1) ch (va_up gx i.toNat ((vget vs1 i).1)) (va_up gy i.toNat ((vget vs1 i).2)) _ _ _ (by omega) hc ⟨fun h => (hb.mp h).elim (fun z a => ⟨z, a.1, by omega, a.2.2⟩), fun ⟨z, a1, a2, a3⟩ => hb.mpr ⟨z, a1, (show z = i ∨ z < i by omega).elim (fun h => by rw [h] at a3; exact absurd a3 (fun a3 => (by rw [elF, elF, if_pos (by omega), if_pos (by omega)] at a3; exact a3 cc_27))) id, a3⟩⟩ (fun z h1 h2 => by rw [tkV_get (by omega) (by omega) (by omega) h1]; exact (show z = i ∨ z ≠ i by omega).elim (fun h => by rw [h, if_pos (by omega)]; exact ⟨va_upI_s _ _ _, va_upI_s _ _ _⟩) (fun h => by (have q := hRm z h1 h2); rw [tkV_get (by omega) (by omega) (by omega) h1] at q; rw [va_upI_o h1 (by omega) h, va_upI_o h1 (by omega) h]; exact (show z < i ∨ ¬ z < i by omega).elim (fun hz => by rw [if_pos hz] at q; rw [if_pos (by omega)]; exact q) (fun hz => by rw [if_neg hz] at q; rw [if_neg (by omega)]; exact q))) (by omega) (G.perm (ws' := [(m0, mO M 0 xrm xsv xln xat xer xwr xwd xlo xhi xwl xml xkl xfi xse xdn xon xtw xol xrw xgl xus xpr xmk xab), (M 45, aI (K 0) 2 gsz), (M 46, aI (K 4) 2 gex), (M 43, aR (K 7) 2 gE), (M 44, aR (K 8) 2 gS), (ME 0, aI (K 0) 60 (va_up gx i.toNat ((vget vs1 i).1))), (ME 1, aI (K 0) 60 e1), (MS 0, aF (K 3) 60 (va_up gy i.toNat ((vget vs1 i).2))), (MS 1, aF (K 3) 60 s1)]) [0, 1, 2, 3, 4, 5, 6, 7, 8] rfl rfl) (lv_sub hl [2, 3, 4, 5, 1, 0] rfl)
                        · refine ad_iconst F dX11_copyLengths_198 ?_
                          refine lv_goto (tgt := 203) F.1 F.2.1 dX11_copyLengths_199 (by decide) ?_
                          refine ad_iory F (by omega) dX11_copyLengths_203 ?_
                          refine lv_istore (lv' := [(4, .int (iI 1)), (0, .ref m0), (1, .int (iI 1)), (2, .int (iI k)), (3, .int (iI 0)), (5, .int (iI i))]) F.1 F.2.1 dX11_copyLengths_204 hl (by decide) rfl (fun ls hl => ?_)
                          refine lv_aload_n F.1 F.2.1 dX11_copyLengths_206 rfl (lv_at hl 1 rfl) ?_
                          refine ad_get F G fl_X11_75 0 rfl rfl dX11_copyLengths_207 ?_
                          refine lv_iload_n F.1 F.2.1 dX11_copyLengths_210 rfl (lv_at hl 4 rfl) ?_
                          refine ad_aaldA F G 3 7 rfl rfl (w := (ME 0)) (by omega) (hE 0 (by decide)) dX11_copyLengths_211 ?_
                          refine lv_iload F.1 F.2.1 dX11_copyLengths_212 (lv_at hl 5 rfl) ?_
                          refine lv_aload_n F.1 F.2.1 dX11_copyLengths_214 rfl (lv_at hl 1 rfl) ?_
                          refine ad_get F G fl_X11_75 0 rfl rfl dX11_copyLengths_215 ?_
                          refine lv_iload_n F.1 F.2.1 dX11_copyLengths_218 rfl (lv_at hl 2 rfl) ?_
                          refine ad_aaldA F G 3 7 rfl rfl (w := (ME 1)) (by omega) (hE 1 (by decide)) dX11_copyLengths_219 ?_
                          refine lv_iload F.1 F.2.1 dX11_copyLengths_220 (lv_at hl 5 rfl) ?_
                          refine ad_iald F G 6 rfl (w := (vget vs1 i).1) (by omega) hS1.1 dX11_copyLengths_222 ?_
                          refine ad_iast F G 5 rfl (by omega) (ws' := [(m0, mO M 0 xrm xsv xln xat xer xwr xwd xlo xhi xwl xml xkl xfi xse xdn xon xtw xol xrw xgl xus xpr xmk xab), (M 45, aI (K 0) 2 gsz), (M 46, aI (K 4) 2 gex), (M 43, aR (K 7) 2 gE), (M 44, aR (K 8) 2 gS), (ME 0, aI (K 0) 60 (va_up gx i.toNat ((vget vs1 i).1))), (ME 1, aI (K 0) 60 e1), (MS 0, aF (K 3) 60 gy), (MS 1, aF (K 3) 60 s1)]) rfl dX11_copyLengths_223 (fun H locs G => ?_)
                          refine lv_aload_n F.1 F.2.1 dX11_copyLengths_224 rfl (lv_at hl 1 rfl) ?_
                          refine ad_get F G fl_X11_80 0 rfl rfl dX11_copyLengths_225 ?_
                          refine lv_iload_n F.1 F.2.1 dX11_copyLengths_228 rfl (lv_at hl 4 rfl) ?_
                          refine ad_aaldA F G 4 8 rfl rfl (w := (MS 0)) (by omega) (hS 0 (by decide)) dX11_copyLengths_229 ?_
                          refine lv_iload F.1 F.2.1 dX11_copyLengths_230 (lv_at hl 5 rfl) ?_
                          refine lv_aload_n F.1 F.2.1 dX11_copyLengths_232 rfl (lv_at hl 1 rfl) ?_
                          refine ad_get F G fl_X11_80 0 rfl rfl dX11_copyLengths_233 ?_
                          refine lv_iload_n F.1 F.2.1 dX11_copyLengths_236 rfl (lv_at hl 2 rfl) ?_
                          refine ad_aaldA F G 4 8 rfl rfl (w := (MS 1)) (by omega) (hS 1 (by decide)) dX11_copyLengths_237 ?_
                          refine lv_iload F.1 F.2.1 dX11_copyLengths_238 (lv_at hl 5 rfl) ?_
                          refine ad_fald F G 8 rfl (w := (vget vs1 i).2) (by omega) hS1.2 dX11_copyLengths_240 ?_
                          refine ad_fast F G 7 rfl (by omega) (ws' := [(m0, mO M 0 xrm xsv xln xat xer xwr xwd xlo xhi xwl xml xkl xfi xse xdn xon xtw xol xrw xgl xus xpr xmk xab), (M 45, aI (K 0) 2 gsz), (M 46, aI (K 4) 2 gex), (M 43, aR (K 7) 2 gE), (M 44, aR (K 8) 2 gS), (ME 0, aI (K 0) 60 (va_up gx i.toNat ((vget vs1 i).1))), (ME 1, aI (K 0) 60 e1), (MS 0, aF (K 3) 60 (va_up gy i.toNat ((vget vs1 i).2))), (MS 1, aF (K 3) 60 s1)]) rfl dX11_copyLengths_241 (fun H locs G => ?_)
                          refine ad_iinc (lv' := [(5, .int (iI (i + 1))), (4, .int (iI 1)), (0, .ref m0), (1, .int (iI 1)), (2, .int (iI k)), (3, .int (iI 0))]) F dX11_copyLengths_242 hl (k := 5) rfl (by decide) rfl (fun ls hl => ?_)
                          refine lv_goto (tgt := 130) F.1 F.2.1 dX11_copyLengths_245 (by decide) ?_
                          exact ih130 (i + 1) 1 (va_up gx i.toNat ((vget vs1 i).1)) (va_up gy i.toNat ((vget vs1 i).2)) _ _ _ (by omega) hc_2 ⟨fun _ => ⟨i, by omega, by omega, (by rw [elF, elF, if_pos (by omega), if_pos (by omega)]; exact cc_27)⟩, fun _ => rfl⟩ (fun z h1 h2 => by rw [tkV_get (by omega) (by omega) (by omega) h1]; exact (show z = i ∨ z ≠ i by omega).elim (fun h => by rw [h, if_pos (by omega)]; exact ⟨va_upI_s _ _ _, va_upI_s _ _ _⟩) (fun h => by (have q := hRm z h1 h2); rw [tkV_get (by omega) (by omega) (by omega) h1] at q; rw [va_upI_o h1 (by omega) h, va_upI_o h1 (by omega) h]; exact (show z < i ∨ ¬ z < i by omega).elim (fun hz => by rw [if_pos hz] at q; rw [if_pos (by omega)]; exact q) (fun hz => by rw [if_neg hz] at q; rw [if_neg (by omega)]; exact q))) (by omega) (G.perm (ws' := [(m0, mO M 0 xrm xsv xln xat xer xwr xwd xlo xhi xwl xml xkl xfi xse xdn xon xtw xol xrw xgl xus xpr xmk xab), (M 45, aI (K 0) 2 gsz), (M 46, aI (K 4) 2 gex), (M 43, aR (K 7) 2 gE), (M 44, aR (K 8) 2 gS), (ME 0, aI (K 0) 60 (va_up gx i.toNat ((vget vs1 i).1))), (ME 1, aI (K 0) 60 e1), (MS 0, aF (K 3) 60 (va_up gy i.toNat ((vget vs1 i).2))), (MS 1, aF (K 3) 60 s1)]) [0, 1, 2, 3, 4, 5, 6, 7, 8] rfl rfl) (lv_sub hl [2, 3, 4, 5, 1, 0] rfl)
                      · refine lv_aload_n F.1 F.2.1 dX11_copyLengths_147 rfl (lv_at hl 0 rfl) ?_
                        refine ad_get F G fl_X11_75 0 rfl rfl dX11_copyLengths_148 ?_
                        refine lv_iload_n F.1 F.2.1 dX11_copyLengths_151 rfl (lv_at hl 3 rfl) ?_
                        refine ad_aaldA F G 3 7 rfl rfl (w := (ME 0)) (by omega) (hE 0 (by decide)) dX11_copyLengths_152 ?_
                        refine lv_iload F.1 F.2.1 dX11_copyLengths_153 (lv_at hl 5 rfl) ?_
                        refine ad_iald F G 5 rfl (w := (vget vs0 i).1) (by omega) hT1.1 dX11_copyLengths_155 ?_
                        refine lv_aload_n F.1 F.2.1 dX11_copyLengths_156 rfl (lv_at hl 0 rfl) ?_
                        refine ad_get F G fl_X11_75 0 rfl rfl dX11_copyLengths_157 ?_
                        refine lv_iload_n F.1 F.2.1 dX11_copyLengths_160 rfl (lv_at hl 1 rfl) ?_
                        refine ad_aaldA F G 3 7 rfl rfl (w := (ME 1)) (by omega) (hE 1 (by decide)) dX11_copyLengths_161 ?_
                        refine lv_iload F.1 F.2.1 dX11_copyLengths_162 (lv_at hl 5 rfl) ?_
                        refine ad_iald F G 6 rfl (w := (vget vs1 i).1) (by omega) hS1.1 dX11_copyLengths_164 ?_
                        refine ad_icmp_eq (tgt := 172) F (by omega) dX11_copyLengths_165 (by decide) (fun cc_28 => ?_) (fun cc_28 => ?_)
                        · refine ad_iconst F dX11_copyLengths_172 ?_
                          refine lv_goto (tgt := 203) F.1 F.2.1 dX11_copyLengths_173 (by decide) ?_
                          refine ad_iorn F (by omega) dX11_copyLengths_203 ?_
                          refine lv_istore (lv' := [(4, .int (iI ch)), (0, .ref m0), (1, .int (iI 1)), (2, .int (iI k)), (3, .int (iI 0)), (5, .int (iI i))]) F.1 F.2.1 dX11_copyLengths_204 hl (by decide) rfl (fun ls hl => ?_)
                          refine lv_aload_n F.1 F.2.1 dX11_copyLengths_206 rfl (lv_at hl 1 rfl) ?_
                          refine ad_get F G fl_X11_75 0 rfl rfl dX11_copyLengths_207 ?_
                          refine lv_iload_n F.1 F.2.1 dX11_copyLengths_210 rfl (lv_at hl 4 rfl) ?_
                          refine ad_aaldA F G 3 7 rfl rfl (w := (ME 0)) (by omega) (hE 0 (by decide)) dX11_copyLengths_211 ?_
                          refine lv_iload F.1 F.2.1 dX11_copyLengths_212 (lv_at hl 5 rfl) ?_
                          refine lv_aload_n F.1 F.2.1 dX11_copyLengths_214 rfl (lv_at hl 1 rfl) ?_
                          refine ad_get F G fl_X11_75 0 rfl rfl dX11_copyLengths_215 ?_
                          refine lv_iload_n F.1 F.2.1 dX11_copyLengths_218 rfl (lv_at hl 2 rfl) ?_
                          refine ad_aaldA F G 3 7 rfl rfl (w := (ME 1)) (by omega) (hE 1 (by decide)) dX11_copyLengths_219 ?_
                          refine lv_iload F.1 F.2.1 dX11_copyLengths_220 (lv_at hl 5 rfl) ?_
                          refine ad_iald F G 6 rfl (w := (vget vs1 i).1) (by omega) hS1.1 dX11_copyLengths_222 ?_
                          refine ad_iast F G 5 rfl (by omega) (ws' := [(m0, mO M 0 xrm xsv xln xat xer xwr xwd xlo xhi xwl xml xkl xfi xse xdn xon xtw xol xrw xgl xus xpr xmk xab), (M 45, aI (K 0) 2 gsz), (M 46, aI (K 4) 2 gex), (M 43, aR (K 7) 2 gE), (M 44, aR (K 8) 2 gS), (ME 0, aI (K 0) 60 (va_up gx i.toNat ((vget vs1 i).1))), (ME 1, aI (K 0) 60 e1), (MS 0, aF (K 3) 60 gy), (MS 1, aF (K 3) 60 s1)]) rfl dX11_copyLengths_223 (fun H locs G => ?_)
                          refine lv_aload_n F.1 F.2.1 dX11_copyLengths_224 rfl (lv_at hl 1 rfl) ?_
                          refine ad_get F G fl_X11_80 0 rfl rfl dX11_copyLengths_225 ?_
                          refine lv_iload_n F.1 F.2.1 dX11_copyLengths_228 rfl (lv_at hl 4 rfl) ?_
                          refine ad_aaldA F G 4 8 rfl rfl (w := (MS 0)) (by omega) (hS 0 (by decide)) dX11_copyLengths_229 ?_
                          refine lv_iload F.1 F.2.1 dX11_copyLengths_230 (lv_at hl 5 rfl) ?_
                          refine lv_aload_n F.1 F.2.1 dX11_copyLengths_232 rfl (lv_at hl 1 rfl) ?_
                          refine ad_get F G fl_X11_80 0 rfl rfl dX11_copyLengths_233 ?_
                          refine lv_iload_n F.1 F.2.1 dX11_copyLengths_236 rfl (lv_at hl 2 rfl) ?_
                          refine ad_aaldA F G 4 8 rfl rfl (w := (MS 1)) (by omega) (hS 1 (by decide)) dX11_copyLengths_237 ?_
                          refine lv_iload F.1 F.2.1 dX11_copyLengths_238 (lv_at hl 5 rfl) ?_
                          refine ad_fald F G 8 rfl (w := (vget vs1 i).2) (by omega) hS1.2 dX11_copyLengths_240 ?_
                          refine ad_fast F G 7 rfl (by omega) (ws' := [(m0, mO M 0 xrm xsv xln xat xer xwr xwd xlo xhi xwl xml xkl xfi xse xdn xon xtw xol xrw xgl xus xpr xmk xab), (M 45, aI (K 0) 2 gsz), (M 46, aI (K 4) 2 gex), (M 43, aR (K 7) 2 gE), (M 44, aR (K 8) 2 gS), (ME 0, aI (K 0) 60 (va_up gx i.toNat ((vget vs1 i).1))), (ME 1, aI (K 0) 60 e1), (MS 0, aF (K 3) 60 (va_up gy i.toNat ((vget vs1 i).2))), (MS 1, aF (K 3) 60 s1)]) rfl dX11_copyLengths_241 (fun H locs G => ?_)
                          refine ad_iinc (lv' := [(5, .int (iI (i + 1))), (4, .int (iI ch)), (0, .ref m0), (1, .int (iI 1)), (2, .int (iI k)), (3, .int (iI 0))]) F dX11_copyLengths_242 hl (k := 5) rfl (by decide) rfl (fun ls hl => ?_)
                          refine lv_goto (tgt := 130) F.1 F.2.1 dX11_copyLengths_245 (by decide) ?_
                          exact ih130 (i + 1) ch (va_up gx i.toNat ((vget vs1 i).1)) (va_up gy i.toNat ((vget vs1 i).2)) _ _ _ (by omega) hc ⟨fun h => (hb.mp h).elim (fun z a => ⟨z, a.1, by omega, a.2.2⟩), fun ⟨z, a1, a2, a3⟩ => hb.mpr ⟨z, a1, (show z = i ∨ z < i by omega).elim (fun h => by rw [h] at a3; exact absurd a3 (fun a3 => ((dif_int (x := x0) (show x0 ≠ 0 by omega) hbT hbS).mp a3 cc_28))) id, a3⟩⟩ (fun z h1 h2 => by rw [tkV_get (by omega) (by omega) (by omega) h1]; exact (show z = i ∨ z ≠ i by omega).elim (fun h => by rw [h, if_pos (by omega)]; exact ⟨va_upI_s _ _ _, va_upI_s _ _ _⟩) (fun h => by (have q := hRm z h1 h2); rw [tkV_get (by omega) (by omega) (by omega) h1] at q; rw [va_upI_o h1 (by omega) h, va_upI_o h1 (by omega) h]; exact (show z < i ∨ ¬ z < i by omega).elim (fun hz => by rw [if_pos hz] at q; rw [if_pos (by omega)]; exact q) (fun hz => by rw [if_neg hz] at q; rw [if_neg (by omega)]; exact q))) (by omega) (G.perm (ws' := [(m0, mO M 0 xrm xsv xln xat xer xwr xwd xlo xhi xwl xml xkl xfi xse xdn xon xtw xol xrw xgl xus xpr xmk xab), (M 45, aI (K 0) 2 gsz), (M 46, aI (K 4) 2 gex), (M 43, aR (K 7) 2 gE), (M 44, aR (K 8) 2 gS), (ME 0, aI (K 0) 60 (va_up gx i.toNat ((vget vs1 i).1))), (ME 1, aI (K 0) 60 e1), (MS 0, aF (K 3) 60 (va_up gy i.toNat ((vget vs1 i).2))), (MS 1, aF (K 3) 60 s1)]) [0, 1, 2, 3, 4, 5, 6, 7, 8] rfl rfl) (lv_sub hl [2, 3, 4, 5, 1, 0] rfl)
                        · refine ad_iconst F dX11_copyLengths_168 ?_
                          refine lv_goto (tgt := 203) F.1 F.2.1 dX11_copyLengths_169 (by decide) ?_
                          refine ad_iory F (by omega) dX11_copyLengths_203 ?_
                          refine lv_istore (lv' := [(4, .int (iI 1)), (0, .ref m0), (1, .int (iI 1)), (2, .int (iI k)), (3, .int (iI 0)), (5, .int (iI i))]) F.1 F.2.1 dX11_copyLengths_204 hl (by decide) rfl (fun ls hl => ?_)
                          refine lv_aload_n F.1 F.2.1 dX11_copyLengths_206 rfl (lv_at hl 1 rfl) ?_
                          refine ad_get F G fl_X11_75 0 rfl rfl dX11_copyLengths_207 ?_
                          refine lv_iload_n F.1 F.2.1 dX11_copyLengths_210 rfl (lv_at hl 4 rfl) ?_
                          refine ad_aaldA F G 3 7 rfl rfl (w := (ME 0)) (by omega) (hE 0 (by decide)) dX11_copyLengths_211 ?_
                          refine lv_iload F.1 F.2.1 dX11_copyLengths_212 (lv_at hl 5 rfl) ?_
                          refine lv_aload_n F.1 F.2.1 dX11_copyLengths_214 rfl (lv_at hl 1 rfl) ?_
                          refine ad_get F G fl_X11_75 0 rfl rfl dX11_copyLengths_215 ?_
                          refine lv_iload_n F.1 F.2.1 dX11_copyLengths_218 rfl (lv_at hl 2 rfl) ?_
                          refine ad_aaldA F G 3 7 rfl rfl (w := (ME 1)) (by omega) (hE 1 (by decide)) dX11_copyLengths_219 ?_
                          refine lv_iload F.1 F.2.1 dX11_copyLengths_220 (lv_at hl 5 rfl) ?_
                          refine ad_iald F G 6 rfl (w := (vget vs1 i).1) (by omega) hS1.1 dX11_copyLengths_222 ?_
                          refine ad_iast F G 5 rfl (by omega) (ws' := [(m0, mO M 0 xrm xsv xln xat xer xwr xwd xlo xhi xwl xml xkl xfi xse xdn xon xtw xol xrw xgl xus xpr xmk xab), (M 45, aI (K 0) 2 gsz), (M 46, aI (K 4) 2 gex), (M 43, aR (K 7) 2 gE), (M 44, aR (K 8) 2 gS), (ME 0, aI (K 0) 60 (va_up gx i.toNat ((vget vs1 i).1))), (ME 1, aI (K 0) 60 e1), (MS 0, aF (K 3) 60 gy), (MS 1, aF (K 3) 60 s1)]) rfl dX11_copyLengths_223 (fun H locs G => ?_)
                          refine lv_aload_n F.1 F.2.1 dX11_copyLengths_224 rfl (lv_at hl 1 rfl) ?_
                          refine ad_get F G fl_X11_80 0 rfl rfl dX11_copyLengths_225 ?_
                          refine lv_iload_n F.1 F.2.1 dX11_copyLengths_228 rfl (lv_at hl 4 rfl) ?_
                          refine ad_aaldA F G 4 8 rfl rfl (w := (MS 0)) (by omega) (hS 0 (by decide)) dX11_copyLengths_229 ?_
                          refine lv_iload F.1 F.2.1 dX11_copyLengths_230 (lv_at hl 5 rfl) ?_
                          refine lv_aload_n F.1 F.2.1 dX11_copyLengths_232 rfl (lv_at hl 1 rfl) ?_
                          refine ad_get F G fl_X11_80 0 rfl rfl dX11_copyLengths_233 ?_
                          refine lv_iload_n F.1 F.2.1 dX11_copyLengths_236 rfl (lv_at hl 2 rfl) ?_
                          refine ad_aaldA F G 4 8 rfl rfl (w := (MS 1)) (by omega) (hS 1 (by decide)) dX11_copyLengths_237 ?_
                          refine lv_iload F.1 F.2.1 dX11_copyLengths_238 (lv_at hl 5 rfl) ?_
                          refine ad_fald F G 8 rfl (w := (vget vs1 i).2) (by omega) hS1.2 dX11_copyLengths_240 ?_
                          refine ad_fast F G 7 rfl (by omega) (ws' := [(m0, mO M 0 xrm xsv xln xat xer xwr xwd xlo xhi xwl xml xkl xfi xse xdn xon xtw xol xrw xgl xus xpr xmk xab), (M 45, aI (K 0) 2 gsz), (M 46, aI (K 4) 2 gex), (M 43, aR (K 7) 2 gE), (M 44, aR (K 8) 2 gS), (ME 0, aI (K 0) 60 (va_up gx i.toNat ((vget vs1 i).1))), (ME 1, aI (K 0) 60 e1), (MS 0, aF (K 3) 60 (va_up gy i.toNat ((vget vs1 i).2))), (MS 1, aF (K 3) 60 s1)]) rfl dX11_copyLengths_241 (fun H locs G => ?_)
                          refine ad_iinc (lv' := [(5, .int (iI (i + 1))), (4, .int (iI 1)), (0, .ref m0), (1, .int (iI 1)), (2, .int (iI k)), (3, .int (iI 0))]) F dX11_copyLengths_242 hl (k := 5) rfl (by decide) rfl (fun ls hl => ?_)
                          refine lv_goto (tgt := 130) F.1 F.2.1 dX11_copyLengths_245 (by decide) ?_
                          exact ih130 (i + 1) 1 (va_up gx i.toNat ((vget vs1 i).1)) (va_up gy i.toNat ((vget vs1 i).2)) _ _ _ (by omega) hc_2 ⟨fun _ => ⟨i, by omega, by omega, ((dif_int (x := x0) (show x0 ≠ 0 by omega) hbT hbS).mpr cc_28)⟩, fun _ => rfl⟩ (fun z h1 h2 => by rw [tkV_get (by omega) (by omega) (by omega) h1]; exact (show z = i ∨ z ≠ i by omega).elim (fun h => by rw [h, if_pos (by omega)]; exact ⟨va_upI_s _ _ _, va_upI_s _ _ _⟩) (fun h => by (have q := hRm z h1 h2); rw [tkV_get (by omega) (by omega) (by omega) h1] at q; rw [va_upI_o h1 (by omega) h, va_upI_o h1 (by omega) h]; exact (show z < i ∨ ¬ z < i by omega).elim (fun hz => by rw [if_pos hz] at q; rw [if_pos (by omega)]; exact q) (fun hz => by rw [if_neg hz] at q; rw [if_neg (by omega)]; exact q))) (by omega) (G.perm (ws' := [(m0, mO M 0 xrm xsv xln xat xer xwr xwd xlo xhi xwl xml xkl xfi xse xdn xon xtw xol xrw xgl xus xpr xmk xab), (M 45, aI (K 0) 2 gsz), (M 46, aI (K 4) 2 gex), (M 43, aR (K 7) 2 gE), (M 44, aR (K 8) 2 gS), (ME 0, aI (K 0) 60 (va_up gx i.toNat ((vget vs1 i).1))), (ME 1, aI (K 0) 60 e1), (MS 0, aF (K 3) 60 (va_up gy i.toNat ((vget vs1 i).2))), (MS 1, aF (K 3) 60 s1)]) [0, 1, 2, 3, 4, 5, 6, 7, 8] rfl rfl) (lv_sub hl [2, 3, 4, 5, 1, 0] rfl)
                exact lp130 ((((k - 0 : Int)) + 1).toNat) 0 0 e0 s0 _ _ _ (by omega) (by omega) ⟨fun h => absurd h (by decide), fun ⟨z, a1, a2, _⟩ => absurd (show z < 0 from a2) (by omega)⟩ (fun z h1 h2 => by rw [tkV_0]; exact hr0 z h1 h2) (by omega) (G.perm (ws' := [(m0, mO M 0 xrm xsv xln xat xer xwr xwd xlo xhi xwl xml xkl xfi xse xdn xon xtw xol xrw xgl xus xpr xmk xab), (M 45, aI (K 0) 2 gsz), (M 46, aI (K 4) 2 gex), (M 43, aR (K 7) 2 gE), (M 44, aR (K 8) 2 gS), (ME 0, aI (K 0) 60 e0), (ME 1, aI (K 0) 60 e1), (MS 0, aF (K 3) 60 s0), (MS 1, aF (K 3) 60 s1)]) [0, 1, 2, 3, 4, 5, 6, 7, 8] rfl rfl) (lv_sub hl [3, 4, 5, 2, 1, 0] rfl)
              · refine ad_iconst F dX11_copyLengths_107 ?_
                refine lv_goto (tgt := 112) F.1 F.2.1 dX11_copyLengths_108 (by decide) ?_
                refine ad_callV (As := [.int (iI 4), .int (iI 1)]) (rest := []) F G (c_X11_fails_1 l D K z0 m0 M 0 xrm xsv xln xat xer xwr xwd xlo xhi xwl xml xkl xfi xse xdn xon xtw xol xrw xgl xus xpr xmk xab 4 (by omega)) my_X11_fails mv_X11_111 (wr := [(M 45, aI (K 0) 2 gsz), (M 46, aI (K 4) 2 gex), (M 43, aR (K 7) 2 gE), (M 44, aR (K 8) 2 gS), (ME 0, aI (K 0) 60 e0), (ME 1, aI (K 0) 60 e1), (MS 0, aF (K 3) 60 s0), (MS 1, aF (K 3) 60 s1)]) (isC := [0]) (isR := [1, 2, 3, 4, 5, 6, 7, 8]) ⟨rfl, rfl, rfl, rfl, by decide⟩ 11 0 rfl rfl rfl rfl ⟨Nat.le_of_ble_eq_true rfl, Nat.le_of_ble_eq_true rfl⟩ ⟨Nat.le_of_ble_eq_true rfl, Nat.le_of_ble_eq_true rfl⟩ (Nat.le_of_ble_eq_true rfl) hl.1 (cells9 := 0) (slots9 := 0) ⟨rfl, rfl⟩ dX11_copyLengths_112 (fun v u H locs hw_29 G => ?_)
                obtain ⟨rfl, rfl⟩ := hw_29
                replace G := G.perm (ws' := [(m0, mO M 4 xrm xsv xln xat xer xwr xwd xlo xhi xwl xml xkl xfi xse xdn xon xtw xol xrw xgl xus xpr xmk xab), (M 45, aI (K 0) 2 gsz), (M 46, aI (K 4) 2 gex), (M 43, aR (K 7) 2 gE), (M 44, aR (K 8) 2 gS), (ME 0, aI (K 0) 60 e0), (ME 1, aI (K 0) 60 e1), (MS 0, aF (K 3) 60 s0), (MS 1, aF (K 3) 60 s1)]) [8, 0, 1, 2, 3, 4, 5, 6, 7] rfl rfl
                refine W.eq (g2 := F0 m9 115 ls [.int (iI 1)]) rfl ?_
                refine ad_if_eq (tgt := 120) F (by decide) dX11_copyLengths_115 (by decide) (fun cc_30 => absurd cc_30 (by decide)) (fun _ => ?_)
                refine ad_iconst F dX11_copyLengths_118 ?_
                exact ad_zreturn F G hR rfl (Nat.le_of_ble_eq_true rfl) (Nat.le_of_ble_eq_true rfl) rfl (Or.inr (Or.inr (Or.inl ⟨rfl, (by omega), cc_13, (by omega), rfl⟩))) dX11_copyLengths_119
        · refine ad_iconst F dX11_copyLengths_68 ?_
          refine lv_goto (tgt := 73) F.1 F.2.1 dX11_copyLengths_69 (by decide) ?_
          refine ad_callV (As := [.int (iI 3), .int (iI 1)]) (rest := []) F G (c_X11_fails_1 l D K z0 m0 M 0 xrm xsv xln xat xer xwr xwd xlo xhi xwl xml xkl xfi xse xdn xon xtw xol xrw xgl xus xpr xmk xab 3 (by omega)) my_X11_fails mv_X11_111 (wr := [(M 45, aI (K 0) 2 gsz), (M 46, aI (K 4) 2 gex), (M 43, aR (K 7) 2 gE), (M 44, aR (K 8) 2 gS), (ME 0, aI (K 0) 60 e0), (ME 1, aI (K 0) 60 e1), (MS 0, aF (K 3) 60 s0), (MS 1, aF (K 3) 60 s1)]) (isC := [0]) (isR := [1, 2, 3, 4, 5, 6, 7, 8]) ⟨rfl, rfl, rfl, rfl, by decide⟩ 11 0 rfl rfl rfl rfl ⟨Nat.le_of_ble_eq_true rfl, Nat.le_of_ble_eq_true rfl⟩ ⟨Nat.le_of_ble_eq_true rfl, Nat.le_of_ble_eq_true rfl⟩ (Nat.le_of_ble_eq_true rfl) hl.1 (cells9 := 0) (slots9 := 0) ⟨rfl, rfl⟩ dX11_copyLengths_73 (fun v u H locs hw_31 G => ?_)
          obtain ⟨rfl, rfl⟩ := hw_31
          replace G := G.perm (ws' := [(m0, mO M 3 xrm xsv xln xat xer xwr xwd xlo xhi xwl xml xkl xfi xse xdn xon xtw xol xrw xgl xus xpr xmk xab), (M 45, aI (K 0) 2 gsz), (M 46, aI (K 4) 2 gex), (M 43, aR (K 7) 2 gE), (M 44, aR (K 8) 2 gS), (ME 0, aI (K 0) 60 e0), (ME 1, aI (K 0) 60 e1), (MS 0, aF (K 3) 60 s0), (MS 1, aF (K 3) 60 s1)]) [8, 0, 1, 2, 3, 4, 5, 6, 7] rfl rfl
          refine W.eq (g2 := F0 m9 76 ls [.int (iI 1)]) rfl ?_
          refine ad_if_eq (tgt := 81) F (by decide) dX11_copyLengths_76 (by decide) (fun cc_32 => absurd cc_32 (by decide)) (fun _ => ?_)
          refine ad_iconst F dX11_copyLengths_79 ?_
          exact ad_zreturn F G hR rfl (Nat.le_of_ble_eq_true rfl) (Nat.le_of_ble_eq_true rfl) rfl (Or.inr (Or.inl ⟨rfl, (by omega), cc_13, rfl⟩)) dX11_copyLengths_80
      · refine ad_iconst F dX11_copyLengths_40 ?_
        refine lv_goto (tgt := 45) F.1 F.2.1 dX11_copyLengths_41 (by decide) ?_
        refine ad_callV (As := [.int (iI 2), .int (iI 1)]) (rest := []) F G (c_X11_fails_1 l D K z0 m0 M 0 xrm xsv xln xat xer xwr xwd xlo xhi xwl xml xkl xfi xse xdn xon xtw xol xrw xgl xus xpr xmk xab 2 (by omega)) my_X11_fails mv_X11_111 (wr := [(M 45, aI (K 0) 2 gsz), (M 46, aI (K 4) 2 gex), (M 43, aR (K 7) 2 gE), (M 44, aR (K 8) 2 gS), (ME 0, aI (K 0) 60 e0), (ME 1, aI (K 0) 60 e1), (MS 0, aF (K 3) 60 s0), (MS 1, aF (K 3) 60 s1)]) (isC := [0]) (isR := [1, 2, 3, 4, 5, 6, 7, 8]) ⟨rfl, rfl, rfl, rfl, by decide⟩ 11 0 rfl rfl rfl rfl ⟨Nat.le_of_ble_eq_true rfl, Nat.le_of_ble_eq_true rfl⟩ ⟨Nat.le_of_ble_eq_true rfl, Nat.le_of_ble_eq_true rfl⟩ (Nat.le_of_ble_eq_true rfl) hl.1 (cells9 := 0) (slots9 := 0) ⟨rfl, rfl⟩ dX11_copyLengths_45 (fun v u H locs hw_33 G => ?_)
        obtain ⟨rfl, rfl⟩ := hw_33
        replace G := G.perm (ws' := [(m0, mO M 2 xrm xsv xln xat xer xwr xwd xlo xhi xwl xml xkl xfi xse xdn xon xtw xol xrw xgl xus xpr xmk xab), (M 45, aI (K 0) 2 gsz), (M 46, aI (K 4) 2 gex), (M 43, aR (K 7) 2 gE), (M 44, aR (K 8) 2 gS), (ME 0, aI (K 0) 60 e0), (ME 1, aI (K 0) 60 e1), (MS 0, aF (K 3) 60 s0), (MS 1, aF (K 3) 60 s1)]) [8, 0, 1, 2, 3, 4, 5, 6, 7] rfl rfl
        refine W.eq (g2 := F0 m9 48 ls [.int (iI 1)]) rfl ?_
        refine ad_if_ne (tgt := 79) F (by decide) dX11_copyLengths_48 (by decide) (fun _ => ?_) (fun cc_34 => absurd cc_34 (by decide))
        refine ad_iconst F dX11_copyLengths_79 ?_
        exact ad_zreturn F G hR rfl (Nat.le_of_ble_eq_true rfl) (Nat.le_of_ble_eq_true rfl) rfl (Or.inl ⟨rfl, (by omega), rfl⟩) dX11_copyLengths_80
  · replace G := G.perm (ws' := [(m0, mO M xth xrm xsv xln xat xer xwr xwd xlo xhi xwl xml xkl xfi xse xdn xon xtw xol xrw xgl xus xpr xmk xab), (M 45, aI (K 0) 2 gsz), (M 46, aI (K 4) 2 gex), (M 43, aR (K 7) 2 gE), (M 44, aR (K 8) 2 gS), (ME 0, aI (K 0) 60 e0), (ME 1, aI (K 0) 60 e1), (MS 0, aF (K 3) 60 s0), (MS 1, aF (K 3) 60 s1)]) [0, 1, 2, 3, 4, 5, 6, 7, 8] rfl rfl
    refine W.eq (g2 := F0 m9 6 ls [.int (iI 0), .int (iI 1), .ref m0]) rfl ?_
    exfalso; omega

def rm_X11_storedBits_1 : Room := { frames := 3, cells := 0, slots := 0, locals := 54 }
set_option maxHeartbeats 4000000 in
set_option maxRecDepth 100000 in
theorem c_X11_storedBits_1 (l : Launch) (D : va_G) (K : Nat → ClassId) (z0 : Nat) (m0 : Nat) (M : Nat → Nat) (xth : Int) (xrm : Int) (xsv : Int) (xln : Int) (xat : Int) (xer : Int) (xwr : Int) (xwd : Int) (xlo : Int) (xhi : Int) (xwl : Int) (xml : Int) (xkl : Int) (xfi : Int) (xse : Int) (xdn : Int) (xon : Int) (xtw : Int) (xol : Int) (xrw : Int) (xgl : Int) (xus : Int) (xpr : Int) (xmk : Int) (xab : Int) (gsz : Nat → Int) (gex : Nat → Int) (ME : Nat → Nat) (MS : Nat → Nat) (gE : Nat → Option Nat) (gS : Nat → Option Nat) (e0 : Nat → Int) (e1 : Nat → Int) (s0 : Nat → UInt32) (s1 : Nat → UInt32) (sz0 : Int) (sz1 : Int) (x0 : Int) (x1 : Int) (vs0 : List Vw) (vs1 : List Vw) (z : Int) (hE : ∀ j : Nat, j < 2 → gE j = some (ME j)) (hS : ∀ j : Nat, j < 2 → gS j = some (MS j)) (hsz : gsz 0 = sz0 ∧ gsz 1 = sz1) (hxx : gex 0 = x0 ∧ gex 1 = x1) (hb_ : -1 ≤ sz0 ∧ sz0 ≤ 50 ∧ -1 ≤ sz1 ∧ sz1 ≤ 50) (hx01 : (x0 = 0 ∨ x0 = 1) ∧ (x1 = 0 ∨ x1 = 1)) (hv0 : 0 ≤ sz0 → sz0 = vs0.length ∧ VOk vs0 ∧ ∀ z : Int, 0 ≤ z → z < vs0.length → e0 z.toNat = (vget vs0 z).1 ∧ s0 z.toNat = (vget vs0 z).2) (hv1 : 0 ≤ sz1 → sz1 = vs1.length ∧ VOk vs1 ∧ ∀ z : Int, 0 ≤ z → z < vs1.length → e1 z.toNat = (vget vs1 z).1 ∧ s1 z.toNat = (vget vs1 z).2) (hz : -2147483648 ≤ z ∧ z < 2147483648) : CT l D K z0 yX11_storedBits cX11_storedBits 3 (some .int) rm_X11_storedBits_1 [.ref m0, .int (iI 1), .int (iI z)] [(m0, mO M xth xrm xsv xln xat xer xwr xwd xlo xhi xwl xml xkl xfi xse xdn xon xtw xol xrw xgl xus xpr xmk xab), (M 45, aI (K 0) 2 gsz), (M 46, aI (K 4) 2 gex), (M 43, aR (K 7) 2 gE), (M 44, aR (K 8) 2 gS), (ME 0, aI (K 0) 60 e0), (ME 1, aI (K 0) 60 e1), (MS 0, aF (K 3) 60 s0), (MS 1, aF (K 3) 60 s1)] (fun v9 u9 => (v9 = some (.int (iI 0)) ∧ (¬ (0 ≤ z ∧ z < sz1)) ∧ u9 = [(m0, mO M 2 xrm xsv xln xat xer xwr xwd xlo xhi xwl xml xkl xfi xse xdn xon xtw xol xrw xgl xus xpr xmk xab), (M 45, aI (K 0) 2 gsz), (M 46, aI (K 4) 2 gex), (M 43, aR (K 7) 2 gE), (M 44, aR (K 8) 2 gS), (ME 0, aI (K 0) 60 e0), (ME 1, aI (K 0) 60 e1), (MS 0, aF (K 3) 60 s0), (MS 1, aF (K 3) 60 s1)]) ∨ (v9 = some (.int (iI ((elF x1 vs1 z).toInt32.toInt))) ∧ (0 ≤ z ∧ z < sz1) ∧ u9 = [(m0, mO M 0 xrm xsv xln xat xer xwr xwd xlo xhi xwl xml xkl xfi xse xdn xon xtw xol xrw xgl xus xpr xmk xab), (M 45, aI (K 0) 2 gsz), (M 46, aI (K 4) 2 gex), (M 43, aR (K 7) 2 gE), (M 44, aR (K 8) 2 gS), (ME 0, aI (K 0) 60 e0), (ME 1, aI (K 0) 60 e1), (MS 0, aF (K 3) 60 s0), (MS 1, aF (K 3) 60 s1)])) := by
  refine CT.start RX11 "storedBits" (by decide) rfl rfl (Nat.le_of_ble_eq_true rfl) ?_
  intro p9 e9 s9 m9 ag9 bl9 mt9 c9 A9 Q9 ls F G hR hl
  have hl : lv_has ls 3 [(0, .ref m0), (1, .int (iI 1)), (2, .int (iI z))] := hl
  refine lv_aload_n F.1 F.2.1 dX11_storedBits_0 rfl (lv_at hl 0 rfl) ?_
  refine ad_iconst F dX11_storedBits_1 ?_
  refine lv_iload_n F.1 F.2.1 dX11_storedBits_2 rfl (lv_at hl 1 rfl) ?_
  refine ad_callS (As := [.int (iI 1)]) (rest := [.int (iI 1), .ref m0]) F G (c_X11_isRow l D K z0 1 (by omega)) my_X11_isRow ms_X11_345 (wr := [(m0, mO M xth xrm xsv xln xat xer xwr xwd xlo xhi xwl xml xkl xfi xse xdn xon xtw xol xrw xgl xus xpr xmk xab), (M 45, aI (K 0) 2 gsz), (M 46, aI (K 4) 2 gex), (M 43, aR (K 7) 2 gE), (M 44, aR (K 8) 2 gS), (ME 0, aI (K 0) 60 e0), (ME 1, aI (K 0) 60 e1), (MS 0, aF (K 3) 60 s0), (MS 1, aF (K 3) 60 s1)]) (isC := []) (isR := [0, 1, 2, 3, 4, 5, 6, 7, 8]) ⟨rfl, rfl, rfl, rfl, by decide⟩ rfl rfl ⟨Nat.le_of_ble_eq_true rfl, Nat.le_of_ble_eq_true rfl⟩ ⟨Nat.le_of_ble_eq_true rfl, Nat.le_of_ble_eq_true rfl⟩ (Nat.le_of_ble_eq_true rfl) hl.1 (cells9 := 0) (slots9 := 0) ⟨rfl, rfl⟩ dX11_storedBits_3 (fun v u H locs hw_1 G => ?_)
  rcases hw_1 with ⟨rfl, hc_2, rfl⟩ | ⟨rfl, hc_3, rfl⟩
  · replace G := G.perm (ws' := [(m0, mO M xth xrm xsv xln xat xer xwr xwd xlo xhi xwl xml xkl xfi xse xdn xon xtw xol xrw xgl xus xpr xmk xab), (M 45, aI (K 0) 2 gsz), (M 46, aI (K 4) 2 gex), (M 43, aR (K 7) 2 gE), (M 44, aR (K 8) 2 gS), (ME 0, aI (K 0) 60 e0), (ME 1, aI (K 0) 60 e1), (MS 0, aF (K 3) 60 s0), (MS 1, aF (K 3) 60 s1)]) [0, 1, 2, 3, 4, 5, 6, 7, 8] rfl rfl
    refine W.eq (g2 := F0 m9 6 ls [.int (iI 1), .int (iI 1), .ref m0]) rfl ?_
    refine ad_if_ne (tgt := 13) F (by decide) dX11_storedBits_6 (by decide) (fun _ => ?_) (fun cc_4 => absurd cc_4 (by decide))
    refine ad_iconst F dX11_storedBits_13 ?_
    refine ad_callV (As := [.int (iI 1), .int (iI 0)]) (rest := []) F G (c_X11_fails_0 l D K z0 m0 M xth xrm xsv xln xat xer xwr xwd xlo xhi xwl xml xkl xfi xse xdn xon xtw xol xrw xgl xus xpr xmk xab 1 (by omega)) my_X11_fails mv_X11_111 (wr := [(M 45, aI (K 0) 2 gsz), (M 46, aI (K 4) 2 gex), (M 43, aR (K 7) 2 gE), (M 44, aR (K 8) 2 gS), (ME 0, aI (K 0) 60 e0), (ME 1, aI (K 0) 60 e1), (MS 0, aF (K 3) 60 s0), (MS 1, aF (K 3) 60 s1)]) (isC := [0]) (isR := [1, 2, 3, 4, 5, 6, 7, 8]) ⟨rfl, rfl, rfl, rfl, by decide⟩ 11 0 rfl rfl rfl rfl ⟨Nat.le_of_ble_eq_true rfl, Nat.le_of_ble_eq_true rfl⟩ ⟨Nat.le_of_ble_eq_true rfl, Nat.le_of_ble_eq_true rfl⟩ (Nat.le_of_ble_eq_true rfl) hl.1 (cells9 := 0) (slots9 := 0) ⟨rfl, rfl⟩ dX11_storedBits_14 (fun v u H locs hw_5 G => ?_)
    obtain ⟨rfl, rfl⟩ := hw_5
    replace G := G.perm (ws' := [(m0, mO M 0 xrm xsv xln xat xer xwr xwd xlo xhi xwl xml xkl xfi xse xdn xon xtw xol xrw xgl xus xpr xmk xab), (M 45, aI (K 0) 2 gsz), (M 46, aI (K 4) 2 gex), (M 43, aR (K 7) 2 gE), (M 44, aR (K 8) 2 gS), (ME 0, aI (K 0) 60 e0), (ME 1, aI (K 0) 60 e1), (MS 0, aF (K 3) 60 s0), (MS 1, aF (K 3) 60 s1)]) [8, 0, 1, 2, 3, 4, 5, 6, 7] rfl rfl
    refine W.eq (g2 := F0 m9 17 ls [.int (iI 0)]) rfl ?_
    refine ad_if_ne (tgt := 49) F (by decide) dX11_storedBits_17 (by decide) (fun cc_6 => absurd cc_6 (by decide)) (fun _ => ?_)
    refine lv_aload_n F.1 F.2.1 dX11_storedBits_20 rfl (lv_at hl 0 rfl) ?_
    refine ad_iconst F dX11_storedBits_21 ?_
    refine lv_iload_n F.1 F.2.1 dX11_storedBits_22 rfl (lv_at hl 2 rfl) ?_
    refine ad_iconst F dX11_storedBits_23 ?_
    refine lv_aload_n F.1 F.2.1 dX11_storedBits_24 rfl (lv_at hl 0 rfl) ?_
    refine ad_get F G fl_X11_83 0 rfl rfl dX11_storedBits_25 ?_
    refine lv_iload_n F.1 F.2.1 dX11_storedBits_28 rfl (lv_at hl 1 rfl) ?_
    refine ad_iald F G 1 rfl (w := sz1) (by omega) hsz.2 dX11_storedBits_29 ?_
    refine ad_iconst F dX11_storedBits_30 ?_
    refine ad_isub F dX11_storedBits_31 ?_
    refine ad_callS (As := [.int (iI z), .int (iI 0), .int (iI (sz1 - 1))]) (rest := [.int (iI 2), .ref m0]) F G (c_X11_isBetween l D K z0 z 0 (sz1 - 1) hz (by omega) (by omega)) my_X11_isBetween ms_X11_107 (wr := [(m0, mO M 0 xrm xsv xln xat xer xwr xwd xlo xhi xwl xml xkl xfi xse xdn xon xtw xol xrw xgl xus xpr xmk xab), (M 45, aI (K 0) 2 gsz), (M 46, aI (K 4) 2 gex), (M 43, aR (K 7) 2 gE), (M 44, aR (K 8) 2 gS), (ME 0, aI (K 0) 60 e0), (ME 1, aI (K 0) 60 e1), (MS 0, aF (K 3) 60 s0), (MS 1, aF (K 3) 60 s1)]) (isC := []) (isR := [0, 1, 2, 3, 4, 5, 6, 7, 8]) ⟨rfl, rfl, rfl, rfl, by decide⟩ rfl rfl ⟨Nat.le_of_ble_eq_true rfl, Nat.le_of_ble_eq_true rfl⟩ ⟨Nat.le_of_ble_eq_true rfl, Nat.le_of_ble_eq_true rfl⟩ (Nat.le_of_ble_eq_true rfl) hl.1 (cells9 := 0) (slots9 := 0) ⟨rfl, rfl⟩ dX11_storedBits_32 (fun v u H locs hw_7 G => ?_)
    rcases hw_7 with ⟨rfl, hc_8, rfl⟩ | ⟨rfl, hc_9, rfl⟩
    · replace G := G.perm (ws' := [(m0, mO M 0 xrm xsv xln xat xer xwr xwd xlo xhi xwl xml xkl xfi xse xdn xon xtw xol xrw xgl xus xpr xmk xab), (M 45, aI (K 0) 2 gsz), (M 46, aI (K 4) 2 gex), (M 43, aR (K 7) 2 gE), (M 44, aR (K 8) 2 gS), (ME 0, aI (K 0) 60 e0), (ME 1, aI (K 0) 60 e1), (MS 0, aF (K 3) 60 s0), (MS 1, aF (K 3) 60 s1)]) [0, 1, 2, 3, 4, 5, 6, 7, 8] rfl rfl
      refine W.eq (g2 := F0 m9 35 ls [.int (iI 1), .int (iI 2), .ref m0]) rfl ?_
      refine ad_if_ne (tgt := 42) F (by decide) dX11_storedBits_35 (by decide) (fun _ => ?_) (fun cc_10 => absurd cc_10 (by decide))
      refine ad_iconst F dX11_storedBits_42 ?_
      refine ad_callV (As := [.int (iI 2), .int (iI 0)]) (rest := []) F G (c_X11_fails_0 l D K z0 m0 M 0 xrm xsv xln xat xer xwr xwd xlo xhi xwl xml xkl xfi xse xdn xon xtw xol xrw xgl xus xpr xmk xab 2 (by omega)) my_X11_fails mv_X11_111 (wr := [(M 45, aI (K 0) 2 gsz), (M 46, aI (K 4) 2 gex), (M 43, aR (K 7) 2 gE), (M 44, aR (K 8) 2 gS), (ME 0, aI (K 0) 60 e0), (ME 1, aI (K 0) 60 e1), (MS 0, aF (K 3) 60 s0), (MS 1, aF (K 3) 60 s1)]) (isC := [0]) (isR := [1, 2, 3, 4, 5, 6, 7, 8]) ⟨rfl, rfl, rfl, rfl, by decide⟩ 11 0 rfl rfl rfl rfl ⟨Nat.le_of_ble_eq_true rfl, Nat.le_of_ble_eq_true rfl⟩ ⟨Nat.le_of_ble_eq_true rfl, Nat.le_of_ble_eq_true rfl⟩ (Nat.le_of_ble_eq_true rfl) hl.1 (cells9 := 0) (slots9 := 0) ⟨rfl, rfl⟩ dX11_storedBits_43 (fun v u H locs hw_11 G => ?_)
      obtain ⟨rfl, rfl⟩ := hw_11
      replace G := G.perm (ws' := [(m0, mO M 0 xrm xsv xln xat xer xwr xwd xlo xhi xwl xml xkl xfi xse xdn xon xtw xol xrw xgl xus xpr xmk xab), (M 45, aI (K 0) 2 gsz), (M 46, aI (K 4) 2 gex), (M 43, aR (K 7) 2 gE), (M 44, aR (K 8) 2 gS), (ME 0, aI (K 0) 60 e0), (ME 1, aI (K 0) 60 e1), (MS 0, aF (K 3) 60 s0), (MS 1, aF (K 3) 60 s1)]) [8, 0, 1, 2, 3, 4, 5, 6, 7] rfl rfl
      refine W.eq (g2 := F0 m9 46 ls [.int (iI 0)]) rfl ?_
      refine ad_if_eq (tgt := 51) F (by decide) dX11_storedBits_46 (by decide) (fun _ => ?_) (fun cc_12 => absurd cc_12 (by decide))
      obtain ⟨hl0, ho0, hr0⟩ := hv1 (by omega)
      have hT1 := hr0 z (by omega) (by omega)
      have hbT := ho0.2 z (by omega) (by omega)
      refine lv_aload_n F.1 F.2.1 dX11_storedBits_51 rfl (lv_at hl 0 rfl) ?_
      refine ad_get F G fl_X11_86 0 rfl rfl dX11_storedBits_52 ?_
      refine lv_iload_n F.1 F.2.1 dX11_storedBits_55 rfl (lv_at hl 1 rfl) ?_
      refine ad_zald F G 2 rfl (w := x1) (by omega) hxx.2 dX11_storedBits_56 ?_
      refine ad_if_eq (tgt := 72) F (by omega) dX11_storedBits_57 (by decide) (fun cc_13 => ?_) (fun cc_13 => ?_)
      · refine lv_aload_n F.1 F.2.1 dX11_storedBits_72 rfl (lv_at hl 0 rfl) ?_
        refine ad_get F G fl_X11_80 0 rfl rfl dX11_storedBits_73 ?_
        refine lv_iload_n F.1 F.2.1 dX11_storedBits_76 rfl (lv_at hl 1 rfl) ?_
        refine ad_aaldA F G 4 8 rfl rfl (w := (MS 1)) (by omega) (hS 1 (by decide)) dX11_storedBits_77 ?_
        refine lv_iload_n F.1 F.2.1 dX11_storedBits_78 rfl (lv_at hl 2 rfl) ?_
        refine ad_fald F G 8 rfl (w := (vget vs1 z).2) (by omega) hT1.2 dX11_storedBits_79 ?_
        refine ad_callS (As := [.float ((vget vs1 z).2)]) (rest := []) F G (c_Jxf58ca_floatToIntBits_5c35a l D K z0 ((vget vs1 z).2) (cmp_sh hbT)) my_Jxf58ca_floatToIntBits_5c35a ms_X11_348 (wr := [(m0, mO M 0 xrm xsv xln xat xer xwr xwd xlo xhi xwl xml xkl xfi xse xdn xon xtw xol xrw xgl xus xpr xmk xab), (M 45, aI (K 0) 2 gsz), (M 46, aI (K 4) 2 gex), (M 43, aR (K 7) 2 gE), (M 44, aR (K 8) 2 gS), (ME 0, aI (K 0) 60 e0), (ME 1, aI (K 0) 60 e1), (MS 0, aF (K 3) 60 s0), (MS 1, aF (K 3) 60 s1)]) (isC := []) (isR := [0, 1, 2, 3, 4, 5, 6, 7, 8]) ⟨rfl, rfl, rfl, rfl, by decide⟩ rfl rfl ⟨Nat.le_of_ble_eq_true rfl, Nat.le_of_ble_eq_true rfl⟩ ⟨Nat.le_of_ble_eq_true rfl, Nat.le_of_ble_eq_true rfl⟩ (Nat.le_of_ble_eq_true rfl) hl.1 (cells9 := 0) (slots9 := 0) ⟨rfl, rfl⟩ dX11_storedBits_80 (fun v u H locs hw_14 G => ?_)
        obtain ⟨rfl, rfl⟩ := hw_14
        replace G := G.perm (ws' := [(m0, mO M 0 xrm xsv xln xat xer xwr xwd xlo xhi xwl xml xkl xfi xse xdn xon xtw xol xrw xgl xus xpr xmk xab), (M 45, aI (K 0) 2 gsz), (M 46, aI (K 4) 2 gex), (M 43, aR (K 7) 2 gE), (M 44, aR (K 8) 2 gS), (ME 0, aI (K 0) 60 e0), (ME 1, aI (K 0) 60 e1), (MS 0, aF (K 3) 60 s0), (MS 1, aF (K 3) 60 s1)]) [0, 1, 2, 3, 4, 5, 6, 7, 8] rfl rfl
        refine W.eq (g2 := F0 m9 83 ls [.int (iI (((vget vs1 z).2).toInt32.toInt))]) rfl ?_
        exact ad_ireturn F G hR rfl (Nat.le_of_ble_eq_true rfl) (Nat.le_of_ble_eq_true rfl) (Or.inr (⟨(ad_eqi (by rw [elF, if_pos (by omega)])), (by omega), rfl⟩)) dX11_storedBits_83
      · refine lv_aload_n F.1 F.2.1 dX11_storedBits_60 rfl (lv_at hl 0 rfl) ?_
        refine ad_get F G fl_X11_75 0 rfl rfl dX11_storedBits_61 ?_
        refine lv_iload_n F.1 F.2.1 dX11_storedBits_64 rfl (lv_at hl 1 rfl) ?_
        refine ad_aaldA F G 3 7 rfl rfl (w := (ME 1)) (by omega) (hE 1 (by decide)) dX11_storedBits_65 ?_
        refine lv_iload_n F.1 F.2.1 dX11_storedBits_66 rfl (lv_at hl 2 rfl) ?_
        refine ad_iald F G 6 rfl (w := (vget vs1 z).1) (by omega) hT1.1 dX11_storedBits_67 ?_
        refine lv_i2f F.1 F.2.1 dX11_storedBits_68 ?_
        refine lv_goto (tgt := 80) F.1 F.2.1 dX11_storedBits_69 (by decide) ?_
        refine ad_callS (As := [.float (FP.i2f (iI ((vget vs1 z).1)))]) (rest := []) F G (c_Jxf58ca_floatToIntBits_5c35a l D K z0 (FP.i2f (iI ((vget vs1 z).1))) ((cmp_int (by omega) (by omega)).mpr rfl)) my_Jxf58ca_floatToIntBits_5c35a ms_X11_348 (wr := [(m0, mO M 0 xrm xsv xln xat xer xwr xwd xlo xhi xwl xml xkl xfi xse xdn xon xtw xol xrw xgl xus xpr xmk xab), (M 45, aI (K 0) 2 gsz), (M 46, aI (K 4) 2 gex), (M 43, aR (K 7) 2 gE), (M 44, aR (K 8) 2 gS), (ME 0, aI (K 0) 60 e0), (ME 1, aI (K 0) 60 e1), (MS 0, aF (K 3) 60 s0), (MS 1, aF (K 3) 60 s1)]) (isC := []) (isR := [0, 1, 2, 3, 4, 5, 6, 7, 8]) ⟨rfl, rfl, rfl, rfl, by decide⟩ rfl rfl ⟨Nat.le_of_ble_eq_true rfl, Nat.le_of_ble_eq_true rfl⟩ ⟨Nat.le_of_ble_eq_true rfl, Nat.le_of_ble_eq_true rfl⟩ (Nat.le_of_ble_eq_true rfl) hl.1 (cells9 := 0) (slots9 := 0) ⟨rfl, rfl⟩ dX11_storedBits_80 (fun v u H locs hw_15 G => ?_)
        obtain ⟨rfl, rfl⟩ := hw_15
        replace G := G.perm (ws' := [(m0, mO M 0 xrm xsv xln xat xer xwr xwd xlo xhi xwl xml xkl xfi xse xdn xon xtw xol xrw xgl xus xpr xmk xab), (M 45, aI (K 0) 2 gsz), (M 46, aI (K 4) 2 gex), (M 43, aR (K 7) 2 gE), (M 44, aR (K 8) 2 gS), (ME 0, aI (K 0) 60 e0), (ME 1, aI (K 0) 60 e1), (MS 0, aF (K 3) 60 s0), (MS 1, aF (K 3) 60 s1)]) [0, 1, 2, 3, 4, 5, 6, 7, 8] rfl rfl
        refine W.eq (g2 := F0 m9 83 ls [.int (iI ((FP.i2f (iI ((vget vs1 z).1))).toInt32.toInt))]) rfl ?_
        exact ad_ireturn F G hR rfl (Nat.le_of_ble_eq_true rfl) (Nat.le_of_ble_eq_true rfl) (Or.inr (⟨(ad_eqi (by rw [elF, if_neg (by omega)])), (by omega), rfl⟩)) dX11_storedBits_83
    · replace G := G.perm (ws' := [(m0, mO M 0 xrm xsv xln xat xer xwr xwd xlo xhi xwl xml xkl xfi xse xdn xon xtw xol xrw xgl xus xpr xmk xab), (M 45, aI (K 0) 2 gsz), (M 46, aI (K 4) 2 gex), (M 43, aR (K 7) 2 gE), (M 44, aR (K 8) 2 gS), (ME 0, aI (K 0) 60 e0), (ME 1, aI (K 0) 60 e1), (MS 0, aF (K 3) 60 s0), (MS 1, aF (K 3) 60 s1)]) [0, 1, 2, 3, 4, 5, 6, 7, 8] rfl rfl
      refine W.eq (g2 := F0 m9 35 ls [.int (iI 0), .int (iI 2), .ref m0]) rfl ?_
      refine ad_if_ne (tgt := 42) F (by decide) dX11_storedBits_35 (by decide) (fun cc_16 => absurd cc_16 (by decide)) (fun _ => ?_)
      refine ad_iconst F dX11_storedBits_38 ?_
      refine lv_goto (tgt := 43) F.1 F.2.1 dX11_storedBits_39 (by decide) ?_
      refine ad_callV (As := [.int (iI 2), .int (iI 1)]) (rest := []) F G (c_X11_fails_1 l D K z0 m0 M 0 xrm xsv xln xat xer xwr xwd xlo xhi xwl xml xkl xfi xse xdn xon xtw xol xrw xgl xus xpr xmk xab 2 (by omega)) my_X11_fails mv_X11_111 (wr := [(M 45, aI (K 0) 2 gsz), (M 46, aI (K 4) 2 gex), (M 43, aR (K 7) 2 gE), (M 44, aR (K 8) 2 gS), (ME 0, aI (K 0) 60 e0), (ME 1, aI (K 0) 60 e1), (MS 0, aF (K 3) 60 s0), (MS 1, aF (K 3) 60 s1)]) (isC := [0]) (isR := [1, 2, 3, 4, 5, 6, 7, 8]) ⟨rfl, rfl, rfl, rfl, by decide⟩ 11 0 rfl rfl rfl rfl ⟨Nat.le_of_ble_eq_true rfl, Nat.le_of_ble_eq_true rfl⟩ ⟨Nat.le_of_ble_eq_true rfl, Nat.le_of_ble_eq_true rfl⟩ (Nat.le_of_ble_eq_true rfl) hl.1 (cells9 := 0) (slots9 := 0) ⟨rfl, rfl⟩ dX11_storedBits_43 (fun v u H locs hw_17 G => ?_)
      obtain ⟨rfl, rfl⟩ := hw_17
      replace G := G.perm (ws' := [(m0, mO M 2 xrm xsv xln xat xer xwr xwd xlo xhi xwl xml xkl xfi xse xdn xon xtw xol xrw xgl xus xpr xmk xab), (M 45, aI (K 0) 2 gsz), (M 46, aI (K 4) 2 gex), (M 43, aR (K 7) 2 gE), (M 44, aR (K 8) 2 gS), (ME 0, aI (K 0) 60 e0), (ME 1, aI (K 0) 60 e1), (MS 0, aF (K 3) 60 s0), (MS 1, aF (K 3) 60 s1)]) [8, 0, 1, 2, 3, 4, 5, 6, 7] rfl rfl
      refine W.eq (g2 := F0 m9 46 ls [.int (iI 1)]) rfl ?_
      refine ad_if_eq (tgt := 51) F (by decide) dX11_storedBits_46 (by decide) (fun cc_18 => absurd cc_18 (by decide)) (fun _ => ?_)
      refine ad_iconst F dX11_storedBits_49 ?_
      exact ad_ireturn F G hR rfl (Nat.le_of_ble_eq_true rfl) (Nat.le_of_ble_eq_true rfl) (Or.inl ⟨rfl, (by omega), rfl⟩) dX11_storedBits_50
  · replace G := G.perm (ws' := [(m0, mO M xth xrm xsv xln xat xer xwr xwd xlo xhi xwl xml xkl xfi xse xdn xon xtw xol xrw xgl xus xpr xmk xab), (M 45, aI (K 0) 2 gsz), (M 46, aI (K 4) 2 gex), (M 43, aR (K 7) 2 gE), (M 44, aR (K 8) 2 gS), (ME 0, aI (K 0) 60 e0), (ME 1, aI (K 0) 60 e1), (MS 0, aF (K 3) 60 s0), (MS 1, aF (K 3) 60 s1)]) [0, 1, 2, 3, 4, 5, 6, 7, 8] rfl rfl
    refine W.eq (g2 := F0 m9 6 ls [.int (iI 0), .int (iI 1), .ref m0]) rfl ?_
    exfalso; omega

def rm_X11_storeLengths_x : Room := { frames := 3, cells := 0, slots := 0, locals := 54 }
set_option maxHeartbeats 4000000 in
set_option maxRecDepth 100000 in
theorem c_X11_storeLengths_x (l : Launch) (D : va_G) (K : Nat → ClassId) (z0 : Nat) (m0 : Nat) (M : Nat → Nat) (xth : Int) (xrm : Int) (xsv : Int) (xln : Int) (xat : Int) (xer : Int) (xwr : Int) (xwd : Int) (xlo : Int) (xhi : Int) (xwl : Int) (xml : Int) (xkl : Int) (xfi : Int) (xse : Int) (xdn : Int) (xon : Int) (xtw : Int) (xol : Int) (xrw : Int) (xgl : Int) (xus : Int) (xpr : Int) (xmk : Int) (xab : Int) (r : Int) (e : Int) (hr : -2147483648 ≤ r ∧ r < 2147483648) (hrx : ¬ (r = 0 ∨ r = 1)) (h2 : -2147483648 ≤ e ∧ e < 2147483648) : CT l D K z0 yX11_storeLengths cX11_storeLengths 4 (some .int) rm_X11_storeLengths_x [.ref m0, .int (iI r), .int (iI e)] [(m0, mO M xth xrm xsv xln xat xer xwr xwd xlo xhi xwl xml xkl xfi xse xdn xon xtw xol xrw xgl xus xpr xmk xab)] (fun v9 u9 => v9 = some (.int (iI 0)) ∧ u9 = [(m0, mO M 1 xrm xsv xln xat xer xwr xwd xlo xhi xwl xml xkl xfi xse xdn xon xtw xol xrw xgl xus xpr xmk xab)]) := by
  refine CT.start RX11 "storeLengths" (by decide) rfl rfl (Nat.le_of_ble_eq_true rfl) ?_
  intro p9 e9 s9 m9 ag9 bl9 mt9 c9 A9 Q9 ls F G hR hl
  have hl : lv_has ls 4 [(0, .ref m0), (1, .int (iI r)), (2, .int (iI e))] := hl
  refine lv_aload_n F.1 F.2.1 dX11_storeLengths_0 rfl (lv_at hl 0 rfl) ?_
  refine ad_iconst F dX11_storeLengths_1 ?_
  refine lv_iload_n F.1 F.2.1 dX11_storeLengths_2 rfl (lv_at hl 1 rfl) ?_
  refine ad_callS (As := [.int (iI r)]) (rest := [.int (iI 1), .ref m0]) F G (c_X11_isRow l D K z0 r hr) my_X11_isRow ms_X11_345 (wr := [(m0, mO M xth xrm xsv xln xat xer xwr xwd xlo xhi xwl xml xkl xfi xse xdn xon xtw xol xrw xgl xus xpr xmk xab)]) (isC := []) (isR := [0]) ⟨rfl, rfl, rfl, rfl, by decide⟩ rfl rfl ⟨Nat.le_of_ble_eq_true rfl, Nat.le_of_ble_eq_true rfl⟩ ⟨Nat.le_of_ble_eq_true rfl, Nat.le_of_ble_eq_true rfl⟩ (Nat.le_of_ble_eq_true rfl) hl.1 (cells9 := 0) (slots9 := 0) ⟨rfl, rfl⟩ dX11_storeLengths_3 (fun v u H locs hw_1 G => ?_)
  rcases hw_1 with ⟨rfl, hc_2, rfl⟩ | ⟨rfl, hc_3, rfl⟩
  · replace G := G.perm (ws' := [(m0, mO M xth xrm xsv xln xat xer xwr xwd xlo xhi xwl xml xkl xfi xse xdn xon xtw xol xrw xgl xus xpr xmk xab)]) [0] rfl rfl
    refine W.eq (g2 := F0 m9 6 ls [.int (iI 1), .int (iI 1), .ref m0]) rfl ?_
    exfalso; omega
  · replace G := G.perm (ws' := [(m0, mO M xth xrm xsv xln xat xer xwr xwd xlo xhi xwl xml xkl xfi xse xdn xon xtw xol xrw xgl xus xpr xmk xab)]) [0] rfl rfl
    refine W.eq (g2 := F0 m9 6 ls [.int (iI 0), .int (iI 1), .ref m0]) rfl ?_
    refine ad_if_ne (tgt := 13) F (by decide) dX11_storeLengths_6 (by decide) (fun cc_4 => absurd cc_4 (by decide)) (fun _ => ?_)
    refine ad_iconst F dX11_storeLengths_9 ?_
    refine lv_goto (tgt := 14) F.1 F.2.1 dX11_storeLengths_10 (by decide) ?_
    refine ad_callV (As := [.int (iI 1), .int (iI 1)]) (rest := []) F G (c_X11_fails_1 l D K z0 m0 M xth xrm xsv xln xat xer xwr xwd xlo xhi xwl xml xkl xfi xse xdn xon xtw xol xrw xgl xus xpr xmk xab 1 (by omega)) my_X11_fails mv_X11_111 (wr := []) (isC := [0]) (isR := []) ⟨rfl, rfl, rfl, rfl, by decide⟩ 11 0 rfl rfl rfl rfl ⟨Nat.le_of_ble_eq_true rfl, Nat.le_of_ble_eq_true rfl⟩ ⟨Nat.le_of_ble_eq_true rfl, Nat.le_of_ble_eq_true rfl⟩ (Nat.le_of_ble_eq_true rfl) hl.1 (cells9 := 0) (slots9 := 0) ⟨rfl, rfl⟩ dX11_storeLengths_14 (fun v u H locs hw_5 G => ?_)
    obtain ⟨rfl, rfl⟩ := hw_5
    replace G := G.perm (ws' := [(m0, mO M 1 xrm xsv xln xat xer xwr xwd xlo xhi xwl xml xkl xfi xse xdn xon xtw xol xrw xgl xus xpr xmk xab)]) [0] rfl rfl
    refine W.eq (g2 := F0 m9 17 ls [.int (iI 1)]) rfl ?_
    refine ad_if_ne (tgt := 32) F (by decide) dX11_storeLengths_17 (by decide) (fun _ => ?_) (fun cc_6 => absurd cc_6 (by decide))
    refine ad_iconst F dX11_storeLengths_32 ?_
    exact ad_ireturn F G hR rfl (Nat.le_of_ble_eq_true rfl) (Nat.le_of_ble_eq_true rfl) ⟨rfl, rfl⟩ dX11_storeLengths_33

def rm_X11_copyLengths_x : Room := { frames := 3, cells := 0, slots := 0, locals := 54 }
set_option maxHeartbeats 4000000 in
set_option maxRecDepth 100000 in
theorem c_X11_copyLengths_x (l : Launch) (D : va_G) (K : Nat → ClassId) (z0 : Nat) (m0 : Nat) (M : Nat → Nat) (xth : Int) (xrm : Int) (xsv : Int) (xln : Int) (xat : Int) (xer : Int) (xwr : Int) (xwd : Int) (xlo : Int) (xhi : Int) (xwl : Int) (xml : Int) (xkl : Int) (xfi : Int) (xse : Int) (xdn : Int) (xon : Int) (xtw : Int) (xol : Int) (xrw : Int) (xgl : Int) (xus : Int) (xpr : Int) (xmk : Int) (xab : Int) (r : Int) (k : Int) (hr : -2147483648 ≤ r ∧ r < 2147483648) (hrx : ¬ (r = 0 ∨ r = 1)) (h2 : -2147483648 ≤ k ∧ k < 2147483648) : CT l D K z0 yX11_copyLengths cX11_copyLengths 6 (some .boolean) rm_X11_copyLengths_x [.ref m0, .int (iI r), .int (iI k)] [(m0, mO M xth xrm xsv xln xat xer xwr xwd xlo xhi xwl xml xkl xfi xse xdn xon xtw xol xrw xgl xus xpr xmk xab)] (fun v9 u9 => v9 = some (.int (iI 0)) ∧ u9 = [(m0, mO M 1 xrm xsv xln xat xer xwr xwd xlo xhi xwl xml xkl xfi xse xdn xon xtw xol xrw xgl xus xpr xmk xab)]) := by
  refine CT.start RX11 "copyLengths" (by decide) rfl rfl (Nat.le_of_ble_eq_true rfl) ?_
  intro p9 e9 s9 m9 ag9 bl9 mt9 c9 A9 Q9 ls F G hR hl
  have hl : lv_has ls 6 [(0, .ref m0), (1, .int (iI r)), (2, .int (iI k))] := hl
  refine lv_aload_n F.1 F.2.1 dX11_copyLengths_0 rfl (lv_at hl 0 rfl) ?_
  refine ad_iconst F dX11_copyLengths_1 ?_
  refine lv_iload_n F.1 F.2.1 dX11_copyLengths_2 rfl (lv_at hl 1 rfl) ?_
  refine ad_callS (As := [.int (iI r)]) (rest := [.int (iI 1), .ref m0]) F G (c_X11_isRow l D K z0 r hr) my_X11_isRow ms_X11_345 (wr := [(m0, mO M xth xrm xsv xln xat xer xwr xwd xlo xhi xwl xml xkl xfi xse xdn xon xtw xol xrw xgl xus xpr xmk xab)]) (isC := []) (isR := [0]) ⟨rfl, rfl, rfl, rfl, by decide⟩ rfl rfl ⟨Nat.le_of_ble_eq_true rfl, Nat.le_of_ble_eq_true rfl⟩ ⟨Nat.le_of_ble_eq_true rfl, Nat.le_of_ble_eq_true rfl⟩ (Nat.le_of_ble_eq_true rfl) hl.1 (cells9 := 0) (slots9 := 0) ⟨rfl, rfl⟩ dX11_copyLengths_3 (fun v u H locs hw_1 G => ?_)
  rcases hw_1 with ⟨rfl, hc_2, rfl⟩ | ⟨rfl, hc_3, rfl⟩
  · replace G := G.perm (ws' := [(m0, mO M xth xrm xsv xln xat xer xwr xwd xlo xhi xwl xml xkl xfi xse xdn xon xtw xol xrw xgl xus xpr xmk xab)]) [0] rfl rfl
    refine W.eq (g2 := F0 m9 6 ls [.int (iI 1), .int (iI 1), .ref m0]) rfl ?_
    exfalso; omega
  · replace G := G.perm (ws' := [(m0, mO M xth xrm xsv xln xat xer xwr xwd xlo xhi xwl xml xkl xfi xse xdn xon xtw xol xrw xgl xus xpr xmk xab)]) [0] rfl rfl
    refine W.eq (g2 := F0 m9 6 ls [.int (iI 0), .int (iI 1), .ref m0]) rfl ?_
    refine ad_if_ne (tgt := 13) F (by decide) dX11_copyLengths_6 (by decide) (fun cc_4 => absurd cc_4 (by decide)) (fun _ => ?_)
    refine ad_iconst F dX11_copyLengths_9 ?_
    refine lv_goto (tgt := 14) F.1 F.2.1 dX11_copyLengths_10 (by decide) ?_
    refine ad_callV (As := [.int (iI 1), .int (iI 1)]) (rest := []) F G (c_X11_fails_1 l D K z0 m0 M xth xrm xsv xln xat xer xwr xwd xlo xhi xwl xml xkl xfi xse xdn xon xtw xol xrw xgl xus xpr xmk xab 1 (by omega)) my_X11_fails mv_X11_111 (wr := []) (isC := [0]) (isR := []) ⟨rfl, rfl, rfl, rfl, by decide⟩ 11 0 rfl rfl rfl rfl ⟨Nat.le_of_ble_eq_true rfl, Nat.le_of_ble_eq_true rfl⟩ ⟨Nat.le_of_ble_eq_true rfl, Nat.le_of_ble_eq_true rfl⟩ (Nat.le_of_ble_eq_true rfl) hl.1 (cells9 := 0) (slots9 := 0) ⟨rfl, rfl⟩ dX11_copyLengths_14 (fun v u H locs hw_5 G => ?_)
    obtain ⟨rfl, rfl⟩ := hw_5
    replace G := G.perm (ws' := [(m0, mO M 1 xrm xsv xln xat xer xwr xwd xlo xhi xwl xml xkl xfi xse xdn xon xtw xol xrw xgl xus xpr xmk xab)]) [0] rfl rfl
    refine W.eq (g2 := F0 m9 17 ls [.int (iI 1)]) rfl ?_
    refine ad_if_ne (tgt := 79) F (by decide) dX11_copyLengths_17 (by decide) (fun _ => ?_) (fun cc_6 => absurd cc_6 (by decide))
    refine ad_iconst F dX11_copyLengths_79 ?_
    exact ad_zreturn F G hR rfl (Nat.le_of_ble_eq_true rfl) (Nat.le_of_ble_eq_true rfl) rfl ⟨rfl, rfl⟩ dX11_copyLengths_80

def rm_X11_storedBits_x : Room := { frames := 3, cells := 0, slots := 0, locals := 54 }
set_option maxHeartbeats 4000000 in
set_option maxRecDepth 100000 in
theorem c_X11_storedBits_x (l : Launch) (D : va_G) (K : Nat → ClassId) (z0 : Nat) (m0 : Nat) (M : Nat → Nat) (xth : Int) (xrm : Int) (xsv : Int) (xln : Int) (xat : Int) (xer : Int) (xwr : Int) (xwd : Int) (xlo : Int) (xhi : Int) (xwl : Int) (xml : Int) (xkl : Int) (xfi : Int) (xse : Int) (xdn : Int) (xon : Int) (xtw : Int) (xol : Int) (xrw : Int) (xgl : Int) (xus : Int) (xpr : Int) (xmk : Int) (xab : Int) (r : Int) (k : Int) (hr : -2147483648 ≤ r ∧ r < 2147483648) (hrx : ¬ (r = 0 ∨ r = 1)) (h2 : -2147483648 ≤ k ∧ k < 2147483648) : CT l D K z0 yX11_storedBits cX11_storedBits 3 (some .int) rm_X11_storedBits_x [.ref m0, .int (iI r), .int (iI k)] [(m0, mO M xth xrm xsv xln xat xer xwr xwd xlo xhi xwl xml xkl xfi xse xdn xon xtw xol xrw xgl xus xpr xmk xab)] (fun v9 u9 => v9 = some (.int (iI 0)) ∧ u9 = [(m0, mO M 1 xrm xsv xln xat xer xwr xwd xlo xhi xwl xml xkl xfi xse xdn xon xtw xol xrw xgl xus xpr xmk xab)]) := by
  refine CT.start RX11 "storedBits" (by decide) rfl rfl (Nat.le_of_ble_eq_true rfl) ?_
  intro p9 e9 s9 m9 ag9 bl9 mt9 c9 A9 Q9 ls F G hR hl
  have hl : lv_has ls 3 [(0, .ref m0), (1, .int (iI r)), (2, .int (iI k))] := hl
  refine lv_aload_n F.1 F.2.1 dX11_storedBits_0 rfl (lv_at hl 0 rfl) ?_
  refine ad_iconst F dX11_storedBits_1 ?_
  refine lv_iload_n F.1 F.2.1 dX11_storedBits_2 rfl (lv_at hl 1 rfl) ?_
  refine ad_callS (As := [.int (iI r)]) (rest := [.int (iI 1), .ref m0]) F G (c_X11_isRow l D K z0 r hr) my_X11_isRow ms_X11_345 (wr := [(m0, mO M xth xrm xsv xln xat xer xwr xwd xlo xhi xwl xml xkl xfi xse xdn xon xtw xol xrw xgl xus xpr xmk xab)]) (isC := []) (isR := [0]) ⟨rfl, rfl, rfl, rfl, by decide⟩ rfl rfl ⟨Nat.le_of_ble_eq_true rfl, Nat.le_of_ble_eq_true rfl⟩ ⟨Nat.le_of_ble_eq_true rfl, Nat.le_of_ble_eq_true rfl⟩ (Nat.le_of_ble_eq_true rfl) hl.1 (cells9 := 0) (slots9 := 0) ⟨rfl, rfl⟩ dX11_storedBits_3 (fun v u H locs hw_1 G => ?_)
  rcases hw_1 with ⟨rfl, hc_2, rfl⟩ | ⟨rfl, hc_3, rfl⟩
  · replace G := G.perm (ws' := [(m0, mO M xth xrm xsv xln xat xer xwr xwd xlo xhi xwl xml xkl xfi xse xdn xon xtw xol xrw xgl xus xpr xmk xab)]) [0] rfl rfl
    refine W.eq (g2 := F0 m9 6 ls [.int (iI 1), .int (iI 1), .ref m0]) rfl ?_
    exfalso; omega
  · replace G := G.perm (ws' := [(m0, mO M xth xrm xsv xln xat xer xwr xwd xlo xhi xwl xml xkl xfi xse xdn xon xtw xol xrw xgl xus xpr xmk xab)]) [0] rfl rfl
    refine W.eq (g2 := F0 m9 6 ls [.int (iI 0), .int (iI 1), .ref m0]) rfl ?_
    refine ad_if_ne (tgt := 13) F (by decide) dX11_storedBits_6 (by decide) (fun cc_4 => absurd cc_4 (by decide)) (fun _ => ?_)
    refine ad_iconst F dX11_storedBits_9 ?_
    refine lv_goto (tgt := 14) F.1 F.2.1 dX11_storedBits_10 (by decide) ?_
    refine ad_callV (As := [.int (iI 1), .int (iI 1)]) (rest := []) F G (c_X11_fails_1 l D K z0 m0 M xth xrm xsv xln xat xer xwr xwd xlo xhi xwl xml xkl xfi xse xdn xon xtw xol xrw xgl xus xpr xmk xab 1 (by omega)) my_X11_fails mv_X11_111 (wr := []) (isC := [0]) (isR := []) ⟨rfl, rfl, rfl, rfl, by decide⟩ 11 0 rfl rfl rfl rfl ⟨Nat.le_of_ble_eq_true rfl, Nat.le_of_ble_eq_true rfl⟩ ⟨Nat.le_of_ble_eq_true rfl, Nat.le_of_ble_eq_true rfl⟩ (Nat.le_of_ble_eq_true rfl) hl.1 (cells9 := 0) (slots9 := 0) ⟨rfl, rfl⟩ dX11_storedBits_14 (fun v u H locs hw_5 G => ?_)
    obtain ⟨rfl, rfl⟩ := hw_5
    replace G := G.perm (ws' := [(m0, mO M 1 xrm xsv xln xat xer xwr xwd xlo xhi xwl xml xkl xfi xse xdn xon xtw xol xrw xgl xus xpr xmk xab)]) [0] rfl rfl
    refine W.eq (g2 := F0 m9 17 ls [.int (iI 1)]) rfl ?_
    refine ad_if_ne (tgt := 49) F (by decide) dX11_storedBits_17 (by decide) (fun _ => ?_) (fun cc_6 => absurd cc_6 (by decide))
    refine ad_iconst F dX11_storedBits_49 ?_
    exact ad_ireturn F G hR rfl (Nat.le_of_ble_eq_true rfl) (Nat.le_of_ble_eq_true rfl) ⟨rfl, rfl⟩ dX11_storedBits_50

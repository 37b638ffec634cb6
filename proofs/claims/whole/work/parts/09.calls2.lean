section Am5
variable {p : Program} {l : Launch} {e : Env} {R : Room} {s : State} {m : MethodId} {args : Array Value} {below : List Frame} {meth : Method} {c : Code} {D : GD} {B tW : Nat} {α0 : Ad} {ν0 : Nu} {own : String} {cc : ByteArray} {nL : Nat} {ret : Option FieldType} {mn : String} {tab : List ExceptionTableEntry} {Q : State → Prop} {cells slots : Nat} {ν : Nu} {ι : Io} {ρ : Ro} {ℓ : Lo} {pc : Nat} {lv lv' : List (Nat × SV)} {st : List SV}
variable {mc ms : Nat} {Po : PoT} {PX : PxT}
theorem V_callVX {y : MethodName} {bytes : ByteArray} {maxL' n' idx : Nat} {ret' : Option FieldType} {rm' : Room} {as : List SV} {Po' : PoT} {PX' : PxT} {r i j N : Nat} {T1 : u_T} (C : Cx p l s m args meth c D B tW α0 own cc nL ret mn tab) (hQ : Q = vx_MQ below (cQ D B α0 ν0 Po) (cX D B α0 ν0 PX) args s mc ms (uB B)) (htab : tab = []) (hd : decode cc pc = .ok (.invokevirtual idx, 3)) (hM : Ct y (Cond.code y bytes maxL' ret' :: tb_) rm' (sR r i j :: as) ν ι ρ ℓ Po' PX') (hY : MtV y bytes maxL' ret' n') (hF : ClF r y.cls T1 N) (hw : Cond.methodLink own idx y ∈ tb_) (ha : ν r i j ≠ none) (hRm : rm'.frames + 1 ≤ R.frames ∧ 8 + (maxL' + 11) + rm'.locals ≤ R.locals) (hst8 : (st.map scat).sum ≤ 8) (hfit : cells + rm'.cells ≤ R.cells ∧ slots + rm'.slots ≤ R.slots) (hlen : as.length = n') (hxc : cells + rm'.cells ≤ mc) (hxs : slots + rm'.slots ≤ ms) (kx : ∀ (E : String) (ν' : Nu) (ι' : Io) (ρ' : Ro) (ℓ' : Lo), PX' E ν' ι' ρ' ℓ' → PX E ν' ι' ρ' ℓ') (kk : ∀ (v' : Option SV) (ν' : Nu) (ι' : Io) (ρ' : Ro) (ℓ' : Lo), Po' v' ν' ι' ρ' ℓ' → V p l e R s m args below meth c D B α0 ν0 nL Q (cells + rm'.cells) (slots + rm'.slots) ν' ι' ρ' ℓ' (pc + 3) lv (v'.toList ++ st)) : V p l e R s m args below meth c D B α0 ν0 nL Q cells slots ν ι ρ ℓ pc lv (as.reverse ++ sR r i j :: st) := by
  intro α H locs ls hR hS hl h0 h1 h2
  subst hQ
  obtain ⟨n9, hn9⟩ := Option.ne_none_iff_exists'.mp ha
  obtain ⟨q9, w3, w4, cell, q1, q2, q3, -⟩ := (hR.2.1 r i j n9 hn9).2.2.1.1 hF.1
  cases hF.2.1.symm.trans w3
  have hrec : ∃ cellB : Cell, H[α r i j]? = some cellB ∧ cellB.vm.isStatics = false ∧ s.vm.findClass y.cls = some cellB.cls := ⟨cell, q1, by rw [q3]; rfl, by rw [q2]; exact (C.2.2.2.2.2.1.1.1 r _ hF.2.1).2.1⟩
  have hpre : ∀ U : State, U.heap = H → s.WarmedH U.vm → cP D B tW α ν ι ρ ℓ (sR r i j :: as) (Value.ref (α r i j) :: as.map (enc α)).toArray U := fun U hU hW => ⟨rfl, by rw [hU]; exact hR, C.2.2.2.2.2.1.to hW (fun q g1 g2 => by rw [hU]; exact hS.2.1 q g1 g2), (h0.2 99 0 0 (Or.inl (by decide))).trans C.2.2.2.2.2.2.2.2.2.2.2.2, fun w hw => h2 w ((List.mem_cons.mp hw).elim (fun z => z ▸ List.mem_append_right _ List.mem_cons_self) (fun z => List.mem_append_left _ (List.mem_reverse.mpr z)))⟩
  have h2s : wfl ν st := fun w hw => h2 w (List.mem_append_right _ (List.mem_cons_of_mem _ hw))
  rw [List.map_append, List.map_reverse, List.map_cons]
  have hrun := vx_runV (e := e) (below := below) (meth := meth) (locs := locs) (cells := cells) (slots := slots) (As := as.map (enc α)) (b := α r i j) (rest := st.map (enc α)) (g := F0 m pc ls ((as.map (enc α)).reverse ++ .ref (α r i j) :: st.map (enc α))) (Ts := tb_) (n := n') ⟨C.1, C.2.1, C.2.2.1, C.2.2.2.1, C.2.2.2.2.1⟩ (hM l D B tW α C.2.2.2.2.2.2.2.2.2.1)
    (cwV (C := y.cls) n' C.2.2.2.2.1 (goodTb (by
      intro w hw9
      simp only [wsV, List.mem_append, List.mem_cons, List.not_mem_nil, or_false] at hw9
      rcases hw9 with (rfl | rfl | rfl | rfl) | rfl | h
      · exact hw
      · exact hY.1
      · exact hY.2.1
      · exact hY.2.2.1
      · exact hY.2.2.2.1
      · exact h)) rfl rfl rfl ⟨rfl, hY.2.2.2.2⟩ hRm) ⟨cP_blind, hrec, hpre⟩ rfl (by rw [List.length_map]; exact hlen) hl.1 rfl (lv_room (by rw [cat_sum]; exact hst8)) hd hfit
  intro T hT X
  rcases hrun T hT X with ⟨v, st₀, t, T', L, e0, X', hL, e1, e2, hq, hgo⟩ | ⟨q, st₀, t, T', L, E, ce, e0, X', hL, e1, e2, ⟨⟨α', ν', ι', ρ', ℓ', hp, hR', ag⟩, hFx⟩, hce, hcv, hcl, hgo⟩
  · obtain ⟨t2, g1, g2⟩ := call_back hS hl h0 h1 h2s e0 X' hL e1 hq kk
    exact ⟨t2, hgo t2 g1, g2⟩
  · obtain ⟨k1, k2, k3⟩ := vx_keep (H0 := s.heap) (A0 := uB B) (free := uB B) e0 e1 hS (fun q _ h => h) (fun q h => h) hL hFx
    obtain ⟨t2, g1, g2⟩ := vx_out (Qc := cQ D B α0 ν0 Po) (XC := cX D B α0 ν0 PX) (mc := mc) (ms := ms) (free := uB B) (ls := ls) (rest := st.map (enc α)) (pc := pc) (by rw [C.2.2.2.2.2.2.2.2.2.2.1, htab]; exact fun x hx => nomatch hx) C.2.2.2.2.2.2.2.2.1 (show T'.heap[q]? = some ce by rw [e1]; exact hce) hcv hcl
      (fun t9 ht9 hal => ⟨⟨α', ν', ι', ρ', ℓ', kx E ν' ι' ρ' ℓ' hp, by rw [ht9, e1]; exact hR', h0.tr ag⟩, k3.F ht9⟩) k3.2.2 hxc hxs T' rfl X'
    exact ⟨t2, hgo.trans g1, g2⟩
theorem V_callVH {y : MethodName} {bytes : ByteArray} {maxL' n' idx : Nat} {ret' : Option FieldType} {rm' : Room} {as : List SV} {Po' : PoT} {PX' : PxT} {r i j N : Nat} {T1 : u_T} (C : Cx p l s m args meth c D B tW α0 own cc nL ret mn tab) (hd : decode cc pc = .ok (.invokevirtual idx, 3)) (hM : Ct y (Cond.code y bytes maxL' ret' :: tb_) rm' (sR r i j :: as) ν ι ρ ℓ Po' PX') (hY : MtV y bytes maxL' ret' n') (hF : ClF r y.cls T1 N) (hw : Cond.methodLink own idx y ∈ tb_) (ha : ν r i j ≠ none) (hRm : rm'.frames + 1 ≤ R.frames ∧ 8 + (maxL' + 11) + rm'.locals ≤ R.locals) (hst8 : (st.map scat).sum ≤ 8) (hfit : cells + rm'.cells ≤ R.cells ∧ slots + rm'.slots ≤ R.slots) (hlen : as.length = n') (kx : ∀ (E : String) (ν' : Nu) (ι' : Io) (ρ' : Ro) (ℓ' : Lo), PX' E ν' ι' ρ' ℓ' → ∃ (pre : List ExceptionTableEntry) (x : ExceptionTableEntry) (suf : List ExceptionTableEntry) (n9 hp2 : Nat), tab = pre ++ x :: suf ∧ (∀ z ∈ pre, z.catchType ≠ 0 ∧ ∃ nm : String, Cond.classLink own z.catchType nm ∈ tb_ ∧ (E, nm) ∈ nc_) ∧ covers x pc = true ∧ x.catchType ≠ 0 ∧ Cond.classLink own x.catchType E ∈ tb_ ∧ (E, E) ∈ nwC ∧ n9 < nL ∧ ((decode cc x.handlerPc = .ok (.astore n9, 2) ∧ hp2 = x.handlerPc + 2) ∨ ∃ k9 : Fin 4, (k9 : Nat) = n9 ∧ decode cc x.handlerPc = .ok (.astore_n k9, 1) ∧ hp2 = x.handlerPc + 1) ∧ V p l e R s m args below meth c D B α0 ν0 nL Q (cells + rm'.cells) (slots + rm'.slots) ν' ι' ρ' ℓ' hp2 (ldel n9 lv) []) (kk : ∀ (v' : Option SV) (ν' : Nu) (ι' : Io) (ρ' : Ro) (ℓ' : Lo), Po' v' ν' ι' ρ' ℓ' → V p l e R s m args below meth c D B α0 ν0 nL Q (cells + rm'.cells) (slots + rm'.slots) ν' ι' ρ' ℓ' (pc + 3) lv (v'.toList ++ st)) : V p l e R s m args below meth c D B α0 ν0 nL Q cells slots ν ι ρ ℓ pc lv (as.reverse ++ sR r i j :: st) := by
  intro α H locs ls hR hS hl h0 h1 h2
  obtain ⟨n9, hn9⟩ := Option.ne_none_iff_exists'.mp ha
  obtain ⟨q9, w3, w4, cell, q1, q2, q3, -⟩ := (hR.2.1 r i j n9 hn9).2.2.1.1 hF.1
  cases hF.2.1.symm.trans w3
  have hrec : ∃ cellB : Cell, H[α r i j]? = some cellB ∧ cellB.vm.isStatics = false ∧ s.vm.findClass y.cls = some cellB.cls := ⟨cell, q1, by rw [q3]; rfl, by rw [q2]; exact (C.2.2.2.2.2.1.1.1 r _ hF.2.1).2.1⟩
  have hpre : ∀ U : State, U.heap = H → s.WarmedH U.vm → cP D B tW α ν ι ρ ℓ (sR r i j :: as) (Value.ref (α r i j) :: as.map (enc α)).toArray U := fun U hU hW => ⟨rfl, by rw [hU]; exact hR, C.2.2.2.2.2.1.to hW (fun q g1 g2 => by rw [hU]; exact hS.2.1 q g1 g2), (h0.2 99 0 0 (Or.inl (by decide))).trans C.2.2.2.2.2.2.2.2.2.2.2.2, fun w hw => h2 w ((List.mem_cons.mp hw).elim (fun z => z ▸ List.mem_append_right _ List.mem_cons_self) (fun z => List.mem_append_left _ (List.mem_reverse.mpr z)))⟩
  have h2s : wfl ν st := fun w hw => h2 w (List.mem_append_right _ (List.mem_cons_of_mem _ hw))
  rw [List.map_append, List.map_reverse, List.map_cons]
  have hrun := vx_runV (e := e) (below := below) (meth := meth) (locs := locs) (cells := cells) (slots := slots) (As := as.map (enc α)) (b := α r i j) (rest := st.map (enc α)) (g := F0 m pc ls ((as.map (enc α)).reverse ++ .ref (α r i j) :: st.map (enc α))) (Ts := tb_) (n := n') ⟨C.1, C.2.1, C.2.2.1, C.2.2.2.1, C.2.2.2.2.1⟩ (hM l D B tW α C.2.2.2.2.2.2.2.2.2.1)
    (cwV (C := y.cls) n' C.2.2.2.2.1 (goodTb (by
      intro w hw9
      simp only [wsV, List.mem_append, List.mem_cons, List.not_mem_nil, or_false] at hw9
      rcases hw9 with (rfl | rfl | rfl | rfl) | rfl | h
      · exact hw
      · exact hY.1
      · exact hY.2.1
      · exact hY.2.2.1
      · exact hY.2.2.2.1
      · exact h)) rfl rfl rfl ⟨rfl, hY.2.2.2.2⟩ hRm) ⟨cP_blind, hrec, hpre⟩ rfl (by rw [List.length_map]; exact hlen) hl.1 rfl (lv_room (by rw [cat_sum]; exact hst8)) hd hfit
  intro T hT X
  rcases hrun T hT X with ⟨v, st₀, t, T', L, e0, X', hL, e1, e2, hq, hgo⟩ | ⟨q, st₀, t, T', L, E, ce, e0, X', hL, e1, e2, ⟨⟨α', ν', ι', ρ', ℓ', hp, hR', ag⟩, hFx⟩, hce, hcv, hcl, hgo⟩
  · obtain ⟨t2, g1, g2⟩ := call_back hS hl h0 h1 h2s e0 X' hL e1 hq kk
    exact ⟨t2, hgo t2 g1, g2⟩
  · obtain ⟨k1, k2, k3⟩ := vx_keep (H0 := s.heap) (A0 := uB B) (free := uB B) e0 e1 hS (fun q _ h => h) (fun q h => h) hL hFx
    obtain ⟨pre, x, suf, n9, hp2, hsp, hpass, hcov, hct, hlk, hcast, hn9, hst9, hV⟩ := kx E ν' ι' ρ' ℓ' hp
    have hl' : lv_has ls nL (lv.map (fun q => (q.1, enc α' q.2))) := by
      rw [show lv.map (fun q => (q.1, enc α' q.2)) = lv.map (fun q => (q.1, enc α q.2)) from List.map_congr_left fun q hq => by rw [enc_ag (h1 q.2 (List.mem_map.mpr ⟨q, hq, rfl⟩)) ag.2]]
      exact hl
    have fin : W p l e R s m args below meth c T'.heap (locs ++ L) (cells + rm'.cells) (slots + rm'.slots) Q (F0 m x.handlerPc ls [.ref q]) := by
      have go : ∀ ls' : Array Slot, lv_has ls' nL ((n9, Value.ref q) :: (ldel n9 lv).map (fun q => (q.1, enc α' q.2))) → W p l e R s m args below meth c T'.heap (locs ++ L) (cells + rm'.cells) (slots + rm'.slots) Q (F0 m hp2 ls' []) := fun ls' hls' =>
        hV α' T'.heap (locs ++ L) ls' (by rw [e1]; exact hR') k3 ⟨hls'.1, hls'.2.1, fun z hz => hls'.2.2 z (List.mem_cons_of_mem _ hz)⟩ (h0.tr ag) (ldel_wf (wfl_up h1 ag.alv)) wfl_n
      rcases hst9 with ⟨hdx, rfl⟩ | ⟨k9, hk9, hdx, rfl⟩
      · exact lv_astore C.1 C.2.1 hdx hl' hn9 (by rw [ldel_f]) go
      · exact lv_astore_n C.1 C.2.1 hdx hk9 hl' hn9 (by rw [ldel_f]) go
    obtain ⟨t2, g1, g2⟩ := vx_catch (own := own) (name := E) (rest := st.map (enc α)) (pc := pc) C.2.2.2.1 pre x suf (C.2.2.2.2.2.2.2.2.2.2.1.trans hsp) (fun z hz => Or.inr ⟨(hpass z hz).1, (hpass z hz).2.choose, C.2.2.2.2.1 _ (hpass z hz).2.choose_spec.1, C.2.2.2.2.2.1.1.2.2.2.2.2.2.1 _ (hpass z hz).2.choose_spec.2⟩) hcov hct (C.2.2.2.2.1 _ hlk) (va_Nw.use rfl (C.2.2.2.2.2.1.1.2.2.2.2.1 _ hcast)) (show T'.heap[q]? = some ce by rw [e1]; exact hce) hcv hcl fin T' rfl X'
    exact ⟨t2, hgo.trans g1, g2⟩
theorem V_callSW {y : MethodName} {bytes : ByteArray} {maxL' n' idx : Nat} {ret' : Option FieldType} {rm' : Room} {as : List SV} {Po' : PoT} {hh : List (Nat × Nat × Nat × Nat)} (C : Cx p l s m args meth c D B tW α0 own cc nL ret mn tab) (hd : decode cc pc = .ok (.invokestatic idx, 3)) (hM : Ct y (Cond.codeWith y bytes maxL' ret' hh :: tb_) rm' as ν ι ρ ℓ Po' noX) (hY : MtW y bytes maxL' ret' hh n') (hw : Cond.methodLink own idx y ∈ tb_) (hRm : rm'.frames + 1 ≤ R.frames ∧ 8 + (maxL' + 11) + rm'.locals ≤ R.locals) (hst8 : (st.map scat).sum ≤ 8) (hfit : cells + rm'.cells ≤ R.cells ∧ slots + rm'.slots ≤ R.slots) (hlen : as.length = n') (kk : ∀ (v' : Option SV) (ν' : Nu) (ι' : Io) (ρ' : Ro) (ℓ' : Lo), Po' v' ν' ι' ρ' ℓ' → V p l e R s m args below meth c D B α0 ν0 nL Q (cells + rm'.cells) (slots + rm'.slots) ν' ι' ρ' ℓ' (pc + 3) lv (v'.toList ++ st)) : V p l e R s m args below meth c D B α0 ν0 nL Q cells slots ν ι ρ ℓ pc lv (as.reverse ++ st) := by
  intro α H locs ls hR hS hl h0 h1 h2
  have hpre : ∀ U : State, U.heap = H → s.WarmedH U.vm → cP D B tW α ν ι ρ ℓ (as) (as.map (enc α)).toArray U := fun U hU hW => ⟨rfl, by rw [hU]; exact hR, C.2.2.2.2.2.1.to hW (fun q g1 g2 => by rw [hU]; exact hS.2.1 q g1 g2), (h0.2 99 0 0 (Or.inl (by decide))).trans C.2.2.2.2.2.2.2.2.2.2.2.2, fun w hw => h2 w (List.mem_append_left _ (List.mem_reverse.mpr hw))⟩
  have h2s : wfl ν st := fun w hw => h2 w (List.mem_append_right _ hw)
  rw [List.map_append, List.map_reverse]
  have hrun := vx_runSW (e := e) (below := below) (meth := meth) (locs := locs) (cells := cells) (slots := slots) (As := as.map (enc α)) (rest := st.map (enc α)) (g := F0 m pc ls ((as.map (enc α)).reverse ++ st.map (enc α))) (Ts := tb_) (n := n') ⟨C.1, C.2.1, C.2.2.1, C.2.2.2.1, C.2.2.2.2.1⟩ (hM.met l D B tW α C.2.2.2.2.2.2.2.2.2.1)
    (vx_cwSW n' C.2.2.2.2.1 (goodTb (by
      intro w hw9
      simp only [va_wsS, List.mem_append, List.mem_cons, List.not_mem_nil, or_false] at hw9
      rcases hw9 with (rfl | rfl | rfl) | rfl | h
      · exact hw
      · exact hY.1
      · exact hY.2.1
      · exact hY.2.2.1
      · exact h)) rfl rfl rfl hY.2.2.2 hRm) ⟨cP_blind, hpre⟩ rfl (by rw [List.length_map]; exact hlen) hl.1 rfl (lv_room (by rw [cat_sum]; exact hst8)) hd hfit
  intro T hT X
  obtain ⟨v, st₀, t, T', L, e0, X', hL, e1, e2, hq, hgo⟩ := hrun T hT X
  obtain ⟨t2, g1, g2⟩ := call_back hS hl h0 h1 h2s e0 X' hL e1 hq kk
  exact ⟨t2, hgo t2 g1, g2⟩
theorem toInt_nn {z : Int32} (hz : ¬ z < 0) : z.toInt = (z.toNatClampNeg : Int) := by
  have hz0 : (0 : Int) ≤ z.toInt := by
    have := Int32.not_lt.mp hz
    simpa using Int32.le_iff_toInt_le.mp this
  show z.toInt = ((z.toInt.toNat : Nat) : Int)
  omega
theorem V_copy {r i j n r2 i2 j2 n2 idx t k9 d9 : Nat} {sp dp len : Int32} (C : Cx p l s m args meth c D B tW α0 own cc nL ret mn tab) (hd : decode cc pc = .ok (.invokestatic idx, 3)) (hw : Cond.methodLink own idx arraycopyName ∈ tb_) (hw2 : Cond.native arraycopyName ∈ tb_ ∧ Cond.static arraycopyName ∈ tb_ ∧ Cond.initialized "java/lang/System" ∈ tb_) (hr : 20 ≤ r) (ha : art r = 0) (hr2 : 20 ≤ r2) (ha2 : art r2 = 0) (hk : ∀ q, kd (slt r q) = 0) (hk2 : ∀ q, kd (slt r2 q) = 0) (hn : ν r i j = some n) (hn2 : ν r2 i2 j2 = some n2) (hsp : sp = nI t) (hdp : dp = nI d9) (hlen : len = nI k9) (hb1 : t + k9 ≤ n) (hb2 : d9 + k9 ≤ n2) (hRf : 1 ≤ R.frames) (hRl : (st.map scat).sum + (nativeFrameWords "java/lang/System" "arraycopy" 5 + 11) ≤ R.locals) (k : V p l e R s m args below meth c D B α0 ν0 nL Q cells slots ν (upA ι r2 i2 j2 (va_cpy (ι r i j) (ι r2 i2 j2) t d9 k9)) ρ ℓ (pc + 3) lv st) : V p l e R s m args below meth c D B α0 ν0 nL Q cells slots ν ι ρ ℓ pc lv (sI len :: sI dp :: sR r2 i2 j2 :: sI sp :: sR r i j :: st) := by
  intro α H locs ls hR hS hl h0 h1 h2
  obtain ⟨-, hn31, g3, g4⟩ := hR.2.1 r i j n hn
  obtain ⟨-, hm31, g5, g6⟩ := hR.2.1 r2 i2 j2 n2 hn2
  have hc0 : H[α r i j]? = some (arrV (D.2.2 0) n (fun q => .int (ι r i j q))) := by
    rw [g3.2 hr, ha]; exact congrArg some (arrV_congr fun q _ => cont_I (hk q))
  have hc1 : H[α r2 i2 j2]? = some (arrV (D.2.2 0) n2 (fun q => .int (ι r2 i2 j2 q))) := by
    rw [g5.2 hr2, ha2]; exact congrArg some (arrV_congr fun q _ => cont_I (hk2 q))
  obtain ⟨-, k0, hk0, cm0, hkk0⟩ := (C.2.2.2.2.2.1.1.2.1 0 (by decide)).1 n (fun q => .int (ι r i j q))
  obtain ⟨-, k1, hk1, cm1, hkk1⟩ := (C.2.2.2.2.2.1.1.2.1 0 (by decide)).1 n2 (fun q => .int (ι r2 i2 j2 q))
  have c1 : sp.toNatClampNeg = t := by rw [hsp]; exact nI_clamp (by omega)
  have c2 : dp.toNatClampNeg = d9 := by rw [hdp]; exact nI_clamp (by omega)
  have c3 : len.toNatClampNeg = k9 := by rw [hlen]; exact nI_clamp (by omega)
  have p1 : ¬ sp < 0 := by rw [hsp]; exact nI_pos (by omega)
  have p2 : ¬ dp < 0 := by rw [hdp]; exact nI_pos (by omega)
  have p3 : ¬ len < 0 := by rw [hlen]; exact nI_pos (by omega)
  intro T hT X
  obtain ⟨vm', X', step⟩ := X.arraycopy C.1 C.2.2.2.1 (C.2.2.2.2.1 _ hw) (C.2.2.2.2.1 _ hw2.1) (C.2.2.2.2.1 _ hw2.2.1) (C.2.2.2.2.1 _ hw2.2.2) (src := α r i j) (dst := α r2 i2 j2) (cs := arrV (D.2.2 0) n (fun q => .int (ι r i j q))) (cd := arrV (D.2.2 0) n2 (fun q => .int (ι r2 i2 j2 q))) (srcPos := sp) (destPos := dp) (n := len) (by rw [hT]; exact hc0) (by rw [hT]; exact hc1)
    (fun _ h => by cases h) (fun _ h => by cases h) (fun h => by cases h) (fun h => by cases h) hk0 hk1 hkk0 hkk1 (by simp [aty, refKind]) p1 p2 p3
    (by rw [toInt_nn p1, toInt_nn p3, arrV_size]; omega)
    (by rw [toInt_nn p2, toInt_nn p3, arrV_size]; omega)
    (fun vm₁ _ q hq => by
      have e : (arrV (D.2.2 0) n (fun q => .int (ι r i j q))).slots.getD (sp.toNatClampNeg + q) .null = .int (ι r i j (sp.toNatClampNeg + q)) := by
        rw [Array.getD_eq_getD_getElem?, arrV_read _ _ (by omega)]
        rfl
      exact ⟨by rw [e]; rfl, by rw [e]; exact trivial⟩)
    (g := F0 m pc ls ((sI len :: sI dp :: sR r2 i2 j2 :: sI sp :: sR r i j :: st).map (enc α))) rfl (hl.1.trans C.2.2.1.symm) (rest := st.map (enc α)) rfl (by rw [C.2.1]; exact hd) hRf (by show 2 * 0 + _ + _ ≤ _; rw [cat_sum]; omega)
  have e1 : copied (arrV (D.2.2 0) n (fun q => .int (ι r i j q))) (arrV (D.2.2 0) n2 (fun q => .int (ι r2 i2 j2 q))) sp dp len = arrV (D.2.2 0) n2 (fun q => .int (va_cpy (ι r i j) (ι r2 i2 j2) t d9 k9 q)) := by
    rw [← c1, ← c2, ← c3]
    exact va_copied (fun z => .int z) _ _ (ι r i j) (ι r2 i2 j2) (by omega)
  rw [e1] at X' step
  have hlt : α r2 i2 j2 < H.size := g5.lt
  obtain ⟨H', hH'⟩ : ∃ H' : Heap, H' = H.setIfInBounds (α r2 i2 j2) (arrV (D.2.2 0) n2 (fun q => .int (va_cpy (ι r i j) (ι r2 i2 j2) t d9 k9 q))) := ⟨_, rfl⟩
  have hheap : ((T.setVm vm').setCell (α r2 i2 j2) (arrV (D.2.2 0) n2 (fun q => .int (va_cpy (ι r i j) (ι r2 i2 j2) t d9 k9 q)))).heap = H' := by rw [hH', ← hT]; rfl
  have hz : H'.size = H.size := by rw [hH']; simp
  have oq : ∀ q : Nat, q ≠ α r2 i2 j2 → H'[q]? = H[q]? := fun q hq => by rw [hH']; simp [Array.getElem?_setIfInBounds, Ne.symm hq]
  have eq : H'[α r2 i2 j2]? = some (arrV (D.2.2 0) n2 (fun q => .int (va_cpy (ι r i j) (ι r2 i2 j2) t d9 k9 q))) := by rw [hH']; simp [Array.getElem?_setIfInBounds, hlt]
  obtain ⟨t9, a1, b1⟩ := k α H' _ ls (hR.put hn2 hz oq upA_o (fun _ _ _ _ _ => rfl) (fun _ _ _ _ _ => rfl) ⟨fun z => absurd z (by omega), fun _ => by
      rw [eq, ha2]
      exact congrArg some (arrV_congr fun q _ => by rw [cont_I (hk2 q), upA_s])⟩ (fun k9 q9 z1 z2 z3 => hR.2.2.1 r2 i2 j2 n2 k9 q9 hn2 z1 z2 z3)) ⟨by rw [hz]; exact hS.1, fun q u1 u2 => by
      rw [oq q (fun z => u2 (by rw [z]; exact g6))]
      exact hS.2.1 q u1 u2, fun q hq => by
      rcases List.mem_append.mp hq with h | h
      · exact hS.2.2 q h
      · obtain ⟨z, -, hz⟩ := List.mem_map.mp h
        rw [← hz]
        exact g6⟩ hl h0 h1 (wfl_t (wfl_t (wfl_t (wfl_t (wfl_t h2))))) _ hheap X'
  exact ⟨t9, step t9 a1, b1⟩
end Am5

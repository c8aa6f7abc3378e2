/-! The law from its entry, by what one call of it does. -/
section ZWLAW
variable {p : Program} {l : Launch} {e : Env} {s : State} {m : MethodId} {args : Array Value} {below : List Frame} {meth : Method} {c : Code} {Q : State → Prop}
variable {OB : Nat → Nat} {D : va_G} {DA : Nat → ClassId} {b Lx : Nat} {xs : Nat → Int32} {Inv : (Nat → Int) → (Nat → Int → Int) → Prop}
theorem zw_law (hx : p.tables.exec = Jvm.exec) (hb : c.code = code) (hml : c.maxLocals = 4) (hX : va_X b Lx xs s s.heap) (hbl : b < s.heap.size) (hL : Lx ≤ 3072) (hOB0 : OB 0 = b) (hD : z_Dy s m args z_TB "StarTalesLaw" D z_cl DA (z_tys DA)) (hKX : z_KX OB s.heap.size s s.heap)
    (hend : ∀ pc H ls, decode code pc = .ok (.ireturn, 1) → W p l e room_1 s m args below meth c H [] 600000 7302250 Q (F0 m pc ls [.int 1])) (hbody : zw_body Lx xs Inv) (hI0 : ∀ g, y0_g g → Inv y0_f0 g)
    {ls : Array Slot} (hls : z_ls 4 ls [.ref b, .int (Int32.ofNat Lx)] [(0, 0)]) : W p l e room_1 s m args below meth c s.heap [] 0 0 Q (F0 m 0 ls []) := by
  refine zy_start (TY := z_TYs) (PHI := z_PH) (PHS := z_PS) (FT := z_FT) (MT := z_MT) (SG := z_sL) (ce := z_eL) (mk := (129, 43489)) (nw := z_nw) (hpc := 18) (tx := 86) (tm := 128) (N := 3072) hx hb hml (by decide) hL hOB0 hD zs_KX_p hKX (z_kSL z_TB (fun _ h => h)) rfl z_phk z_oL hend z_kS (fun T H locs ls x m2 hH => ?_) hls
  intro U hU X
  have hsz : H.size ≤ s.heap.size + 129 := by rw [← hU]; exact X.heapSize
  obtain ⟨A, g, h1, h2, h3, h4, h5, h6, h7⟩ := y0_rep hH hsz
  obtain ⟨⟨-, -, hS⟩, -, ⟨lv, k1, k2, k3, k4, k5, k6⟩, -⟩ := hH
  have hA9 : A 900 = b := (h3 0).trans hOB0
  refine zw_loop hx hb hml hX hbl hL hOB0 hD hKX hend hbody (Lx + 6) 0 (by omega) (by decide) (by decide) y0_f0 g A H locs ls (hI0 g h7) h1 h2 h3 h6 hS ⟨lv, k1, k2, fun j v hj hv => ?_⟩ U hU X
  match j, hj with
  | 0, hj => cases hj; exact ⟨_, by show zv_w A 900 (.ref b); rw [← hA9]; exact zv_w_mk (by decide), k3⟩
  | 1, hj => cases hj; exact ⟨_, by show zv_w A 0 (.ref x); rw [← h4]; exact zv_w_mk (by decide), k4⟩
  | 2, hj => cases hj; exact ⟨_, by show zv_w A 1 (.ref m2); rw [← h5]; exact zv_w_mk (by decide), k5⟩
  | 3, hj => cases hj; exact ⟨_, ⟨0, rfl, rfl⟩, k6⟩
  | n + 4, hj => cases hj
end ZWLAW

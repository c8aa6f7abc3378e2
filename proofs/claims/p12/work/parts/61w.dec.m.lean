/-! 61w.dec, 61x.dec, 61y.dec -/
section
/-! Methods as functions, and that they do what these do. -/
/-! M_readsCompared ()Z -/
-- names: 0 StarTalesModel('arg', 0), 1 (1, 220)(0, 12, 3), 2 (0, 220)(0, 12, 15), 3 (0, 220)(0, 12, 14)
-- fields: f0 = 0.waiting_, f1 = 0.place0_, f2 = 0.length0_, f3 = 0.open_, f4 = 0.fault_, f5 = 0.codeMany_, f6 = 0.number0_; arrays: g0 = 1, g1 = 2, g2 = 3; out: [('ret', None), ('f', 0), ('f', 1), ('f', 3), ('f', 4), ('f', 5), ('f', 6), ('g', 1), ('g', 2)]
abbrev zy_M_readsCompared : zNL := (4, [(0, 12)], [(0, 12, 10, 0), (0, 12, 5, 1), (0, 12, 6, 2), (0, 12, 8, 3), (0, 12, 7, 4), (0, 12, 9, 5), (0, 12, 12, 6)], [(0, 12, 3, 1), (0, 12, 15, 2), (0, 12, 14, 3)], [(1, 1, 220, 0), (2, 0, 220, 1), (3, 0, 220, 2)])
theorem zyw_M_readsCompared : zv_wf zy_M_readsCompared = true := by decide +kernel
theorem zye_M_readsCompared : zv_ek2 zy_M_readsCompared = true := by decide +kernel
def zf_M_readsCompared (f0 : Int) (f1 : Int) (f2 : Int) (f3 : Int) (f4 : Int) (f5 : Int) (f6 : Int) (g0 : (Int → Int)) (g1 : (Int → Int)) (g2 : (Int → Int)) : Option (Int × Int × Int × Int × Int × Int × Int × (Int → Int) × (Int → Int)) := (zf_M_readsSum f0 f1 f2 f3 f4 f5 f6 g0 g1 g2).bind fun r1 => (if r1.1 = 0 then (some (0, r1.2.1, r1.2.2.1, r1.2.2.2.1, r1.2.2.2.2.1, r1.2.2.2.2.2.1, r1.2.2.2.2.2.2.1, r1.2.2.2.2.2.2.2.1, r1.2.2.2.2.2.2.2.2)) else ((zf_M_here r1.2.2.1 f2 g0).bind fun r3 => (if r3 = 60 then ((zf_M_readsSum r1.2.1 (zi_w (r1.2.2.1 + 1)) f2 r1.2.2.2.1 r1.2.2.2.2.1 r1.2.2.2.2.2.1 r1.2.2.2.2.2.2.1 g0 r1.2.2.2.2.2.2.2.1 r1.2.2.2.2.2.2.2.2).bind fun r23 => (if r23.1 = 0 then (some (0, r23.2.1, r23.2.2.1, r23.2.2.2.1, r23.2.2.2.2.1, r23.2.2.2.2.2.1, r23.2.2.2.2.2.2.1, r23.2.2.2.2.2.2.2.1, r23.2.2.2.2.2.2.2.2)) else ((zf_M_notes 7 0 r23.2.2.2.2.2.1 r23.2.2.2.2.2.2.2.2).bind fun r25 => ((zf_M_endsPiece r23.2.1 r25.1 r23.2.2.2.1 r23.2.2.2.2.2.2.2.1 r25.2).bind fun r26 => (some (1, r26.1, r23.2.2.1, r26.2.2.1, r23.2.2.2.2.1, r26.2.1, r23.2.2.2.2.2.2.1, r23.2.2.2.2.2.2.2.1, r26.2.2.2)))))) else ((zf_M_here r1.2.2.1 f2 g0).bind fun r5 => (if r5 = 62 then ((zf_M_readsSum r1.2.1 (zi_w (r1.2.2.1 + 1)) f2 r1.2.2.2.1 r1.2.2.2.2.1 r1.2.2.2.2.2.1 r1.2.2.2.2.2.2.1 g0 r1.2.2.2.2.2.2.2.1 r1.2.2.2.2.2.2.2.2).bind fun r18 => (if r18.1 = 0 then (some (0, r18.2.1, r18.2.2.1, r18.2.2.2.1, r18.2.2.2.2.1, r18.2.2.2.2.2.1, r18.2.2.2.2.2.2.1, r18.2.2.2.2.2.2.2.1, r18.2.2.2.2.2.2.2.2)) else ((zf_M_notes 8 0 r18.2.2.2.2.2.1 r18.2.2.2.2.2.2.2.2).bind fun r20 => ((zf_M_endsPiece r18.2.1 r20.1 r18.2.2.2.1 r18.2.2.2.2.2.2.2.1 r20.2).bind fun r21 => (some (1, r21.1, r18.2.2.1, r21.2.2.1, r18.2.2.2.2.1, r21.2.1, r18.2.2.2.2.2.2.1, r18.2.2.2.2.2.2.2.1, r21.2.2.2)))))) else ((zf_M_here r1.2.2.1 f2 g0).bind fun r7 => (if r7 = 61 then ((zf_M_readsSum r1.2.1 (zi_w (r1.2.2.1 + 1)) f2 r1.2.2.2.1 r1.2.2.2.2.1 r1.2.2.2.2.2.1 r1.2.2.2.2.2.2.1 g0 r1.2.2.2.2.2.2.2.1 r1.2.2.2.2.2.2.2.2).bind fun r13 => (if r13.1 = 0 then (some (0, r13.2.1, r13.2.2.1, r13.2.2.2.1, r13.2.2.2.2.1, r13.2.2.2.2.2.1, r13.2.2.2.2.2.2.1, r13.2.2.2.2.2.2.2.1, r13.2.2.2.2.2.2.2.2)) else ((zf_M_notes 9 0 r13.2.2.2.2.2.1 r13.2.2.2.2.2.2.2.2).bind fun r15 => ((zf_M_endsPiece r13.2.1 r15.1 r13.2.2.2.1 r13.2.2.2.2.2.2.2.1 r15.2).bind fun r16 => (some (1, r16.1, r13.2.2.1, r16.2.2.1, r13.2.2.2.2.1, r16.2.1, r13.2.2.2.2.2.2.1, r13.2.2.2.2.2.2.2.1, r16.2.2.2)))))) else ((zf_M_wrongAt 1 r1.2.2.1 r1.2.2.2.2.1).bind fun r10 => (cond (zi_bo r10.1) (some (r10.1, r1.2.1, r1.2.2.1, r1.2.2.2.1, r10.2, r1.2.2.2.2.2.1, r1.2.2.2.2.2.2.1, r1.2.2.2.2.2.2.2.1, r1.2.2.2.2.2.2.2.2)) none)))))))))
theorem zd232_0 : decode zxm232.2.1 0 = .ok (.aload_n 0, 1) := by decide +kernel
theorem zd232_1 : decode zxm232.2.1 1 = .ok (.invokevirtual 238, 3) := by decide +kernel
theorem zd232_4 : decode zxm232.2.1 4 = .ok (.ifCond .ne 5, 3) := by decide +kernel
theorem zd232_7 : decode zxm232.2.1 7 = .ok (.iconst 0, 1) := by decide +kernel
theorem zd232_8 : decode zxm232.2.1 8 = .ok (.ireturn, 1) := by decide +kernel
theorem zd232_9 : decode zxm232.2.1 9 = .ok (.aload_n 0, 1) := by decide +kernel
theorem zd232_10 : decode zxm232.2.1 10 = .ok (.invokevirtual 182, 3) := by decide +kernel
theorem zd232_13 : decode zxm232.2.1 13 = .ok (.bipush 60, 2) := by decide +kernel
theorem zd232_15 : decode zxm232.2.1 15 = .ok (.if_icmp .ne 8, 3) := by decide +kernel
theorem zd232_18 : decode zxm232.2.1 18 = .ok (.bipush 7, 2) := by decide +kernel
theorem zd232_20 : decode zxm232.2.1 20 = .ok (.goto 32, 3) := by decide +kernel
theorem zd232_23 : decode zxm232.2.1 23 = .ok (.aload_n 0, 1) := by decide +kernel
theorem zd232_24 : decode zxm232.2.1 24 = .ok (.invokevirtual 182, 3) := by decide +kernel
theorem zd232_27 : decode zxm232.2.1 27 = .ok (.bipush 62, 2) := by decide +kernel
theorem zd232_29 : decode zxm232.2.1 29 = .ok (.if_icmp .ne 8, 3) := by decide +kernel
theorem zd232_32 : decode zxm232.2.1 32 = .ok (.bipush 8, 2) := by decide +kernel
theorem zd232_34 : decode zxm232.2.1 34 = .ok (.goto 18, 3) := by decide +kernel
theorem zd232_37 : decode zxm232.2.1 37 = .ok (.aload_n 0, 1) := by decide +kernel
theorem zd232_38 : decode zxm232.2.1 38 = .ok (.invokevirtual 182, 3) := by decide +kernel
theorem zd232_41 : decode zxm232.2.1 41 = .ok (.bipush 61, 2) := by decide +kernel
theorem zd232_43 : decode zxm232.2.1 43 = .ok (.if_icmp .ne 8, 3) := by decide +kernel
theorem zd232_46 : decode zxm232.2.1 46 = .ok (.bipush 9, 2) := by decide +kernel
theorem zd232_48 : decode zxm232.2.1 48 = .ok (.goto 4, 3) := by decide +kernel
theorem zd232_51 : decode zxm232.2.1 51 = .ok (.iconst (-1), 1) := by decide +kernel
theorem zd232_52 : decode zxm232.2.1 52 = .ok (.istore_n 1, 1) := by decide +kernel
theorem zd232_53 : decode zxm232.2.1 53 = .ok (.iload_n 1, 1) := by decide +kernel
theorem zd232_54 : decode zxm232.2.1 54 = .ok (.iconst (-1), 1) := by decide +kernel
theorem zd232_55 : decode zxm232.2.1 55 = .ok (.if_icmp .ne 13, 3) := by decide +kernel
theorem zd232_58 : decode zxm232.2.1 58 = .ok (.aload_n 0, 1) := by decide +kernel
theorem zd232_59 : decode zxm232.2.1 59 = .ok (.iconst 1, 1) := by decide +kernel
theorem zd232_60 : decode zxm232.2.1 60 = .ok (.aload_n 0, 1) := by decide +kernel
theorem zd232_61 : decode zxm232.2.1 61 = .ok (.getfield 176, 3) := by decide +kernel
theorem zd232_64 : decode zxm232.2.1 64 = .ok (.invokevirtual 189, 3) := by decide +kernel
theorem zd232_67 : decode zxm232.2.1 67 = .ok (.ireturn, 1) := by decide +kernel
theorem zd232_68 : decode zxm232.2.1 68 = .ok (.aload_n 0, 1) := by decide +kernel
theorem zd232_69 : decode zxm232.2.1 69 = .ok (.aload_n 0, 1) := by decide +kernel
theorem zd232_70 : decode zxm232.2.1 70 = .ok (.getfield 176, 3) := by decide +kernel
theorem zd232_73 : decode zxm232.2.1 73 = .ok (.iconst 1, 1) := by decide +kernel
theorem zd232_74 : decode zxm232.2.1 74 = .ok (.iadd, 1) := by decide +kernel
theorem zd232_75 : decode zxm232.2.1 75 = .ok (.putfield 176, 3) := by decide +kernel
theorem zd232_78 : decode zxm232.2.1 78 = .ok (.aload_n 0, 1) := by decide +kernel
theorem zd232_79 : decode zxm232.2.1 79 = .ok (.invokevirtual 238, 3) := by decide +kernel
theorem zd232_82 : decode zxm232.2.1 82 = .ok (.ifCond .ne 5, 3) := by decide +kernel
theorem zd232_85 : decode zxm232.2.1 85 = .ok (.iconst 0, 1) := by decide +kernel
theorem zd232_86 : decode zxm232.2.1 86 = .ok (.ireturn, 1) := by decide +kernel
theorem zd232_87 : decode zxm232.2.1 87 = .ok (.aload_n 0, 1) := by decide +kernel
theorem zd232_88 : decode zxm232.2.1 88 = .ok (.iload_n 1, 1) := by decide +kernel
theorem zd232_89 : decode zxm232.2.1 89 = .ok (.iconst 0, 1) := by decide +kernel
theorem zd232_90 : decode zxm232.2.1 90 = .ok (.invokevirtual 212, 3) := by decide +kernel
theorem zd232_93 : decode zxm232.2.1 93 = .ok (.aload_n 0, 1) := by decide +kernel
theorem zd232_94 : decode zxm232.2.1 94 = .ok (.invokevirtual 241, 3) := by decide +kernel
theorem zd232_97 : decode zxm232.2.1 97 = .ok (.iconst 1, 1) := by decide +kernel
theorem zd232_98 : decode zxm232.2.1 98 = .ok (.ireturn, 1) := by decide +kernel
theorem zt_M_readsCompared {f0 : Int} {f1 : Int} {f2 : Int} {f3 : Int} {f4 : Int} {f5 : Int} {f6 : Int} {g0 : (Int → Int)} {g1 : (Int → Int)} {g2 : (Int → Int)} {o : Int × Int × Int × Int × Int × Int × Int × (Int → Int) × (Int → Int)} (h : zf_M_readsCompared f0 f1 f2 f3 f4 f5 f6 g0 g1 g2 = some o) : zv_Fn z_TB z_cl z_KX zy_M_readsCompared zxm232 (5, 300) [.inr 0] [.inl f0, .inl f1, .inl f2, .inl f3, .inl f4, .inl f5, .inl f6] [g0, g1, g2] (some o.1) [.inl o.2.1, .inl o.2.2.1, .inl f2, .inl o.2.2.2.1, .inl o.2.2.2.2.1, .inl o.2.2.2.2.2.1, .inl o.2.2.2.2.2.2.1] [g0, o.2.2.2.2.2.2.2.1, o.2.2.2.2.2.2.2.2] := zv_meth (K := (z_KF13, z_KC13, z_KL13, z_KT13, [], [], [], none)) (FT := z_FT) (MT := z_MT) (n := 1) zxp232 (z_ks13 _ (fun _ h => List.mem_cons_of_mem _ h) _ _ _ _ (fun j r h _ => by cases h)) (fun _ _ => zs_KX_p) zyw_M_readsCompared (fun va F G h => by obtain ⟨rfl, _⟩ := h; rfl) (fun va F G h => by obtain ⟨rfl, _⟩ := h; rfl) rfl fun good va F G hB hret hvret hP => by
  obtain ⟨rfl, rfl, rfl⟩ := hP
  unfold zf_M_readsCompared at h
  refine zv_ald hB zd232_0 rfl rfl rfl ?_
  obtain ⟨r1, hr1, h⟩ := zi_bind h
  refine zv_cv hB (zv_emq (va2 := [.inr 0]) (F := [.inl f0, .inl f1, .inl f2, .inl f3, .inl f4, .inl f5, .inl f6]) (F' := [.inl r1.2.1, .inl r1.2.2.1, .inl f2, .inl r1.2.2.2.1, .inl r1.2.2.2.2.1, .inl r1.2.2.2.2.2.1, .inl r1.2.2.2.2.2.2.1]) (G := [g0, g1, g2]) (G' := [g0, r1.2.2.2.2.2.2.2.1, r1.2.2.2.2.2.2.2.2]) (ρ := [0, 1, 2, 3]) (φ := [0, 1, 2, 3, 4, 5, 6]) (ψ := [0, 1, 2]) [some 0, some 1, some 2, some 3, some 4, some 5, some 6] [some 0, some 1, some 2] zyw_M_readsSum zyw_M_readsCompared zye_M_readsCompared (by decide +kernel) (zt_M_readsSum hr1) ⟨⟨_, rfl, fun _ => rfl⟩, ⟨_, rfl, fun _ => rfl⟩, ⟨_, rfl, fun _ => rfl⟩, ⟨_, rfl, fun _ => rfl⟩, ⟨_, rfl, fun _ => rfl⟩, ⟨_, rfl, fun _ => rfl⟩, ⟨_, rfl, fun _ => rfl⟩, trivial⟩ ⟨rfl, rfl, rfl, trivial⟩ rfl rfl rfl rfl rfl rfl rfl) zd232_1 zxt220 rfl (by decide) (by decide) rfl ?_
  refine zv_zne hB zd232_4 rfl (fun hc2 => ?_) (fun hc2 => ?_)
  · rw [if_neg hc2] at h
    refine zv_ald hB zd232_9 rfl rfl rfl ?_
    obtain ⟨r3, hr3, h⟩ := zi_bind h
    refine zv_cv hB (zv_emq (va2 := [.inr 0]) (F := [.inl r1.2.1, .inl r1.2.2.1, .inl f2, .inl r1.2.2.2.1, .inl r1.2.2.2.2.1, .inl r1.2.2.2.2.2.1, .inl r1.2.2.2.2.2.2.1]) (F' := [.inl r1.2.1, .inl r1.2.2.1, .inl f2, .inl r1.2.2.2.1, .inl r1.2.2.2.2.1, .inl r1.2.2.2.2.2.1, .inl r1.2.2.2.2.2.2.1]) (G := [g0, r1.2.2.2.2.2.2.2.1, r1.2.2.2.2.2.2.2.2]) (G' := [g0, r1.2.2.2.2.2.2.2.1, r1.2.2.2.2.2.2.2.2]) (ρ := [0, 1]) (φ := [1, 2]) (ψ := [0]) [none, some 0, some 1, none, none, none, none] [some 0, none, none] zyw_M_here zyw_M_readsCompared zye_M_readsCompared (by decide +kernel) (zt_M_here hr3) ⟨⟨_, rfl, fun _ => rfl⟩, ⟨_, rfl, fun _ => rfl⟩, trivial⟩ ⟨rfl, trivial⟩ rfl rfl rfl rfl rfl rfl rfl) zd232_10 zxt217 rfl (by decide) (by decide) rfl ?_
    refine zv_con hB zd232_13 rfl ?_
    refine zv_cne hB zd232_15 rfl (fun hc4 => ?_) (fun hc4 => ?_)
    · rw [if_neg hc4] at h
      refine zv_ald hB zd232_23 rfl rfl rfl ?_
      obtain ⟨r5, hr5, h⟩ := zi_bind h
      refine zv_cv hB (zv_emq (va2 := [.inr 0]) (F := [.inl r1.2.1, .inl r1.2.2.1, .inl f2, .inl r1.2.2.2.1, .inl r1.2.2.2.2.1, .inl r1.2.2.2.2.2.1, .inl r1.2.2.2.2.2.2.1]) (F' := [.inl r1.2.1, .inl r1.2.2.1, .inl f2, .inl r1.2.2.2.1, .inl r1.2.2.2.2.1, .inl r1.2.2.2.2.2.1, .inl r1.2.2.2.2.2.2.1]) (G := [g0, r1.2.2.2.2.2.2.2.1, r1.2.2.2.2.2.2.2.2]) (G' := [g0, r1.2.2.2.2.2.2.2.1, r1.2.2.2.2.2.2.2.2]) (ρ := [0, 1]) (φ := [1, 2]) (ψ := [0]) [none, some 0, some 1, none, none, none, none] [some 0, none, none] zyw_M_here zyw_M_readsCompared zye_M_readsCompared (by decide +kernel) (zt_M_here hr5) ⟨⟨_, rfl, fun _ => rfl⟩, ⟨_, rfl, fun _ => rfl⟩, trivial⟩ ⟨rfl, trivial⟩ rfl rfl rfl rfl rfl rfl rfl) zd232_24 zxt217 rfl (by decide) (by decide) rfl ?_
      refine zv_con hB zd232_27 rfl ?_
      refine zv_cne hB zd232_29 rfl (fun hc6 => ?_) (fun hc6 => ?_)
      · rw [if_neg hc6] at h
        refine zv_ald hB zd232_37 rfl rfl rfl ?_
        obtain ⟨r7, hr7, h⟩ := zi_bind h
        refine zv_cv hB (zv_emq (va2 := [.inr 0]) (F := [.inl r1.2.1, .inl r1.2.2.1, .inl f2, .inl r1.2.2.2.1, .inl r1.2.2.2.2.1, .inl r1.2.2.2.2.2.1, .inl r1.2.2.2.2.2.2.1]) (F' := [.inl r1.2.1, .inl r1.2.2.1, .inl f2, .inl r1.2.2.2.1, .inl r1.2.2.2.2.1, .inl r1.2.2.2.2.2.1, .inl r1.2.2.2.2.2.2.1]) (G := [g0, r1.2.2.2.2.2.2.2.1, r1.2.2.2.2.2.2.2.2]) (G' := [g0, r1.2.2.2.2.2.2.2.1, r1.2.2.2.2.2.2.2.2]) (ρ := [0, 1]) (φ := [1, 2]) (ψ := [0]) [none, some 0, some 1, none, none, none, none] [some 0, none, none] zyw_M_here zyw_M_readsCompared zye_M_readsCompared (by decide +kernel) (zt_M_here hr7) ⟨⟨_, rfl, fun _ => rfl⟩, ⟨_, rfl, fun _ => rfl⟩, trivial⟩ ⟨rfl, trivial⟩ rfl rfl rfl rfl rfl rfl rfl) zd232_38 zxt217 rfl (by decide) (by decide) rfl ?_
        refine zv_con hB zd232_41 rfl ?_
        refine zv_cne hB zd232_43 rfl (fun hc8 => ?_) (fun hc8 => ?_)
        · rw [if_neg hc8] at h
          refine zv_con hB zd232_51 rfl ?_
          refine zv_ist hB zd232_52 rfl rfl rfl ?_
          refine zv_ild hB zd232_53 rfl rfl ?_
          refine zv_con hB zd232_54 rfl ?_
          refine zv_cne hB zd232_55 rfl (fun hc => absurd hc (by decide)) (fun _ => ?_)
          refine zv_ald hB zd232_58 rfl rfl rfl ?_
          refine zv_con hB zd232_59 rfl ?_
          refine zv_ald hB zd232_60 rfl rfl rfl ?_
          refine zv_getf hB zd232_61 rfl rfl (fun _ _ => ?_)
          obtain ⟨r10, hr10, h⟩ := zi_bind h
          refine zv_cv hB (zv_emq (va2 := [.inr 0, .inl 1, .inl r1.2.2.1]) (F := [.inl r1.2.1, .inl r1.2.2.1, .inl f2, .inl r1.2.2.2.1, .inl r1.2.2.2.2.1, .inl r1.2.2.2.2.2.1, .inl r1.2.2.2.2.2.2.1]) (F' := [.inl r1.2.1, .inl r1.2.2.1, .inl f2, .inl r1.2.2.2.1, .inl r10.2, .inl r1.2.2.2.2.2.1, .inl r1.2.2.2.2.2.2.1]) (G := [g0, r1.2.2.2.2.2.2.2.1, r1.2.2.2.2.2.2.2.2]) (G' := [g0, r1.2.2.2.2.2.2.2.1, r1.2.2.2.2.2.2.2.2]) (ρ := [0]) (φ := [4]) (ψ := []) [none, none, none, none, some 0, none, none] [none, none, none] zyw_M_wrongAt zyw_M_readsCompared zye_M_readsCompared (by decide +kernel) (zt_M_wrongAt hr10) ⟨⟨_, rfl, fun _ => rfl⟩, trivial⟩ trivial rfl rfl rfl rfl rfl rfl rfl) zd232_64 zxt219 rfl (by decide) (by decide) rfl ?_
          obtain ⟨c11, h⟩ := zi_if h
          have hw := Option.some.inj h
          subst hw
          exact hret _ _ _ _ _ zd232_67 (zi_bo_ok c11) ⟨rfl, rfl, rfl⟩
        · rw [if_pos hc8] at h
          refine zv_con hB zd232_46 rfl ?_
          refine zv_goto hB zd232_48 rfl ?_
          refine zv_ist hB zd232_52 rfl rfl rfl ?_
          refine zv_ild hB zd232_53 rfl rfl ?_
          refine zv_con hB zd232_54 rfl ?_
          refine zv_cne hB zd232_55 rfl (fun _ => ?_) (fun hc => absurd hc (by decide))
          refine zv_ald hB zd232_68 rfl rfl rfl ?_
          refine zv_ald hB zd232_69 rfl rfl rfl ?_
          refine zv_getf hB zd232_70 rfl rfl (fun _ _ => ?_)
          refine zv_con hB zd232_73 rfl ?_
          refine zv_addw hB zd232_74 ?_
          refine zv_putf hB zd232_75 rfl rfl (fun h => by cases h) rfl ?_
          refine zv_ald hB zd232_78 rfl rfl rfl ?_
          obtain ⟨r13, hr13, h⟩ := zi_bind h
          refine zv_cv hB (zv_emq (va2 := [.inr 0]) (F := [.inl r1.2.1, .inl (zi_w (r1.2.2.1 + 1)), .inl f2, .inl r1.2.2.2.1, .inl r1.2.2.2.2.1, .inl r1.2.2.2.2.2.1, .inl r1.2.2.2.2.2.2.1]) (F' := [.inl r13.2.1, .inl r13.2.2.1, .inl f2, .inl r13.2.2.2.1, .inl r13.2.2.2.2.1, .inl r13.2.2.2.2.2.1, .inl r13.2.2.2.2.2.2.1]) (G := [g0, r1.2.2.2.2.2.2.2.1, r1.2.2.2.2.2.2.2.2]) (G' := [g0, r13.2.2.2.2.2.2.2.1, r13.2.2.2.2.2.2.2.2]) (ρ := [0, 1, 2, 3]) (φ := [0, 1, 2, 3, 4, 5, 6]) (ψ := [0, 1, 2]) [some 0, some 1, some 2, some 3, some 4, some 5, some 6] [some 0, some 1, some 2] zyw_M_readsSum zyw_M_readsCompared zye_M_readsCompared (by decide +kernel) (zt_M_readsSum hr13) ⟨⟨_, rfl, fun _ => rfl⟩, ⟨_, rfl, fun _ => rfl⟩, ⟨_, rfl, fun _ => rfl⟩, ⟨_, rfl, fun _ => rfl⟩, ⟨_, rfl, fun _ => rfl⟩, ⟨_, rfl, fun _ => rfl⟩, ⟨_, rfl, fun _ => rfl⟩, trivial⟩ ⟨rfl, rfl, rfl, trivial⟩ rfl rfl rfl rfl rfl rfl rfl) zd232_79 zxt220 rfl (by decide) (by decide) rfl ?_
          refine zv_zne hB zd232_82 rfl (fun hc14 => ?_) (fun hc14 => ?_)
          · rw [if_neg hc14] at h
            refine zv_ald hB zd232_87 rfl rfl rfl ?_
            refine zv_ild hB zd232_88 rfl rfl ?_
            refine zv_con hB zd232_89 rfl ?_
            obtain ⟨r15, hr15, h⟩ := zi_bind h
            refine zv_cv hB (zv_emq (va2 := [.inr 0, .inl 9, .inl 0]) (F := [.inl r13.2.1, .inl r13.2.2.1, .inl f2, .inl r13.2.2.2.1, .inl r13.2.2.2.2.1, .inl r13.2.2.2.2.2.1, .inl r13.2.2.2.2.2.2.1]) (F' := [.inl r13.2.1, .inl r13.2.2.1, .inl f2, .inl r13.2.2.2.1, .inl r13.2.2.2.2.1, .inl r15.1, .inl r13.2.2.2.2.2.2.1]) (G := [g0, r13.2.2.2.2.2.2.2.1, r13.2.2.2.2.2.2.2.2]) (G' := [g0, r13.2.2.2.2.2.2.2.1, r15.2]) (ρ := [0, 3]) (φ := [5]) (ψ := [2]) [none, none, none, none, none, some 0, none] [none, none, some 0] zyw_M_notes zyw_M_readsCompared zye_M_readsCompared (by decide +kernel) (zt_M_notes hr15) ⟨⟨_, rfl, fun _ => rfl⟩, trivial⟩ ⟨rfl, trivial⟩ rfl rfl rfl rfl rfl rfl rfl) zd232_90 zxt225 rfl (by decide) (by decide) rfl ?_
            refine zv_ald hB zd232_93 rfl rfl rfl ?_
            obtain ⟨r16, hr16, h⟩ := zi_bind h
            refine zv_cv hB (zv_emq (va2 := [.inr 0]) (F := [.inl r13.2.1, .inl r13.2.2.1, .inl f2, .inl r13.2.2.2.1, .inl r13.2.2.2.2.1, .inl r15.1, .inl r13.2.2.2.2.2.2.1]) (F' := [.inl r16.1, .inl r13.2.2.1, .inl f2, .inl r16.2.2.1, .inl r13.2.2.2.2.1, .inl r16.2.1, .inl r13.2.2.2.2.2.2.1]) (G := [g0, r13.2.2.2.2.2.2.2.1, r15.2]) (G' := [g0, r13.2.2.2.2.2.2.2.1, r16.2.2.2]) (ρ := [0, 2, 3]) (φ := [0, 5, 3]) (ψ := [1, 2]) [some 0, none, none, some 2, none, some 1, none] [none, some 0, some 1] zyw_M_endsPiece zyw_M_readsCompared zye_M_readsCompared (by decide +kernel) (zt_M_endsPiece hr16) ⟨⟨_, rfl, fun _ => rfl⟩, ⟨_, rfl, fun _ => rfl⟩, ⟨_, rfl, fun _ => rfl⟩, trivial⟩ ⟨rfl, rfl, trivial⟩ rfl rfl rfl rfl rfl rfl rfl) zd232_94 zxt233 rfl (by decide) (by decide) rfl ?_
            refine zv_con hB zd232_97 rfl ?_
            have hw := Option.some.inj h
            subst hw
            exact hret _ _ _ _ _ zd232_98 (by constructor <;> decide) ⟨rfl, rfl, rfl⟩
          · rw [if_pos hc14] at h
            refine zv_con hB zd232_85 rfl ?_
            have hw := Option.some.inj h
            subst hw
            exact hret _ _ _ _ _ zd232_86 (by constructor <;> decide) ⟨rfl, rfl, rfl⟩
      · rw [if_pos hc6] at h
        refine zv_con hB zd232_32 rfl ?_
        refine zv_goto hB zd232_34 rfl ?_
        refine zv_ist hB zd232_52 rfl rfl rfl ?_
        refine zv_ild hB zd232_53 rfl rfl ?_
        refine zv_con hB zd232_54 rfl ?_
        refine zv_cne hB zd232_55 rfl (fun _ => ?_) (fun hc => absurd hc (by decide))
        refine zv_ald hB zd232_68 rfl rfl rfl ?_
        refine zv_ald hB zd232_69 rfl rfl rfl ?_
        refine zv_getf hB zd232_70 rfl rfl (fun _ _ => ?_)
        refine zv_con hB zd232_73 rfl ?_
        refine zv_addw hB zd232_74 ?_
        refine zv_putf hB zd232_75 rfl rfl (fun h => by cases h) rfl ?_
        refine zv_ald hB zd232_78 rfl rfl rfl ?_
        obtain ⟨r18, hr18, h⟩ := zi_bind h
        refine zv_cv hB (zv_emq (va2 := [.inr 0]) (F := [.inl r1.2.1, .inl (zi_w (r1.2.2.1 + 1)), .inl f2, .inl r1.2.2.2.1, .inl r1.2.2.2.2.1, .inl r1.2.2.2.2.2.1, .inl r1.2.2.2.2.2.2.1]) (F' := [.inl r18.2.1, .inl r18.2.2.1, .inl f2, .inl r18.2.2.2.1, .inl r18.2.2.2.2.1, .inl r18.2.2.2.2.2.1, .inl r18.2.2.2.2.2.2.1]) (G := [g0, r1.2.2.2.2.2.2.2.1, r1.2.2.2.2.2.2.2.2]) (G' := [g0, r18.2.2.2.2.2.2.2.1, r18.2.2.2.2.2.2.2.2]) (ρ := [0, 1, 2, 3]) (φ := [0, 1, 2, 3, 4, 5, 6]) (ψ := [0, 1, 2]) [some 0, some 1, some 2, some 3, some 4, some 5, some 6] [some 0, some 1, some 2] zyw_M_readsSum zyw_M_readsCompared zye_M_readsCompared (by decide +kernel) (zt_M_readsSum hr18) ⟨⟨_, rfl, fun _ => rfl⟩, ⟨_, rfl, fun _ => rfl⟩, ⟨_, rfl, fun _ => rfl⟩, ⟨_, rfl, fun _ => rfl⟩, ⟨_, rfl, fun _ => rfl⟩, ⟨_, rfl, fun _ => rfl⟩, ⟨_, rfl, fun _ => rfl⟩, trivial⟩ ⟨rfl, rfl, rfl, trivial⟩ rfl rfl rfl rfl rfl rfl rfl) zd232_79 zxt220 rfl (by decide) (by decide) rfl ?_
        refine zv_zne hB zd232_82 rfl (fun hc19 => ?_) (fun hc19 => ?_)
        · rw [if_neg hc19] at h
          refine zv_ald hB zd232_87 rfl rfl rfl ?_
          refine zv_ild hB zd232_88 rfl rfl ?_
          refine zv_con hB zd232_89 rfl ?_
          obtain ⟨r20, hr20, h⟩ := zi_bind h
          refine zv_cv hB (zv_emq (va2 := [.inr 0, .inl 8, .inl 0]) (F := [.inl r18.2.1, .inl r18.2.2.1, .inl f2, .inl r18.2.2.2.1, .inl r18.2.2.2.2.1, .inl r18.2.2.2.2.2.1, .inl r18.2.2.2.2.2.2.1]) (F' := [.inl r18.2.1, .inl r18.2.2.1, .inl f2, .inl r18.2.2.2.1, .inl r18.2.2.2.2.1, .inl r20.1, .inl r18.2.2.2.2.2.2.1]) (G := [g0, r18.2.2.2.2.2.2.2.1, r18.2.2.2.2.2.2.2.2]) (G' := [g0, r18.2.2.2.2.2.2.2.1, r20.2]) (ρ := [0, 3]) (φ := [5]) (ψ := [2]) [none, none, none, none, none, some 0, none] [none, none, some 0] zyw_M_notes zyw_M_readsCompared zye_M_readsCompared (by decide +kernel) (zt_M_notes hr20) ⟨⟨_, rfl, fun _ => rfl⟩, trivial⟩ ⟨rfl, trivial⟩ rfl rfl rfl rfl rfl rfl rfl) zd232_90 zxt225 rfl (by decide) (by decide) rfl ?_
          refine zv_ald hB zd232_93 rfl rfl rfl ?_
          obtain ⟨r21, hr21, h⟩ := zi_bind h
          refine zv_cv hB (zv_emq (va2 := [.inr 0]) (F := [.inl r18.2.1, .inl r18.2.2.1, .inl f2, .inl r18.2.2.2.1, .inl r18.2.2.2.2.1, .inl r20.1, .inl r18.2.2.2.2.2.2.1]) (F' := [.inl r21.1, .inl r18.2.2.1, .inl f2, .inl r21.2.2.1, .inl r18.2.2.2.2.1, .inl r21.2.1, .inl r18.2.2.2.2.2.2.1]) (G := [g0, r18.2.2.2.2.2.2.2.1, r20.2]) (G' := [g0, r18.2.2.2.2.2.2.2.1, r21.2.2.2]) (ρ := [0, 2, 3]) (φ := [0, 5, 3]) (ψ := [1, 2]) [some 0, none, none, some 2, none, some 1, none] [none, some 0, some 1] zyw_M_endsPiece zyw_M_readsCompared zye_M_readsCompared (by decide +kernel) (zt_M_endsPiece hr21) ⟨⟨_, rfl, fun _ => rfl⟩, ⟨_, rfl, fun _ => rfl⟩, ⟨_, rfl, fun _ => rfl⟩, trivial⟩ ⟨rfl, rfl, trivial⟩ rfl rfl rfl rfl rfl rfl rfl) zd232_94 zxt233 rfl (by decide) (by decide) rfl ?_
          refine zv_con hB zd232_97 rfl ?_
          have hw := Option.some.inj h
          subst hw
          exact hret _ _ _ _ _ zd232_98 (by constructor <;> decide) ⟨rfl, rfl, rfl⟩
        · rw [if_pos hc19] at h
          refine zv_con hB zd232_85 rfl ?_
          have hw := Option.some.inj h
          subst hw
          exact hret _ _ _ _ _ zd232_86 (by constructor <;> decide) ⟨rfl, rfl, rfl⟩
    · rw [if_pos hc4] at h
      refine zv_con hB zd232_18 rfl ?_
      refine zv_goto hB zd232_20 rfl ?_
      refine zv_ist hB zd232_52 rfl rfl rfl ?_
      refine zv_ild hB zd232_53 rfl rfl ?_
      refine zv_con hB zd232_54 rfl ?_
      refine zv_cne hB zd232_55 rfl (fun _ => ?_) (fun hc => absurd hc (by decide))
      refine zv_ald hB zd232_68 rfl rfl rfl ?_
      refine zv_ald hB zd232_69 rfl rfl rfl ?_
      refine zv_getf hB zd232_70 rfl rfl (fun _ _ => ?_)
      refine zv_con hB zd232_73 rfl ?_
      refine zv_addw hB zd232_74 ?_
      refine zv_putf hB zd232_75 rfl rfl (fun h => by cases h) rfl ?_
      refine zv_ald hB zd232_78 rfl rfl rfl ?_
      obtain ⟨r23, hr23, h⟩ := zi_bind h
      refine zv_cv hB (zv_emq (va2 := [.inr 0]) (F := [.inl r1.2.1, .inl (zi_w (r1.2.2.1 + 1)), .inl f2, .inl r1.2.2.2.1, .inl r1.2.2.2.2.1, .inl r1.2.2.2.2.2.1, .inl r1.2.2.2.2.2.2.1]) (F' := [.inl r23.2.1, .inl r23.2.2.1, .inl f2, .inl r23.2.2.2.1, .inl r23.2.2.2.2.1, .inl r23.2.2.2.2.2.1, .inl r23.2.2.2.2.2.2.1]) (G := [g0, r1.2.2.2.2.2.2.2.1, r1.2.2.2.2.2.2.2.2]) (G' := [g0, r23.2.2.2.2.2.2.2.1, r23.2.2.2.2.2.2.2.2]) (ρ := [0, 1, 2, 3]) (φ := [0, 1, 2, 3, 4, 5, 6]) (ψ := [0, 1, 2]) [some 0, some 1, some 2, some 3, some 4, some 5, some 6] [some 0, some 1, some 2] zyw_M_readsSum zyw_M_readsCompared zye_M_readsCompared (by decide +kernel) (zt_M_readsSum hr23) ⟨⟨_, rfl, fun _ => rfl⟩, ⟨_, rfl, fun _ => rfl⟩, ⟨_, rfl, fun _ => rfl⟩, ⟨_, rfl, fun _ => rfl⟩, ⟨_, rfl, fun _ => rfl⟩, ⟨_, rfl, fun _ => rfl⟩, ⟨_, rfl, fun _ => rfl⟩, trivial⟩ ⟨rfl, rfl, rfl, trivial⟩ rfl rfl rfl rfl rfl rfl rfl) zd232_79 zxt220 rfl (by decide) (by decide) rfl ?_
      refine zv_zne hB zd232_82 rfl (fun hc24 => ?_) (fun hc24 => ?_)
      · rw [if_neg hc24] at h
        refine zv_ald hB zd232_87 rfl rfl rfl ?_
        refine zv_ild hB zd232_88 rfl rfl ?_
        refine zv_con hB zd232_89 rfl ?_
        obtain ⟨r25, hr25, h⟩ := zi_bind h
        refine zv_cv hB (zv_emq (va2 := [.inr 0, .inl 7, .inl 0]) (F := [.inl r23.2.1, .inl r23.2.2.1, .inl f2, .inl r23.2.2.2.1, .inl r23.2.2.2.2.1, .inl r23.2.2.2.2.2.1, .inl r23.2.2.2.2.2.2.1]) (F' := [.inl r23.2.1, .inl r23.2.2.1, .inl f2, .inl r23.2.2.2.1, .inl r23.2.2.2.2.1, .inl r25.1, .inl r23.2.2.2.2.2.2.1]) (G := [g0, r23.2.2.2.2.2.2.2.1, r23.2.2.2.2.2.2.2.2]) (G' := [g0, r23.2.2.2.2.2.2.2.1, r25.2]) (ρ := [0, 3]) (φ := [5]) (ψ := [2]) [none, none, none, none, none, some 0, none] [none, none, some 0] zyw_M_notes zyw_M_readsCompared zye_M_readsCompared (by decide +kernel) (zt_M_notes hr25) ⟨⟨_, rfl, fun _ => rfl⟩, trivial⟩ ⟨rfl, trivial⟩ rfl rfl rfl rfl rfl rfl rfl) zd232_90 zxt225 rfl (by decide) (by decide) rfl ?_
        refine zv_ald hB zd232_93 rfl rfl rfl ?_
        obtain ⟨r26, hr26, h⟩ := zi_bind h
        refine zv_cv hB (zv_emq (va2 := [.inr 0]) (F := [.inl r23.2.1, .inl r23.2.2.1, .inl f2, .inl r23.2.2.2.1, .inl r23.2.2.2.2.1, .inl r25.1, .inl r23.2.2.2.2.2.2.1]) (F' := [.inl r26.1, .inl r23.2.2.1, .inl f2, .inl r26.2.2.1, .inl r23.2.2.2.2.1, .inl r26.2.1, .inl r23.2.2.2.2.2.2.1]) (G := [g0, r23.2.2.2.2.2.2.2.1, r25.2]) (G' := [g0, r23.2.2.2.2.2.2.2.1, r26.2.2.2]) (ρ := [0, 2, 3]) (φ := [0, 5, 3]) (ψ := [1, 2]) [some 0, none, none, some 2, none, some 1, none] [none, some 0, some 1] zyw_M_endsPiece zyw_M_readsCompared zye_M_readsCompared (by decide +kernel) (zt_M_endsPiece hr26) ⟨⟨_, rfl, fun _ => rfl⟩, ⟨_, rfl, fun _ => rfl⟩, ⟨_, rfl, fun _ => rfl⟩, trivial⟩ ⟨rfl, rfl, trivial⟩ rfl rfl rfl rfl rfl rfl rfl) zd232_94 zxt233 rfl (by decide) (by decide) rfl ?_
        refine zv_con hB zd232_97 rfl ?_
        have hw := Option.some.inj h
        subst hw
        exact hret _ _ _ _ _ zd232_98 (by constructor <;> decide) ⟨rfl, rfl, rfl⟩
      · rw [if_pos hc24] at h
        refine zv_con hB zd232_85 rfl ?_
        have hw := Option.some.inj h
        subst hw
        exact hret _ _ _ _ _ zd232_86 (by constructor <;> decide) ⟨rfl, rfl, rfl⟩
  · rw [if_pos hc2] at h
    refine zv_con hB zd232_7 rfl ?_
    have hw := Option.some.inj h
    subst hw
    exact hret _ _ _ _ _ zd232_8 (by constructor <;> decide) ⟨rfl, rfl, rfl⟩
/-! M_lands (Z)V -/
-- names: 0 StarTalesModel('arg', 0), 1 (0, 220)(0, 12, 15), 2 (0, 220)(0, 12, 14)
-- fields: f0 = 0.waiting_, f1 = 0.codeMany_; arrays: g0 = 1, g1 = 2; out: [('f', 0), ('g', 1)]
abbrev zy_M_lands : zNL := (3, [(0, 12)], [(0, 12, 10, 0), (0, 12, 9, 1)], [(0, 12, 15, 1), (0, 12, 14, 2)], [(1, 0, 220, 0), (2, 0, 220, 1)])
theorem zyw_M_lands : zv_wf zy_M_lands = true := by decide +kernel
theorem zye_M_lands : zv_ek2 zy_M_lands = true := by decide +kernel
def zf_M_lands_l0_b (x1 : Int) (f1 : Int) (g0 : (Int → Int)) (rec : Int → (Int → Int) → Option (Int × (Int → Int))) (f0 : Int) (g1 : (Int → Int)) : Option (Int × (Int → Int)) := (zf_M_waitTop f0 g0).bind fun r1 => (if r1 = 11 then (cond (zi_ix (zi_w (f0 - 1)) 220) (cond (zi_ix (zi_rem (g0 (zi_w (f0 - 1))) 1048576) 220) (rec (zi_w (f0 - 1)) (zv_up g1 (zi_rem (g0 (zi_w (f0 - 1))) 1048576) (zi_w ((zi_w (1048576 * (zi_div (g1 (zi_rem (g0 (zi_w (f0 - 1))) 1048576)) 1048576))) + f1)))) none) none) else (if x1 = 0 then (some (f0, g1)) else ((zf_M_waitTop f0 g0).bind fun r6 => (if r6 = 12 then (cond (zi_ix (zi_w (f0 - 1)) 220) (cond (zi_ix (zi_rem (g0 (zi_w (f0 - 1))) 1048576) 220) (rec (zi_w (f0 - 1)) (zv_up g1 (zi_rem (g0 (zi_w (f0 - 1))) 1048576) (zi_w ((zi_w (1048576 * (zi_div (g1 (zi_rem (g0 (zi_w (f0 - 1))) 1048576)) 1048576))) + f1)))) none) none) else (some (f0, g1))))))
def zf_M_lands_l0 (x1 : Int) (f1 : Int) (g0 : (Int → Int)) : Nat → Int → (Int → Int) → Option (Int × (Int → Int))
  | 0, _, _ => none
  | n + 1, f0, g1 => zf_M_lands_l0_b x1 f1 g0 (zf_M_lands_l0 x1 f1 g0 n) f0 g1
def zf_M_lands (x1 : Int) (f0 : Int) (f1 : Int) (g0 : (Int → Int)) (g1 : (Int → Int)) : Option (Int × (Int → Int)) := (zf_M_lands_l0 x1 f1 g0 zi_fu f0 g1).bind fun q10 => (some (q10.1, q10.2))
theorem zd234_0 : decode zxm234.2.1 0 = .ok (.aload_n 0, 1) := by decide +kernel
theorem zd234_1 : decode zxm234.2.1 1 = .ok (.invokevirtual 209, 3) := by decide +kernel
theorem zd234_4 : decode zxm234.2.1 4 = .ok (.bipush 11, 2) := by decide +kernel
theorem zd234_6 : decode zxm234.2.1 6 = .ok (.if_icmp .eq 16, 3) := by decide +kernel
theorem zd234_9 : decode zxm234.2.1 9 = .ok (.iload_n 1, 1) := by decide +kernel
theorem zd234_10 : decode zxm234.2.1 10 = .ok (.ifCond .eq 63, 3) := by decide +kernel
theorem zd234_13 : decode zxm234.2.1 13 = .ok (.aload_n 0, 1) := by decide +kernel
theorem zd234_14 : decode zxm234.2.1 14 = .ok (.invokevirtual 209, 3) := by decide +kernel
theorem zd234_17 : decode zxm234.2.1 17 = .ok (.bipush 12, 2) := by decide +kernel
theorem zd234_19 : decode zxm234.2.1 19 = .ok (.if_icmp .ne 54, 3) := by decide +kernel
theorem zd234_22 : decode zxm234.2.1 22 = .ok (.aload_n 0, 1) := by decide +kernel
theorem zd234_23 : decode zxm234.2.1 23 = .ok (.getfield 26, 3) := by decide +kernel
theorem zd234_26 : decode zxm234.2.1 26 = .ok (.aload_n 0, 1) := by decide +kernel
theorem zd234_27 : decode zxm234.2.1 27 = .ok (.getfield 206, 3) := by decide +kernel
theorem zd234_30 : decode zxm234.2.1 30 = .ok (.iconst 1, 1) := by decide +kernel
theorem zd234_31 : decode zxm234.2.1 31 = .ok (.isub, 1) := by decide +kernel
theorem zd234_32 : decode zxm234.2.1 32 = .ok (.iaload, 1) := by decide +kernel
theorem zd234_33 : decode zxm234.2.1 33 = .ok (.ldc 202, 2) := by decide +kernel
theorem zd234_35 : decode zxm234.2.1 35 = .ok (.irem, 1) := by decide +kernel
theorem zd234_36 : decode zxm234.2.1 36 = .ok (.istore_n 2, 1) := by decide +kernel
theorem zd234_37 : decode zxm234.2.1 37 = .ok (.aload_n 0, 1) := by decide +kernel
theorem zd234_38 : decode zxm234.2.1 38 = .ok (.getfield 23, 3) := by decide +kernel
theorem zd234_41 : decode zxm234.2.1 41 = .ok (.iload_n 2, 1) := by decide +kernel
theorem zd234_42 : decode zxm234.2.1 42 = .ok (.ldc 202, 2) := by decide +kernel
theorem zd234_44 : decode zxm234.2.1 44 = .ok (.aload_n 0, 1) := by decide +kernel
theorem zd234_45 : decode zxm234.2.1 45 = .ok (.getfield 23, 3) := by decide +kernel
theorem zd234_48 : decode zxm234.2.1 48 = .ok (.iload_n 2, 1) := by decide +kernel
theorem zd234_49 : decode zxm234.2.1 49 = .ok (.iaload, 1) := by decide +kernel
theorem zd234_50 : decode zxm234.2.1 50 = .ok (.ldc 202, 2) := by decide +kernel
theorem zd234_52 : decode zxm234.2.1 52 = .ok (.idiv, 1) := by decide +kernel
theorem zd234_53 : decode zxm234.2.1 53 = .ok (.imul, 1) := by decide +kernel
theorem zd234_54 : decode zxm234.2.1 54 = .ok (.aload_n 0, 1) := by decide +kernel
theorem zd234_55 : decode zxm234.2.1 55 = .ok (.getfield 199, 3) := by decide +kernel
theorem zd234_58 : decode zxm234.2.1 58 = .ok (.iadd, 1) := by decide +kernel
theorem zd234_59 : decode zxm234.2.1 59 = .ok (.iastore, 1) := by decide +kernel
theorem zd234_60 : decode zxm234.2.1 60 = .ok (.aload_n 0, 1) := by decide +kernel
theorem zd234_61 : decode zxm234.2.1 61 = .ok (.aload_n 0, 1) := by decide +kernel
theorem zd234_62 : decode zxm234.2.1 62 = .ok (.getfield 206, 3) := by decide +kernel
theorem zd234_65 : decode zxm234.2.1 65 = .ok (.iconst 1, 1) := by decide +kernel
theorem zd234_66 : decode zxm234.2.1 66 = .ok (.isub, 1) := by decide +kernel
theorem zd234_67 : decode zxm234.2.1 67 = .ok (.putfield 206, 3) := by decide +kernel
theorem zd234_70 : decode zxm234.2.1 70 = .ok (.goto (-70), 3) := by decide +kernel
theorem zd234_73 : decode zxm234.2.1 73 = .ok (.return_, 1) := by decide +kernel
theorem zt_M_lands {x1 : Int} {f0 : Int} {f1 : Int} {g0 : (Int → Int)} {g1 : (Int → Int)} {o : Int × (Int → Int)} (h : zf_M_lands x1 f0 f1 g0 g1 = some o) : zv_Fn z_TB z_cl z_KX zy_M_lands zxm234 (1, 60) [.inr 0, .inl x1] [.inl f0, .inl f1] [g0, g1] none [.inl o.1, .inl f1] [g0, o.2] := zv_meth (K := (z_KF13, z_KC13, z_KL13, z_KT13, [], [], [], none)) (FT := z_FT) (MT := z_MT) (n := 2) zxp234 (z_ks13 _ (fun _ h => List.mem_cons_of_mem _ h) _ _ _ _ (fun j r h _ => by cases h)) (fun _ _ => zs_KX_p) zyw_M_lands (fun va F G h => by obtain ⟨rfl, _⟩ := h; rfl) (fun va F G h => by obtain ⟨rfl, _⟩ := h; rfl) rfl fun good va F G hB hret hvret hP => by
  obtain ⟨rfl, rfl, rfl⟩ := hP
  have l0 : ∀ (n : Nat) (x1 : Int) (f0 : Int) (g1 : (Int → Int)) (q : Int × (Int → Int)), zf_M_lands_l0 x1 f1 g0 n f0 g1 = some q → (good 73 [.inr 1000, .inr 1000, .inr 1000] [] [.inl q.1, .inl f1] [g0, q.2]) → good 0 [.inr 0, .inl x1, .inr 1000] [] [.inl f0, .inl f1] [g0, g1] := by
    intro n
    induction n with
    | zero => intro x1 f0 g1 q h; exact absurd (show none = some q from h) (fun h => by cases h)
    | succ n ih =>
      intro x1 f0 g1 q h hK
      replace h : zf_M_lands_l0_b x1 f1 g0 (zf_M_lands_l0 x1 f1 g0 n) f0 g1 = some q := h
      unfold zf_M_lands_l0_b at h
      refine zv_ald hB zd234_0 rfl rfl rfl ?_
      obtain ⟨r1, hr1, h⟩ := zi_bind h
      refine zv_cv hB (zv_emq (va2 := [.inr 0]) (F := [.inl f0, .inl f1]) (F' := [.inl f0, .inl f1]) (G := [g0, g1]) (G' := [g0, g1]) (ρ := [0, 1]) (φ := [0]) (ψ := [0]) [some 0, none] [some 0, none] zyw_M_waitTop zyw_M_lands zye_M_lands (by decide +kernel) (zt_M_waitTop hr1) ⟨⟨_, rfl, fun _ => rfl⟩, trivial⟩ ⟨rfl, trivial⟩ rfl rfl rfl rfl rfl rfl rfl) zd234_1 zxt229 rfl (by decide) (by decide) rfl ?_
      refine zv_con hB zd234_4 rfl ?_
      refine zv_ceq hB zd234_6 rfl (fun hc2 => ?_) (fun hc2 => ?_)
      · rw [if_pos hc2] at h
        refine zv_ald hB zd234_22 rfl rfl rfl ?_
        refine zv_getr hB zd234_23 rfl ?_
        refine zv_ald hB zd234_26 rfl rfl rfl ?_
        refine zv_getf hB zd234_27 rfl rfl (fun _ _ => ?_)
        refine zv_con hB zd234_30 rfl ?_
        refine zv_subw hB zd234_31 ?_
        obtain ⟨c3, h⟩ := zi_if h
        refine zv_iald hB zd234_32 rfl rfl (zi_ix_ok c3).1 (zi_ix_ok c3).2 (fun _ _ => ?_)
        refine zv_con (n := 1048576) hB zd234_33 (by decide +kernel) ?_
        refine zv_remw hB zd234_35 (by decide) ?_
        refine zv_ist hB zd234_36 rfl rfl rfl ?_
        refine zv_ald hB zd234_37 rfl rfl rfl ?_
        refine zv_getr hB zd234_38 rfl ?_
        refine zv_ild hB zd234_41 rfl rfl ?_
        refine zv_con (n := 1048576) hB zd234_42 (by decide +kernel) ?_
        refine zv_ald hB zd234_44 rfl rfl rfl ?_
        refine zv_getr hB zd234_45 rfl ?_
        refine zv_ild hB zd234_48 rfl rfl ?_
        obtain ⟨c4, h⟩ := zi_if h
        refine zv_iald hB zd234_49 rfl rfl (zi_ix_ok c4).1 (zi_ix_ok c4).2 (fun _ _ => ?_)
        refine zv_con (n := 1048576) hB zd234_50 (by decide +kernel) ?_
        refine zv_divw hB zd234_52 (by decide) ?_
        refine zv_mulw hB zd234_53 ?_
        refine zv_ald hB zd234_54 rfl rfl rfl ?_
        refine zv_getf hB zd234_55 rfl rfl (fun _ _ => ?_)
        refine zv_addw hB zd234_58 ?_
        refine zv_iast hB zd234_59 rfl rfl (zi_ix_ok c4).1 (zi_ix_ok c4).2 ?_
        refine zv_ald hB zd234_60 rfl rfl rfl ?_
        refine zv_ald hB zd234_61 rfl rfl rfl ?_
        refine zv_getf hB zd234_62 rfl rfl (fun _ _ => ?_)
        refine zv_con hB zd234_65 rfl ?_
        refine zv_subw hB zd234_66 ?_
        refine zv_putf hB zd234_67 rfl rfl (fun h => by cases h) rfl ?_
        refine zv_goto hB zd234_70 rfl ?_
        refine zv_wk hB (L' := [.inr 0, .inl x1, .inr 1000]) (F' := [.inl (zi_w (f0 - 1)), .inl f1]) ⟨fun _ => rfl, fun _ => rfl, fun (h : zv_is (.inr 1000)) => (Nat.lt_irrefl 1000 h).elim, trivial⟩ ⟨fun _ => rfl, fun _ => rfl, trivial⟩ ?_
        exact ih _ _ _ q h hK
      · rw [if_neg hc2] at h
        refine zv_ild hB zd234_9 rfl rfl ?_
        refine zv_zeq hB zd234_10 rfl (fun hc5 => ?_) (fun hc5 => ?_)
        · rw [if_pos hc5] at h
          have hq := Option.some.inj h
          subst hq
          refine zv_wk hB (L' := [.inr 1000, .inr 1000, .inr 1000]) (F' := [.inl f0, .inl f1]) ⟨fun (h : zv_is (.inr 1000)) => (Nat.lt_irrefl 1000 h).elim, fun (h : zv_is (.inr 1000)) => (Nat.lt_irrefl 1000 h).elim, fun (h : zv_is (.inr 1000)) => (Nat.lt_irrefl 1000 h).elim, trivial⟩ ⟨fun _ => rfl, fun _ => rfl, trivial⟩ ?_
          exact hK
        · rw [if_neg hc5] at h
          refine zv_ald hB zd234_13 rfl rfl rfl ?_
          obtain ⟨r6, hr6, h⟩ := zi_bind h
          refine zv_cv hB (zv_emq (va2 := [.inr 0]) (F := [.inl f0, .inl f1]) (F' := [.inl f0, .inl f1]) (G := [g0, g1]) (G' := [g0, g1]) (ρ := [0, 1]) (φ := [0]) (ψ := [0]) [some 0, none] [some 0, none] zyw_M_waitTop zyw_M_lands zye_M_lands (by decide +kernel) (zt_M_waitTop hr6) ⟨⟨_, rfl, fun _ => rfl⟩, trivial⟩ ⟨rfl, trivial⟩ rfl rfl rfl rfl rfl rfl rfl) zd234_14 zxt229 rfl (by decide) (by decide) rfl ?_
          refine zv_con hB zd234_17 rfl ?_
          refine zv_cne hB zd234_19 rfl (fun hc7 => ?_) (fun hc7 => ?_)
          · rw [if_neg hc7] at h
            have hq := Option.some.inj h
            subst hq
            refine zv_wk hB (L' := [.inr 1000, .inr 1000, .inr 1000]) (F' := [.inl f0, .inl f1]) ⟨fun (h : zv_is (.inr 1000)) => (Nat.lt_irrefl 1000 h).elim, fun (h : zv_is (.inr 1000)) => (Nat.lt_irrefl 1000 h).elim, fun (h : zv_is (.inr 1000)) => (Nat.lt_irrefl 1000 h).elim, trivial⟩ ⟨fun _ => rfl, fun _ => rfl, trivial⟩ ?_
            exact hK
          · rw [if_pos hc7] at h
            refine zv_ald hB zd234_22 rfl rfl rfl ?_
            refine zv_getr hB zd234_23 rfl ?_
            refine zv_ald hB zd234_26 rfl rfl rfl ?_
            refine zv_getf hB zd234_27 rfl rfl (fun _ _ => ?_)
            refine zv_con hB zd234_30 rfl ?_
            refine zv_subw hB zd234_31 ?_
            obtain ⟨c8, h⟩ := zi_if h
            refine zv_iald hB zd234_32 rfl rfl (zi_ix_ok c8).1 (zi_ix_ok c8).2 (fun _ _ => ?_)
            refine zv_con (n := 1048576) hB zd234_33 (by decide +kernel) ?_
            refine zv_remw hB zd234_35 (by decide) ?_
            refine zv_ist hB zd234_36 rfl rfl rfl ?_
            refine zv_ald hB zd234_37 rfl rfl rfl ?_
            refine zv_getr hB zd234_38 rfl ?_
            refine zv_ild hB zd234_41 rfl rfl ?_
            refine zv_con (n := 1048576) hB zd234_42 (by decide +kernel) ?_
            refine zv_ald hB zd234_44 rfl rfl rfl ?_
            refine zv_getr hB zd234_45 rfl ?_
            refine zv_ild hB zd234_48 rfl rfl ?_
            obtain ⟨c9, h⟩ := zi_if h
            refine zv_iald hB zd234_49 rfl rfl (zi_ix_ok c9).1 (zi_ix_ok c9).2 (fun _ _ => ?_)
            refine zv_con (n := 1048576) hB zd234_50 (by decide +kernel) ?_
            refine zv_divw hB zd234_52 (by decide) ?_
            refine zv_mulw hB zd234_53 ?_
            refine zv_ald hB zd234_54 rfl rfl rfl ?_
            refine zv_getf hB zd234_55 rfl rfl (fun _ _ => ?_)
            refine zv_addw hB zd234_58 ?_
            refine zv_iast hB zd234_59 rfl rfl (zi_ix_ok c9).1 (zi_ix_ok c9).2 ?_
            refine zv_ald hB zd234_60 rfl rfl rfl ?_
            refine zv_ald hB zd234_61 rfl rfl rfl ?_
            refine zv_getf hB zd234_62 rfl rfl (fun _ _ => ?_)
            refine zv_con hB zd234_65 rfl ?_
            refine zv_subw hB zd234_66 ?_
            refine zv_putf hB zd234_67 rfl rfl (fun h => by cases h) rfl ?_
            refine zv_goto hB zd234_70 rfl ?_
            refine zv_wk hB (L' := [.inr 0, .inl x1, .inr 1000]) (F' := [.inl (zi_w (f0 - 1)), .inl f1]) ⟨fun _ => rfl, fun _ => rfl, fun (h : zv_is (.inr 1000)) => (Nat.lt_irrefl 1000 h).elim, trivial⟩ ⟨fun _ => rfl, fun _ => rfl, trivial⟩ ?_
            exact ih _ _ _ q h hK
  unfold zf_M_lands at h
  obtain ⟨q10, hq10, h⟩ := zi_bind h
  refine l0 _ _ _ _ q10 hq10 ?_
  show good 73 [.inr 1000, .inr 1000, .inr 1000] [] [.inl q10.1, .inl f1] [g0, q10.2]
  have hw := Option.some.inj h
  subst hw
  exact hvret _ _ _ _ zd234_73 trivial ⟨rfl, rfl, rfl⟩
/-! M_jumps (I)V -/
-- names: 0 StarTalesModel('arg', 0), 1 (0, 220)(0, 12, 15), 2 (0, 220)(0, 12, 14)
-- fields: f0 = 0.waiting_, f1 = 0.codeMany_, f2 = 0.place0_; arrays: g0 = 1, g1 = 2; out: [('f', 0), ('f', 1), ('f', 2), ('g', 0), ('g', 1)]
abbrev zy_M_jumps : zNL := (3, [(0, 12)], [(0, 12, 10, 0), (0, 12, 9, 1), (0, 12, 5, 2)], [(0, 12, 15, 1), (0, 12, 14, 2)], [(1, 0, 220, 0), (2, 0, 220, 1)])
theorem zyw_M_jumps : zv_wf zy_M_jumps = true := by decide +kernel
theorem zye_M_jumps : zv_ek2 zy_M_jumps = true := by decide +kernel
def zf_M_jumps (x1 : Int) (f0 : Int) (f1 : Int) (f2 : Int) (g0 : (Int → Int)) (g1 : (Int → Int)) : Option (Int × Int × Int × (Int → Int) × (Int → Int)) := cond (zi_ix f0 220) ((zf_M_notes x1 0 f1 g1).bind fun r2 => (some ((zi_w (f0 + 1)), r2.1, (zi_w (f2 + 1)), (zv_up g0 f0 (zi_w ((zi_w (1048576 * x1)) + f1))), r2.2))) none
theorem zd235_0 : decode zxm235.2.1 0 = .ok (.aload_n 0, 1) := by decide +kernel
theorem zd235_1 : decode zxm235.2.1 1 = .ok (.getfield 26, 3) := by decide +kernel
theorem zd235_4 : decode zxm235.2.1 4 = .ok (.aload_n 0, 1) := by decide +kernel
theorem zd235_5 : decode zxm235.2.1 5 = .ok (.getfield 206, 3) := by decide +kernel
theorem zd235_8 : decode zxm235.2.1 8 = .ok (.ldc 202, 2) := by decide +kernel
theorem zd235_10 : decode zxm235.2.1 10 = .ok (.iload_n 1, 1) := by decide +kernel
theorem zd235_11 : decode zxm235.2.1 11 = .ok (.imul, 1) := by decide +kernel
theorem zd235_12 : decode zxm235.2.1 12 = .ok (.aload_n 0, 1) := by decide +kernel
theorem zd235_13 : decode zxm235.2.1 13 = .ok (.getfield 199, 3) := by decide +kernel
theorem zd235_16 : decode zxm235.2.1 16 = .ok (.iadd, 1) := by decide +kernel
theorem zd235_17 : decode zxm235.2.1 17 = .ok (.iastore, 1) := by decide +kernel
theorem zd235_18 : decode zxm235.2.1 18 = .ok (.aload_n 0, 1) := by decide +kernel
theorem zd235_19 : decode zxm235.2.1 19 = .ok (.aload_n 0, 1) := by decide +kernel
theorem zd235_20 : decode zxm235.2.1 20 = .ok (.getfield 206, 3) := by decide +kernel
theorem zd235_23 : decode zxm235.2.1 23 = .ok (.iconst 1, 1) := by decide +kernel
theorem zd235_24 : decode zxm235.2.1 24 = .ok (.iadd, 1) := by decide +kernel
theorem zd235_25 : decode zxm235.2.1 25 = .ok (.putfield 206, 3) := by decide +kernel
theorem zd235_28 : decode zxm235.2.1 28 = .ok (.aload_n 0, 1) := by decide +kernel
theorem zd235_29 : decode zxm235.2.1 29 = .ok (.iload_n 1, 1) := by decide +kernel
theorem zd235_30 : decode zxm235.2.1 30 = .ok (.iconst 0, 1) := by decide +kernel
theorem zd235_31 : decode zxm235.2.1 31 = .ok (.invokevirtual 212, 3) := by decide +kernel
theorem zd235_34 : decode zxm235.2.1 34 = .ok (.aload_n 0, 1) := by decide +kernel
theorem zd235_35 : decode zxm235.2.1 35 = .ok (.aload_n 0, 1) := by decide +kernel
theorem zd235_36 : decode zxm235.2.1 36 = .ok (.getfield 176, 3) := by decide +kernel
theorem zd235_39 : decode zxm235.2.1 39 = .ok (.iconst 1, 1) := by decide +kernel
theorem zd235_40 : decode zxm235.2.1 40 = .ok (.iadd, 1) := by decide +kernel
theorem zd235_41 : decode zxm235.2.1 41 = .ok (.putfield 176, 3) := by decide +kernel
theorem zd235_44 : decode zxm235.2.1 44 = .ok (.return_, 1) := by decide +kernel
theorem zt_M_jumps {x1 : Int} {f0 : Int} {f1 : Int} {f2 : Int} {g0 : (Int → Int)} {g1 : (Int → Int)} {o : Int × Int × Int × (Int → Int) × (Int → Int)} (h : zf_M_jumps x1 f0 f1 f2 g0 g1 = some o) : zv_Fn z_TB z_cl z_KX zy_M_jumps zxm235 (1, 60) [.inr 0, .inl x1] [.inl f0, .inl f1, .inl f2] [g0, g1] none [.inl o.1, .inl o.2.1, .inl o.2.2.1] [o.2.2.2.1, o.2.2.2.2] := zv_meth (K := (z_KF13, z_KC13, z_KL13, z_KT13, [], [], [], none)) (FT := z_FT) (MT := z_MT) (n := 2) zxp235 (z_ks13 _ (fun _ h => List.mem_cons_of_mem _ h) _ _ _ _ (fun j r h _ => by cases h)) (fun _ _ => zs_KX_p) zyw_M_jumps (fun va F G h => by obtain ⟨rfl, _⟩ := h; rfl) (fun va F G h => by obtain ⟨rfl, _⟩ := h; rfl) rfl fun good va F G hB hret hvret hP => by
  obtain ⟨rfl, rfl, rfl⟩ := hP
  unfold zf_M_jumps at h
  refine zv_ald hB zd235_0 rfl rfl rfl ?_
  refine zv_getr hB zd235_1 rfl ?_
  refine zv_ald hB zd235_4 rfl rfl rfl ?_
  refine zv_getf hB zd235_5 rfl rfl (fun _ _ => ?_)
  refine zv_con (n := 1048576) hB zd235_8 (by decide +kernel) ?_
  refine zv_ild hB zd235_10 rfl rfl ?_
  refine zv_mulw hB zd235_11 ?_
  refine zv_ald hB zd235_12 rfl rfl rfl ?_
  refine zv_getf hB zd235_13 rfl rfl (fun _ _ => ?_)
  refine zv_addw hB zd235_16 ?_
  obtain ⟨c1, h⟩ := zi_if h
  refine zv_iast hB zd235_17 rfl rfl (zi_ix_ok c1).1 (zi_ix_ok c1).2 ?_
  refine zv_ald hB zd235_18 rfl rfl rfl ?_
  refine zv_ald hB zd235_19 rfl rfl rfl ?_
  refine zv_getf hB zd235_20 rfl rfl (fun _ _ => ?_)
  refine zv_con hB zd235_23 rfl ?_
  refine zv_addw hB zd235_24 ?_
  refine zv_putf hB zd235_25 rfl rfl (fun h => by cases h) rfl ?_
  refine zv_ald hB zd235_28 rfl rfl rfl ?_
  refine zv_ild hB zd235_29 rfl rfl ?_
  refine zv_con hB zd235_30 rfl ?_
  obtain ⟨r2, hr2, h⟩ := zi_bind h
  refine zv_cv hB (zv_emq (va2 := [.inr 0, .inl x1, .inl 0]) (F := [.inl (zi_w (f0 + 1)), .inl f1, .inl f2]) (F' := [.inl (zi_w (f0 + 1)), .inl r2.1, .inl f2]) (G := [(zv_up g0 f0 (zi_w ((zi_w (1048576 * x1)) + f1))), g1]) (G' := [(zv_up g0 f0 (zi_w ((zi_w (1048576 * x1)) + f1))), r2.2]) (ρ := [0, 2]) (φ := [1]) (ψ := [1]) [none, some 0, none] [none, some 0] zyw_M_notes zyw_M_jumps zye_M_jumps (by decide +kernel) (zt_M_notes hr2) ⟨⟨_, rfl, fun _ => rfl⟩, trivial⟩ ⟨rfl, trivial⟩ rfl rfl rfl rfl rfl rfl rfl) zd235_31 zxt225 rfl (by decide) (by decide) rfl ?_
  refine zv_ald hB zd235_34 rfl rfl rfl ?_
  refine zv_ald hB zd235_35 rfl rfl rfl ?_
  refine zv_getf hB zd235_36 rfl rfl (fun _ _ => ?_)
  refine zv_con hB zd235_39 rfl ?_
  refine zv_addw hB zd235_40 ?_
  refine zv_putf hB zd235_41 rfl rfl (fun h => by cases h) rfl ?_
  have hw := Option.some.inj h
  subst hw
  exact hvret _ _ _ _ zd235_44 trivial ⟨rfl, rfl, rfl⟩
end
section
/-! Methods as functions, and that they do what these do. -/
/-! M_readsCondition ()Z -/
-- names: 0 StarTalesModel('arg', 0), 1 (1, 220)(0, 12, 3), 2 (0, 220)(0, 12, 15), 3 (0, 220)(0, 12, 14)
-- fields: f0 = 0.place0_, f1 = 0.length0_, f2 = 0.open_, f3 = 0.waiting_, f4 = 0.fault_, f5 = 0.codeMany_, f6 = 0.number0_; arrays: g0 = 1, g1 = 2, g2 = 3; out: [('ret', None), ('f', 0), ('f', 2), ('f', 3), ('f', 4), ('f', 5), ('f', 6), ('g', 1), ('g', 2)]
abbrev zy_M_readsCondition : zNL := (4, [(0, 12)], [(0, 12, 5, 0), (0, 12, 6, 1), (0, 12, 8, 2), (0, 12, 10, 3), (0, 12, 7, 4), (0, 12, 9, 5), (0, 12, 12, 6)], [(0, 12, 3, 1), (0, 12, 15, 2), (0, 12, 14, 3)], [(1, 1, 220, 0), (2, 0, 220, 1), (3, 0, 220, 2)])
theorem zyw_M_readsCondition : zv_wf zy_M_readsCondition = true := by decide +kernel
theorem zye_M_readsCondition : zv_ek2 zy_M_readsCondition = true := by decide +kernel
def zf_M_readsCondition_l1_b (f1 : Int) (f4 : Int) (f6 : Int) (g0 : (Int → Int)) (g1 : (Int → Int)) (rec : Int → Int → Int → Int → (Int → Int) → Option (((Int × Int × Int × Int × (Int → Int)) ⊕ (Int × Int × Int × Int × Int × Int × Int × (Int → Int) × (Int → Int))))) (f0 : Int) (f2 : Int) (f3 : Int) (f5 : Int) (g2 : (Int → Int)) : Option (((Int × Int × Int × Int × (Int → Int)) ⊕ (Int × Int × Int × Int × Int × Int × Int × (Int → Int) × (Int → Int)))) := (zf_M_here f0 f1 g0).bind fun r17 => (if r17 = 41 then ((zf_M_lands 1 f3 f5 g1 g2).bind fun r19 => (if (zi_w (r19.1 - 1)) = 0 then (some (.inr (1, (zi_w (f0 + 1)), (zi_w (f2 - 1)), (zi_w (r19.1 - 1)), f4, f5, f6, g1, r19.2))) else ((zf_M_endsPiece (zi_w (r19.1 - 1)) f5 (zi_w (f2 - 1)) g1 r19.2).bind fun r21 => (rec (zi_w (f0 + 1)) r21.2.2.1 r21.1 r21.2.1 r21.2.2.2)))) else (some (.inl (f0, f2, f3, f5, g2))))
def zf_M_readsCondition_l1 (f1 : Int) (f4 : Int) (f6 : Int) (g0 : (Int → Int)) (g1 : (Int → Int)) : Nat → Int → Int → Int → Int → (Int → Int) → Option (((Int × Int × Int × Int × (Int → Int)) ⊕ (Int × Int × Int × Int × Int × Int × Int × (Int → Int) × (Int → Int))))
  | 0, _, _, _, _, _ => none
  | n + 1, f0, f2, f3, f5, g2 => zf_M_readsCondition_l1_b f1 f4 f6 g0 g1 (zf_M_readsCondition_l1 f1 f4 f6 g0 g1 n) f0 f2 f3 f5 g2
def zf_M_readsCondition_l0_b (f1 : Int) (g0 : (Int → Int)) (rec : Int → Int → Int → Int → Int → Int → (Int → Int) → (Int → Int) → Option (((Int × Int × Int × Int × Int × Int × (Int → Int) × (Int → Int)) ⊕ (Int × Int × Int × Int × Int × Int × Int × (Int → Int) × (Int → Int))))) (f0 : Int) (f2 : Int) (f3 : Int) (f4 : Int) (f5 : Int) (f6 : Int) (g1 : (Int → Int)) (g2 : (Int → Int)) : Option (((Int × Int × Int × Int × Int × Int × (Int → Int) × (Int → Int)) ⊕ (Int × Int × Int × Int × Int × Int × Int × (Int → Int) × (Int → Int)))) := (zf_M_here f0 f1 g0).bind fun r5 => (if r5 = 33 then ((zf_M_here f0 f1 g0).bind fun r7 => (if r7 = 33 then ((zf_M_opens 10 f2 f3 f0 f4 g1).bind fun r11 => (if r11.1 = 0 then (some (.inr (0, r11.2.2.2.1, r11.2.1, r11.2.2.1, r11.2.2.2.2.1, f5, f6, r11.2.2.2.2.2, g2))) else (rec r11.2.2.2.1 r11.2.1 r11.2.2.1 r11.2.2.2.2.1 f5 f6 r11.2.2.2.2.2 g2))) else ((zf_M_opens 13 f2 f3 f0 f4 g1).bind fun r9 => (if r9.1 = 0 then (some (.inr (0, r9.2.2.2.1, r9.2.1, r9.2.2.1, r9.2.2.2.2.1, f5, f6, r9.2.2.2.2.2, g2))) else (rec r9.2.2.2.1 r9.2.1 r9.2.2.1 r9.2.2.2.2.1 f5 f6 r9.2.2.2.2.2 g2))))) else ((zf_M_here f0 f1 g0).bind fun r13 => (if r13 = 40 then ((zf_M_here f0 f1 g0).bind fun r53 => (if r53 = 33 then ((zf_M_opens 10 f2 f3 f0 f4 g1).bind fun r57 => (if r57.1 = 0 then (some (.inr (0, r57.2.2.2.1, r57.2.1, r57.2.2.1, r57.2.2.2.2.1, f5, f6, r57.2.2.2.2.2, g2))) else (rec r57.2.2.2.1 r57.2.1 r57.2.2.1 r57.2.2.2.2.1 f5 f6 r57.2.2.2.2.2 g2))) else ((zf_M_opens 13 f2 f3 f0 f4 g1).bind fun r55 => (if r55.1 = 0 then (some (.inr (0, r55.2.2.2.1, r55.2.1, r55.2.2.1, r55.2.2.2.2.1, f5, f6, r55.2.2.2.2.2, g2))) else (rec r55.2.2.2.1 r55.2.1 r55.2.2.1 r55.2.2.2.2.1 f5 f6 r55.2.2.2.2.2 g2))))) else ((zf_M_readsCompared f3 f0 f1 f2 f4 f5 f6 g0 g1 g2).bind fun r15 => (if r15.1 = 0 then (some (.inr (0, r15.2.2.1, r15.2.2.2.1, r15.2.1, r15.2.2.2.2.1, r15.2.2.2.2.2.1, r15.2.2.2.2.2.2.1, r15.2.2.2.2.2.2.2.1, r15.2.2.2.2.2.2.2.2))) else ((zf_M_readsCondition_l1 f1 r15.2.2.2.2.1 r15.2.2.2.2.2.2.1 g0 r15.2.2.2.2.2.2.2.1 zi_fu r15.2.2.1 r15.2.2.2.1 r15.2.1 r15.2.2.2.2.2.1 r15.2.2.2.2.2.2.2.2).bind fun q22 => Sum.elim (fun e23 => ((zf_M_here e23.1 f1 g0).bind fun r24 => (if r24 = 38 then ((zf_M_here e23.1 f1 g0).bind fun r26 => (if r26 = 124 then ((zf_M_lands 1 e23.2.2.1 e23.2.2.2.1 r15.2.2.2.2.2.2.2.1 e23.2.2.2.2).bind fun r33 => ((zf_M_here e23.1 f1 g0).bind fun r34 => (if r34 = 38 then ((zf_M_jumps 11 r33.1 e23.2.2.2.1 e23.1 r15.2.2.2.2.2.2.2.1 r33.2).bind fun r37 => (rec r37.2.2.1 e23.2.1 r37.1 r15.2.2.2.2.1 r37.2.1 r15.2.2.2.2.2.2.1 r37.2.2.2.1 r37.2.2.2.2)) else ((zf_M_jumps 12 r33.1 e23.2.2.2.1 e23.1 r15.2.2.2.2.2.2.2.1 r33.2).bind fun r36 => (rec r36.2.2.1 e23.2.1 r36.1 r15.2.2.2.2.1 r36.2.1 r15.2.2.2.2.2.2.1 r36.2.2.2.1 r36.2.2.2.2))))) else ((zf_M_lands 0 e23.2.2.1 e23.2.2.2.1 r15.2.2.2.2.2.2.2.1 e23.2.2.2.2).bind fun r28 => ((zf_M_here e23.1 f1 g0).bind fun r29 => (if r29 = 38 then ((zf_M_jumps 11 r28.1 e23.2.2.2.1 e23.1 r15.2.2.2.2.2.2.2.1 r28.2).bind fun r32 => (rec r32.2.2.1 e23.2.1 r32.1 r15.2.2.2.2.1 r32.2.1 r15.2.2.2.2.2.2.1 r32.2.2.2.1 r32.2.2.2.2)) else ((zf_M_jumps 12 r28.1 e23.2.2.2.1 e23.1 r15.2.2.2.2.2.2.2.1 r28.2).bind fun r31 => (rec r31.2.2.1 e23.2.1 r31.1 r15.2.2.2.2.1 r31.2.1 r15.2.2.2.2.2.2.1 r31.2.2.2.1 r31.2.2.2.2))))))) else ((zf_M_here e23.1 f1 g0).bind fun r38 => (if r38 = 124 then ((zf_M_here e23.1 f1 g0).bind fun r40 => (if r40 = 124 then ((zf_M_lands 1 e23.2.2.1 e23.2.2.2.1 r15.2.2.2.2.2.2.2.1 e23.2.2.2.2).bind fun r47 => ((zf_M_here e23.1 f1 g0).bind fun r48 => (if r48 = 38 then ((zf_M_jumps 11 r47.1 e23.2.2.2.1 e23.1 r15.2.2.2.2.2.2.2.1 r47.2).bind fun r51 => (rec r51.2.2.1 e23.2.1 r51.1 r15.2.2.2.2.1 r51.2.1 r15.2.2.2.2.2.2.1 r51.2.2.2.1 r51.2.2.2.2)) else ((zf_M_jumps 12 r47.1 e23.2.2.2.1 e23.1 r15.2.2.2.2.2.2.2.1 r47.2).bind fun r50 => (rec r50.2.2.1 e23.2.1 r50.1 r15.2.2.2.2.1 r50.2.1 r15.2.2.2.2.2.2.1 r50.2.2.2.1 r50.2.2.2.2))))) else ((zf_M_lands 0 e23.2.2.1 e23.2.2.2.1 r15.2.2.2.2.2.2.2.1 e23.2.2.2.2).bind fun r42 => ((zf_M_here e23.1 f1 g0).bind fun r43 => (if r43 = 38 then ((zf_M_jumps 11 r42.1 e23.2.2.2.1 e23.1 r15.2.2.2.2.2.2.2.1 r42.2).bind fun r46 => (rec r46.2.2.1 e23.2.1 r46.1 r15.2.2.2.2.1 r46.2.1 r15.2.2.2.2.2.2.1 r46.2.2.2.1 r46.2.2.2.2)) else ((zf_M_jumps 12 r42.1 e23.2.2.2.1 e23.1 r15.2.2.2.2.2.2.2.1 r42.2).bind fun r45 => (rec r45.2.2.1 e23.2.1 r45.1 r15.2.2.2.2.1 r45.2.1 r15.2.2.2.2.2.2.1 r45.2.2.2.1 r45.2.2.2.2))))))) else (some (.inl (e23.1, e23.2.1, e23.2.2.1, r15.2.2.2.2.1, e23.2.2.2.1, r15.2.2.2.2.2.2.1, r15.2.2.2.2.2.2.2.1, e23.2.2.2.2)))))))) (fun w52 => some (.inr w52)) q22))))))
def zf_M_readsCondition_l0 (f1 : Int) (g0 : (Int → Int)) : Nat → Int → Int → Int → Int → Int → Int → (Int → Int) → (Int → Int) → Option (((Int × Int × Int × Int × Int × Int × (Int → Int) × (Int → Int)) ⊕ (Int × Int × Int × Int × Int × Int × Int × (Int → Int) × (Int → Int))))
  | 0, _, _, _, _, _, _, _, _ => none
  | n + 1, f0, f2, f3, f4, f5, f6, g1, g2 => zf_M_readsCondition_l0_b f1 g0 (zf_M_readsCondition_l0 f1 g0 n) f0 f2 f3 f4 f5 f6 g1 g2
def zf_M_readsCondition (f0 : Int) (f1 : Int) (f2 : Int) (f3 : Int) (f4 : Int) (f5 : Int) (f6 : Int) (g0 : (Int → Int)) (g1 : (Int → Int)) (g2 : (Int → Int)) : Option (Int × Int × Int × Int × Int × Int × Int × (Int → Int) × (Int → Int)) := (zf_M_here f0 f1 g0).bind fun r1 => (if r1 = 40 then ((zf_M_opens 13 0 0 f0 f4 g1).bind fun r3 => (if r3.1 = 0 then (some (0, r3.2.2.2.1, r3.2.1, r3.2.2.1, r3.2.2.2.2.1, f5, f6, r3.2.2.2.2.2, g2)) else ((zf_M_readsCondition_l0 f1 g0 zi_fu r3.2.2.2.1 r3.2.1 r3.2.2.1 r3.2.2.2.2.1 f5 f6 r3.2.2.2.2.2 g2).bind fun q59 => Sum.elim (fun e60 => ((zf_M_wrongAt 1 e60.1 e60.2.2.2.1).bind fun r61 => (cond (zi_bo r61.1) (some (r61.1, e60.1, e60.2.1, e60.2.2.1, r61.2, e60.2.2.2.2.1, e60.2.2.2.2.2.1, e60.2.2.2.2.2.2.1, e60.2.2.2.2.2.2.2)) none))) (fun w63 => some w63) q59))) else ((zf_M_wrongAt 1 f0 f4).bind fun r64 => (cond (zi_bo r64.1) (some (r64.1, f0, f2, f3, r64.2, f5, f6, g1, g2)) none)))
theorem zd231_0 : decode zxm231.2.1 0 = .ok (.aload_n 0, 1) := by decide +kernel
theorem zd231_1 : decode zxm231.2.1 1 = .ok (.invokevirtual 182, 3) := by decide +kernel
theorem zd231_4 : decode zxm231.2.1 4 = .ok (.bipush 40, 2) := by decide +kernel
theorem zd231_6 : decode zxm231.2.1 6 = .ok (.if_icmp .eq 13, 3) := by decide +kernel
theorem zd231_9 : decode zxm231.2.1 9 = .ok (.aload_n 0, 1) := by decide +kernel
theorem zd231_10 : decode zxm231.2.1 10 = .ok (.iconst 1, 1) := by decide +kernel
theorem zd231_11 : decode zxm231.2.1 11 = .ok (.aload_n 0, 1) := by decide +kernel
theorem zd231_12 : decode zxm231.2.1 12 = .ok (.getfield 176, 3) := by decide +kernel
theorem zd231_15 : decode zxm231.2.1 15 = .ok (.invokevirtual 189, 3) := by decide +kernel
theorem zd231_18 : decode zxm231.2.1 18 = .ok (.ireturn, 1) := by decide +kernel
theorem zd231_19 : decode zxm231.2.1 19 = .ok (.aload_n 0, 1) := by decide +kernel
theorem zd231_20 : decode zxm231.2.1 20 = .ok (.iconst 0, 1) := by decide +kernel
theorem zd231_21 : decode zxm231.2.1 21 = .ok (.putfield 203, 3) := by decide +kernel
theorem zd231_24 : decode zxm231.2.1 24 = .ok (.aload_n 0, 1) := by decide +kernel
theorem zd231_25 : decode zxm231.2.1 25 = .ok (.iconst 0, 1) := by decide +kernel
theorem zd231_26 : decode zxm231.2.1 26 = .ok (.putfield 206, 3) := by decide +kernel
theorem zd231_29 : decode zxm231.2.1 29 = .ok (.aload_n 0, 1) := by decide +kernel
theorem zd231_30 : decode zxm231.2.1 30 = .ok (.bipush 13, 2) := by decide +kernel
theorem zd231_32 : decode zxm231.2.1 32 = .ok (.invokevirtual 216, 3) := by decide +kernel
theorem zd231_35 : decode zxm231.2.1 35 = .ok (.ifCond .ne 5, 3) := by decide +kernel
theorem zd231_38 : decode zxm231.2.1 38 = .ok (.iconst 0, 1) := by decide +kernel
theorem zd231_39 : decode zxm231.2.1 39 = .ok (.ireturn, 1) := by decide +kernel
theorem zd231_40 : decode zxm231.2.1 40 = .ok (.aload_n 0, 1) := by decide +kernel
theorem zd231_41 : decode zxm231.2.1 41 = .ok (.invokevirtual 182, 3) := by decide +kernel
theorem zd231_44 : decode zxm231.2.1 44 = .ok (.bipush 33, 2) := by decide +kernel
theorem zd231_46 : decode zxm231.2.1 46 = .ok (.if_icmp .eq 12, 3) := by decide +kernel
theorem zd231_49 : decode zxm231.2.1 49 = .ok (.aload_n 0, 1) := by decide +kernel
theorem zd231_50 : decode zxm231.2.1 50 = .ok (.invokevirtual 182, 3) := by decide +kernel
theorem zd231_53 : decode zxm231.2.1 53 = .ok (.bipush 40, 2) := by decide +kernel
theorem zd231_55 : decode zxm231.2.1 55 = .ok (.if_icmp .ne 28, 3) := by decide +kernel
theorem zd231_58 : decode zxm231.2.1 58 = .ok (.aload_n 0, 1) := by decide +kernel
theorem zd231_59 : decode zxm231.2.1 59 = .ok (.aload_n 0, 1) := by decide +kernel
theorem zd231_60 : decode zxm231.2.1 60 = .ok (.invokevirtual 182, 3) := by decide +kernel
theorem zd231_63 : decode zxm231.2.1 63 = .ok (.bipush 33, 2) := by decide +kernel
theorem zd231_65 : decode zxm231.2.1 65 = .ok (.if_icmp .ne 8, 3) := by decide +kernel
theorem zd231_68 : decode zxm231.2.1 68 = .ok (.bipush 10, 2) := by decide +kernel
theorem zd231_70 : decode zxm231.2.1 70 = .ok (.goto 5, 3) := by decide +kernel
theorem zd231_73 : decode zxm231.2.1 73 = .ok (.bipush 13, 2) := by decide +kernel
theorem zd231_75 : decode zxm231.2.1 75 = .ok (.invokevirtual 216, 3) := by decide +kernel
theorem zd231_78 : decode zxm231.2.1 78 = .ok (.ifCond .ne (-38), 3) := by decide +kernel
theorem zd231_81 : decode zxm231.2.1 81 = .ok (.iconst 0, 1) := by decide +kernel
theorem zd231_82 : decode zxm231.2.1 82 = .ok (.ireturn, 1) := by decide +kernel
theorem zd231_83 : decode zxm231.2.1 83 = .ok (.aload_n 0, 1) := by decide +kernel
theorem zd231_84 : decode zxm231.2.1 84 = .ok (.invokevirtual 244, 3) := by decide +kernel
theorem zd231_87 : decode zxm231.2.1 87 = .ok (.ifCond .ne 5, 3) := by decide +kernel
theorem zd231_90 : decode zxm231.2.1 90 = .ok (.iconst 0, 1) := by decide +kernel
theorem zd231_91 : decode zxm231.2.1 91 = .ok (.ireturn, 1) := by decide +kernel
theorem zd231_92 : decode zxm231.2.1 92 = .ok (.aload_n 0, 1) := by decide +kernel
theorem zd231_93 : decode zxm231.2.1 93 = .ok (.invokevirtual 182, 3) := by decide +kernel
theorem zd231_96 : decode zxm231.2.1 96 = .ok (.bipush 41, 2) := by decide +kernel
theorem zd231_98 : decode zxm231.2.1 98 = .ok (.if_icmp .ne 54, 3) := by decide +kernel
theorem zd231_101 : decode zxm231.2.1 101 = .ok (.aload_n 0, 1) := by decide +kernel
theorem zd231_102 : decode zxm231.2.1 102 = .ok (.iconst 1, 1) := by decide +kernel
theorem zd231_103 : decode zxm231.2.1 103 = .ok (.invokevirtual 247, 3) := by decide +kernel
theorem zd231_106 : decode zxm231.2.1 106 = .ok (.aload_n 0, 1) := by decide +kernel
theorem zd231_107 : decode zxm231.2.1 107 = .ok (.aload_n 0, 1) := by decide +kernel
theorem zd231_108 : decode zxm231.2.1 108 = .ok (.getfield 206, 3) := by decide +kernel
theorem zd231_111 : decode zxm231.2.1 111 = .ok (.iconst 1, 1) := by decide +kernel
theorem zd231_112 : decode zxm231.2.1 112 = .ok (.isub, 1) := by decide +kernel
theorem zd231_113 : decode zxm231.2.1 113 = .ok (.putfield 206, 3) := by decide +kernel
theorem zd231_116 : decode zxm231.2.1 116 = .ok (.aload_n 0, 1) := by decide +kernel
theorem zd231_117 : decode zxm231.2.1 117 = .ok (.aload_n 0, 1) := by decide +kernel
theorem zd231_118 : decode zxm231.2.1 118 = .ok (.getfield 203, 3) := by decide +kernel
theorem zd231_121 : decode zxm231.2.1 121 = .ok (.iconst 1, 1) := by decide +kernel
theorem zd231_122 : decode zxm231.2.1 122 = .ok (.isub, 1) := by decide +kernel
theorem zd231_123 : decode zxm231.2.1 123 = .ok (.putfield 203, 3) := by decide +kernel
theorem zd231_126 : decode zxm231.2.1 126 = .ok (.aload_n 0, 1) := by decide +kernel
theorem zd231_127 : decode zxm231.2.1 127 = .ok (.aload_n 0, 1) := by decide +kernel
theorem zd231_128 : decode zxm231.2.1 128 = .ok (.getfield 176, 3) := by decide +kernel
theorem zd231_131 : decode zxm231.2.1 131 = .ok (.iconst 1, 1) := by decide +kernel
theorem zd231_132 : decode zxm231.2.1 132 = .ok (.iadd, 1) := by decide +kernel
theorem zd231_133 : decode zxm231.2.1 133 = .ok (.putfield 176, 3) := by decide +kernel
theorem zd231_136 : decode zxm231.2.1 136 = .ok (.aload_n 0, 1) := by decide +kernel
theorem zd231_137 : decode zxm231.2.1 137 = .ok (.getfield 206, 3) := by decide +kernel
theorem zd231_140 : decode zxm231.2.1 140 = .ok (.ifCond .ne 5, 3) := by decide +kernel
theorem zd231_143 : decode zxm231.2.1 143 = .ok (.iconst 1, 1) := by decide +kernel
theorem zd231_144 : decode zxm231.2.1 144 = .ok (.ireturn, 1) := by decide +kernel
theorem zd231_145 : decode zxm231.2.1 145 = .ok (.aload_n 0, 1) := by decide +kernel
theorem zd231_146 : decode zxm231.2.1 146 = .ok (.invokevirtual 241, 3) := by decide +kernel
theorem zd231_149 : decode zxm231.2.1 149 = .ok (.goto (-57), 3) := by decide +kernel
theorem zd231_152 : decode zxm231.2.1 152 = .ok (.aload_n 0, 1) := by decide +kernel
theorem zd231_153 : decode zxm231.2.1 153 = .ok (.invokevirtual 182, 3) := by decide +kernel
theorem zd231_156 : decode zxm231.2.1 156 = .ok (.bipush 38, 2) := by decide +kernel
theorem zd231_158 : decode zxm231.2.1 158 = .ok (.if_icmp .eq 22, 3) := by decide +kernel
theorem zd231_161 : decode zxm231.2.1 161 = .ok (.aload_n 0, 1) := by decide +kernel
theorem zd231_162 : decode zxm231.2.1 162 = .ok (.invokevirtual 182, 3) := by decide +kernel
theorem zd231_165 : decode zxm231.2.1 165 = .ok (.bipush 124, 2) := by decide +kernel
theorem zd231_167 : decode zxm231.2.1 167 = .ok (.if_icmp .eq 13, 3) := by decide +kernel
theorem zd231_170 : decode zxm231.2.1 170 = .ok (.aload_n 0, 1) := by decide +kernel
theorem zd231_171 : decode zxm231.2.1 171 = .ok (.iconst 1, 1) := by decide +kernel
theorem zd231_172 : decode zxm231.2.1 172 = .ok (.aload_n 0, 1) := by decide +kernel
theorem zd231_173 : decode zxm231.2.1 173 = .ok (.getfield 176, 3) := by decide +kernel
theorem zd231_176 : decode zxm231.2.1 176 = .ok (.invokevirtual 189, 3) := by decide +kernel
theorem zd231_179 : decode zxm231.2.1 179 = .ok (.ireturn, 1) := by decide +kernel
theorem zd231_180 : decode zxm231.2.1 180 = .ok (.aload_n 0, 1) := by decide +kernel
theorem zd231_181 : decode zxm231.2.1 181 = .ok (.aload_n 0, 1) := by decide +kernel
theorem zd231_182 : decode zxm231.2.1 182 = .ok (.invokevirtual 182, 3) := by decide +kernel
theorem zd231_185 : decode zxm231.2.1 185 = .ok (.bipush 124, 2) := by decide +kernel
theorem zd231_187 : decode zxm231.2.1 187 = .ok (.if_icmp .ne 7, 3) := by decide +kernel
theorem zd231_190 : decode zxm231.2.1 190 = .ok (.iconst 1, 1) := by decide +kernel
theorem zd231_191 : decode zxm231.2.1 191 = .ok (.goto 4, 3) := by decide +kernel
theorem zd231_194 : decode zxm231.2.1 194 = .ok (.iconst 0, 1) := by decide +kernel
theorem zd231_195 : decode zxm231.2.1 195 = .ok (.invokevirtual 247, 3) := by decide +kernel
theorem zd231_198 : decode zxm231.2.1 198 = .ok (.aload_n 0, 1) := by decide +kernel
theorem zd231_199 : decode zxm231.2.1 199 = .ok (.aload_n 0, 1) := by decide +kernel
theorem zd231_200 : decode zxm231.2.1 200 = .ok (.invokevirtual 182, 3) := by decide +kernel
theorem zd231_203 : decode zxm231.2.1 203 = .ok (.bipush 38, 2) := by decide +kernel
theorem zd231_205 : decode zxm231.2.1 205 = .ok (.if_icmp .ne 8, 3) := by decide +kernel
theorem zd231_208 : decode zxm231.2.1 208 = .ok (.bipush 11, 2) := by decide +kernel
theorem zd231_210 : decode zxm231.2.1 210 = .ok (.goto 5, 3) := by decide +kernel
theorem zd231_213 : decode zxm231.2.1 213 = .ok (.bipush 12, 2) := by decide +kernel
theorem zd231_215 : decode zxm231.2.1 215 = .ok (.invokevirtual 250, 3) := by decide +kernel
theorem zd231_218 : decode zxm231.2.1 218 = .ok (.goto (-178), 3) := by decide +kernel
theorem zt_M_readsCondition {f0 : Int} {f1 : Int} {f2 : Int} {f3 : Int} {f4 : Int} {f5 : Int} {f6 : Int} {g0 : (Int → Int)} {g1 : (Int → Int)} {g2 : (Int → Int)} {o : Int × Int × Int × Int × Int × Int × Int × (Int → Int) × (Int → Int)} (h : zf_M_readsCondition f0 f1 f2 f3 f4 f5 f6 g0 g1 g2 = some o) : zv_Fn z_TB z_cl z_KX zy_M_readsCondition zxm231 (6, 360) [.inr 0] [.inl f0, .inl f1, .inl f2, .inl f3, .inl f4, .inl f5, .inl f6] [g0, g1, g2] (some o.1) [.inl o.2.1, .inl f1, .inl o.2.2.1, .inl o.2.2.2.1, .inl o.2.2.2.2.1, .inl o.2.2.2.2.2.1, .inl o.2.2.2.2.2.2.1] [g0, o.2.2.2.2.2.2.2.1, o.2.2.2.2.2.2.2.2] := zv_meth (K := (z_KF13, z_KC13, z_KL13, z_KT13, [], [], [], none)) (FT := z_FT) (MT := z_MT) (n := 1) zxp231 (z_ks13 _ (fun _ h => List.mem_cons_of_mem _ h) _ _ _ _ (fun j r h _ => by cases h)) (fun _ _ => zs_KX_p) zyw_M_readsCondition (fun va F G h => by obtain ⟨rfl, _⟩ := h; rfl) (fun va F G h => by obtain ⟨rfl, _⟩ := h; rfl) rfl fun good va F G hB hret hvret hP => by
  obtain ⟨rfl, rfl, rfl⟩ := hP
  have l1 : ∀ (n : Nat) (f0 : Int) (f2 : Int) (f3 : Int) (f4 : Int) (f5 : Int) (f6 : Int) (g1 : (Int → Int)) (g2 : (Int → Int)) (q : ((Int × Int × Int × Int × (Int → Int)) ⊕ (Int × Int × Int × Int × Int × Int × Int × (Int → Int) × (Int → Int)))), zf_M_readsCondition_l1 f1 f4 f6 g0 g1 n f0 f2 f3 f5 g2 = some q → (Sum.elim (fun e : Int × Int × Int × Int × (Int → Int) => good 152 [.inr 0] [] [.inl e.1, .inl f1, .inl e.2.1, .inl e.2.2.1, .inl f4, .inl e.2.2.2.1, .inl f6] [g0, g1, e.2.2.2.2]) (fun w : Int × Int × Int × Int × Int × Int × Int × (Int → Int) × (Int → Int) => w = o) q) → good 92 [.inr 0] [] [.inl f0, .inl f1, .inl f2, .inl f3, .inl f4, .inl f5, .inl f6] [g0, g1, g2] := by
    intro n
    induction n with
    | zero => intro f0 f2 f3 f4 f5 f6 g1 g2 q h; exact absurd (show none = some q from h) (fun h => by cases h)
    | succ n ih =>
      intro f0 f2 f3 f4 f5 f6 g1 g2 q h hK
      replace h : zf_M_readsCondition_l1_b f1 f4 f6 g0 g1 (zf_M_readsCondition_l1 f1 f4 f6 g0 g1 n) f0 f2 f3 f5 g2 = some q := h
      unfold zf_M_readsCondition_l1_b at h
      refine zv_ald hB zd231_92 rfl rfl rfl ?_
      obtain ⟨r17, hr17, h⟩ := zi_bind h
      refine zv_cv hB (zv_emq (va2 := [.inr 0]) (F := [.inl f0, .inl f1, .inl f2, .inl f3, .inl f4, .inl f5, .inl f6]) (F' := [.inl f0, .inl f1, .inl f2, .inl f3, .inl f4, .inl f5, .inl f6]) (G := [g0, g1, g2]) (G' := [g0, g1, g2]) (ρ := [0, 1]) (φ := [0, 1]) (ψ := [0]) [some 0, some 1, none, none, none, none, none] [some 0, none, none] zyw_M_here zyw_M_readsCondition zye_M_readsCondition (by decide +kernel) (zt_M_here hr17) ⟨⟨_, rfl, fun _ => rfl⟩, ⟨_, rfl, fun _ => rfl⟩, trivial⟩ ⟨rfl, trivial⟩ rfl rfl rfl rfl rfl rfl rfl) zd231_93 zxt217 rfl (by decide) (by decide) rfl ?_
      refine zv_con hB zd231_96 rfl ?_
      refine zv_cne hB zd231_98 rfl (fun hc18 => ?_) (fun hc18 => ?_)
      · rw [if_neg hc18] at h
        have hq := Option.some.inj h
        subst hq
        exact hK
      · rw [if_pos hc18] at h
        refine zv_ald hB zd231_101 rfl rfl rfl ?_
        refine zv_con hB zd231_102 rfl ?_
        obtain ⟨r19, hr19, h⟩ := zi_bind h
        refine zv_cv hB (zv_emq (va2 := [.inr 0, .inl 1]) (F := [.inl f0, .inl f1, .inl f2, .inl f3, .inl f4, .inl f5, .inl f6]) (F' := [.inl f0, .inl f1, .inl f2, .inl r19.1, .inl f4, .inl f5, .inl f6]) (G := [g0, g1, g2]) (G' := [g0, g1, r19.2]) (ρ := [0, 2, 3]) (φ := [3, 5]) (ψ := [1, 2]) [none, none, none, some 0, none, some 1, none] [none, some 0, some 1] zyw_M_lands zyw_M_readsCondition zye_M_readsCondition (by decide +kernel) (zt_M_lands hr19) ⟨⟨_, rfl, fun _ => rfl⟩, ⟨_, rfl, fun _ => rfl⟩, trivial⟩ ⟨rfl, rfl, trivial⟩ rfl rfl rfl rfl rfl rfl rfl) zd231_103 zxt234 rfl (by decide) (by decide) rfl ?_
        refine zv_ald hB zd231_106 rfl rfl rfl ?_
        refine zv_ald hB zd231_107 rfl rfl rfl ?_
        refine zv_getf hB zd231_108 rfl rfl (fun _ _ => ?_)
        refine zv_con hB zd231_111 rfl ?_
        refine zv_subw hB zd231_112 ?_
        refine zv_putf hB zd231_113 rfl rfl (fun h => by cases h) rfl ?_
        refine zv_ald hB zd231_116 rfl rfl rfl ?_
        refine zv_ald hB zd231_117 rfl rfl rfl ?_
        refine zv_getf hB zd231_118 rfl rfl (fun _ _ => ?_)
        refine zv_con hB zd231_121 rfl ?_
        refine zv_subw hB zd231_122 ?_
        refine zv_putf hB zd231_123 rfl rfl (fun h => by cases h) rfl ?_
        refine zv_ald hB zd231_126 rfl rfl rfl ?_
        refine zv_ald hB zd231_127 rfl rfl rfl ?_
        refine zv_getf hB zd231_128 rfl rfl (fun _ _ => ?_)
        refine zv_con hB zd231_131 rfl ?_
        refine zv_addw hB zd231_132 ?_
        refine zv_putf hB zd231_133 rfl rfl (fun h => by cases h) rfl ?_
        refine zv_ald hB zd231_136 rfl rfl rfl ?_
        refine zv_getf hB zd231_137 rfl rfl (fun _ _ => ?_)
        refine zv_zne hB zd231_140 rfl (fun hc20 => ?_) (fun hc20 => ?_)
        · rw [if_neg hc20] at h
          refine zv_ald hB zd231_145 rfl rfl rfl ?_
          obtain ⟨r21, hr21, h⟩ := zi_bind h
          refine zv_cv hB (zv_emq (va2 := [.inr 0]) (F := [.inl (zi_w (f0 + 1)), .inl f1, .inl (zi_w (f2 - 1)), .inl (zi_w (r19.1 - 1)), .inl f4, .inl f5, .inl f6]) (F' := [.inl (zi_w (f0 + 1)), .inl f1, .inl r21.2.2.1, .inl r21.1, .inl f4, .inl r21.2.1, .inl f6]) (G := [g0, g1, r19.2]) (G' := [g0, g1, r21.2.2.2]) (ρ := [0, 2, 3]) (φ := [3, 5, 2]) (ψ := [1, 2]) [none, none, some 2, some 0, none, some 1, none] [none, some 0, some 1] zyw_M_endsPiece zyw_M_readsCondition zye_M_readsCondition (by decide +kernel) (zt_M_endsPiece hr21) ⟨⟨_, rfl, fun _ => rfl⟩, ⟨_, rfl, fun _ => rfl⟩, ⟨_, rfl, fun _ => rfl⟩, trivial⟩ ⟨rfl, rfl, trivial⟩ rfl rfl rfl rfl rfl rfl rfl) zd231_146 zxt233 rfl (by decide) (by decide) rfl ?_
          refine zv_goto hB zd231_149 rfl ?_
          exact ih _ _ _ _ _ _ _ _ q h hK
        · rw [if_pos hc20] at h
          refine zv_con hB zd231_143 rfl ?_
          have hw : (1, (zi_w (f0 + 1)), (zi_w (f2 - 1)), (zi_w (r19.1 - 1)), f4, f5, f6, g1, r19.2) = o := zi_rk (Option.some.inj h) hK
          subst hw
          exact hret _ _ _ _ _ zd231_144 (by constructor <;> decide) ⟨rfl, rfl, rfl⟩
  have l0 : ∀ (n : Nat) (f0 : Int) (f2 : Int) (f3 : Int) (f4 : Int) (f5 : Int) (f6 : Int) (g1 : (Int → Int)) (g2 : (Int → Int)) (q : ((Int × Int × Int × Int × Int × Int × (Int → Int) × (Int → Int)) ⊕ (Int × Int × Int × Int × Int × Int × Int × (Int → Int) × (Int → Int)))), zf_M_readsCondition_l0 f1 g0 n f0 f2 f3 f4 f5 f6 g1 g2 = some q → (Sum.elim (fun e : Int × Int × Int × Int × Int × Int × (Int → Int) × (Int → Int) => good 170 [.inr 0] [] [.inl e.1, .inl f1, .inl e.2.1, .inl e.2.2.1, .inl e.2.2.2.1, .inl e.2.2.2.2.1, .inl e.2.2.2.2.2.1] [g0, e.2.2.2.2.2.2.1, e.2.2.2.2.2.2.2]) (fun w : Int × Int × Int × Int × Int × Int × Int × (Int → Int) × (Int → Int) => w = o) q) → good 40 [.inr 0] [] [.inl f0, .inl f1, .inl f2, .inl f3, .inl f4, .inl f5, .inl f6] [g0, g1, g2] := by
    intro n
    induction n with
    | zero => intro f0 f2 f3 f4 f5 f6 g1 g2 q h; exact absurd (show none = some q from h) (fun h => by cases h)
    | succ n ih =>
      intro f0 f2 f3 f4 f5 f6 g1 g2 q h hK
      replace h : zf_M_readsCondition_l0_b f1 g0 (zf_M_readsCondition_l0 f1 g0 n) f0 f2 f3 f4 f5 f6 g1 g2 = some q := h
      unfold zf_M_readsCondition_l0_b at h
      refine zv_ald hB zd231_40 rfl rfl rfl ?_
      obtain ⟨r5, hr5, h⟩ := zi_bind h
      refine zv_cv hB (zv_emq (va2 := [.inr 0]) (F := [.inl f0, .inl f1, .inl f2, .inl f3, .inl f4, .inl f5, .inl f6]) (F' := [.inl f0, .inl f1, .inl f2, .inl f3, .inl f4, .inl f5, .inl f6]) (G := [g0, g1, g2]) (G' := [g0, g1, g2]) (ρ := [0, 1]) (φ := [0, 1]) (ψ := [0]) [some 0, some 1, none, none, none, none, none] [some 0, none, none] zyw_M_here zyw_M_readsCondition zye_M_readsCondition (by decide +kernel) (zt_M_here hr5) ⟨⟨_, rfl, fun _ => rfl⟩, ⟨_, rfl, fun _ => rfl⟩, trivial⟩ ⟨rfl, trivial⟩ rfl rfl rfl rfl rfl rfl rfl) zd231_41 zxt217 rfl (by decide) (by decide) rfl ?_
      refine zv_con hB zd231_44 rfl ?_
      refine zv_ceq hB zd231_46 rfl (fun hc6 => ?_) (fun hc6 => ?_)
      · rw [if_pos hc6] at h
        refine zv_ald hB zd231_58 rfl rfl rfl ?_
        refine zv_ald hB zd231_59 rfl rfl rfl ?_
        obtain ⟨r7, hr7, h⟩ := zi_bind h
        refine zv_cv hB (zv_emq (va2 := [.inr 0]) (F := [.inl f0, .inl f1, .inl f2, .inl f3, .inl f4, .inl f5, .inl f6]) (F' := [.inl f0, .inl f1, .inl f2, .inl f3, .inl f4, .inl f5, .inl f6]) (G := [g0, g1, g2]) (G' := [g0, g1, g2]) (ρ := [0, 1]) (φ := [0, 1]) (ψ := [0]) [some 0, some 1, none, none, none, none, none] [some 0, none, none] zyw_M_here zyw_M_readsCondition zye_M_readsCondition (by decide +kernel) (zt_M_here hr7) ⟨⟨_, rfl, fun _ => rfl⟩, ⟨_, rfl, fun _ => rfl⟩, trivial⟩ ⟨rfl, trivial⟩ rfl rfl rfl rfl rfl rfl rfl) zd231_60 zxt217 rfl (by decide) (by decide) rfl ?_
        refine zv_con hB zd231_63 rfl ?_
        refine zv_cne hB zd231_65 rfl (fun hc8 => ?_) (fun hc8 => ?_)
        · rw [if_neg hc8] at h
          refine zv_con hB zd231_73 rfl ?_
          obtain ⟨r9, hr9, h⟩ := zi_bind h
          refine zv_cv hB (zv_emq (va2 := [.inr 0, .inl 13]) (F := [.inl f0, .inl f1, .inl f2, .inl f3, .inl f4, .inl f5, .inl f6]) (F' := [.inl r9.2.2.2.1, .inl f1, .inl r9.2.1, .inl r9.2.2.1, .inl r9.2.2.2.2.1, .inl f5, .inl f6]) (G := [g0, g1, g2]) (G' := [g0, r9.2.2.2.2.2, g2]) (ρ := [0, 2]) (φ := [2, 3, 0, 4]) (ψ := [1]) [some 2, none, some 0, some 1, some 3, none, none] [none, some 0, none] zyw_M_opens zyw_M_readsCondition zye_M_readsCondition (by decide +kernel) (zt_M_opens hr9) ⟨⟨_, rfl, fun _ => rfl⟩, ⟨_, rfl, fun _ => rfl⟩, ⟨_, rfl, fun _ => rfl⟩, ⟨_, rfl, fun _ => rfl⟩, trivial⟩ ⟨rfl, trivial⟩ rfl rfl rfl rfl rfl rfl rfl) zd231_75 zxt222 rfl (by decide) (by decide) rfl ?_
          refine zv_zne hB zd231_78 rfl (fun hc10 => ?_) (fun hc10 => ?_)
          · rw [if_neg hc10] at h
            exact ih _ _ _ _ _ _ _ _ q h hK
          · rw [if_pos hc10] at h
            refine zv_con hB zd231_81 rfl ?_
            have hw : (0, r9.2.2.2.1, r9.2.1, r9.2.2.1, r9.2.2.2.2.1, f5, f6, r9.2.2.2.2.2, g2) = o := zi_rk (Option.some.inj h) hK
            subst hw
            exact hret _ _ _ _ _ zd231_82 (by constructor <;> decide) ⟨rfl, rfl, rfl⟩
        · rw [if_pos hc8] at h
          refine zv_con hB zd231_68 rfl ?_
          refine zv_goto hB zd231_70 rfl ?_
          obtain ⟨r11, hr11, h⟩ := zi_bind h
          refine zv_cv hB (zv_emq (va2 := [.inr 0, .inl 10]) (F := [.inl f0, .inl f1, .inl f2, .inl f3, .inl f4, .inl f5, .inl f6]) (F' := [.inl r11.2.2.2.1, .inl f1, .inl r11.2.1, .inl r11.2.2.1, .inl r11.2.2.2.2.1, .inl f5, .inl f6]) (G := [g0, g1, g2]) (G' := [g0, r11.2.2.2.2.2, g2]) (ρ := [0, 2]) (φ := [2, 3, 0, 4]) (ψ := [1]) [some 2, none, some 0, some 1, some 3, none, none] [none, some 0, none] zyw_M_opens zyw_M_readsCondition zye_M_readsCondition (by decide +kernel) (zt_M_opens hr11) ⟨⟨_, rfl, fun _ => rfl⟩, ⟨_, rfl, fun _ => rfl⟩, ⟨_, rfl, fun _ => rfl⟩, ⟨_, rfl, fun _ => rfl⟩, trivial⟩ ⟨rfl, trivial⟩ rfl rfl rfl rfl rfl rfl rfl) zd231_75 zxt222 rfl (by decide) (by decide) rfl ?_
          refine zv_zne hB zd231_78 rfl (fun hc12 => ?_) (fun hc12 => ?_)
          · rw [if_neg hc12] at h
            exact ih _ _ _ _ _ _ _ _ q h hK
          · rw [if_pos hc12] at h
            refine zv_con hB zd231_81 rfl ?_
            have hw : (0, r11.2.2.2.1, r11.2.1, r11.2.2.1, r11.2.2.2.2.1, f5, f6, r11.2.2.2.2.2, g2) = o := zi_rk (Option.some.inj h) hK
            subst hw
            exact hret _ _ _ _ _ zd231_82 (by constructor <;> decide) ⟨rfl, rfl, rfl⟩
      · rw [if_neg hc6] at h
        refine zv_ald hB zd231_49 rfl rfl rfl ?_
        obtain ⟨r13, hr13, h⟩ := zi_bind h
        refine zv_cv hB (zv_emq (va2 := [.inr 0]) (F := [.inl f0, .inl f1, .inl f2, .inl f3, .inl f4, .inl f5, .inl f6]) (F' := [.inl f0, .inl f1, .inl f2, .inl f3, .inl f4, .inl f5, .inl f6]) (G := [g0, g1, g2]) (G' := [g0, g1, g2]) (ρ := [0, 1]) (φ := [0, 1]) (ψ := [0]) [some 0, some 1, none, none, none, none, none] [some 0, none, none] zyw_M_here zyw_M_readsCondition zye_M_readsCondition (by decide +kernel) (zt_M_here hr13) ⟨⟨_, rfl, fun _ => rfl⟩, ⟨_, rfl, fun _ => rfl⟩, trivial⟩ ⟨rfl, trivial⟩ rfl rfl rfl rfl rfl rfl rfl) zd231_50 zxt217 rfl (by decide) (by decide) rfl ?_
        refine zv_con hB zd231_53 rfl ?_
        refine zv_cne hB zd231_55 rfl (fun hc14 => ?_) (fun hc14 => ?_)
        · rw [if_neg hc14] at h
          refine zv_ald hB zd231_83 rfl rfl rfl ?_
          obtain ⟨r15, hr15, h⟩ := zi_bind h
          refine zv_cv hB (zv_emq (va2 := [.inr 0]) (F := [.inl f0, .inl f1, .inl f2, .inl f3, .inl f4, .inl f5, .inl f6]) (F' := [.inl r15.2.2.1, .inl f1, .inl r15.2.2.2.1, .inl r15.2.1, .inl r15.2.2.2.2.1, .inl r15.2.2.2.2.2.1, .inl r15.2.2.2.2.2.2.1]) (G := [g0, g1, g2]) (G' := [g0, r15.2.2.2.2.2.2.2.1, r15.2.2.2.2.2.2.2.2]) (ρ := [0, 1, 2, 3]) (φ := [3, 0, 1, 2, 4, 5, 6]) (ψ := [0, 1, 2]) [some 1, some 2, some 3, some 0, some 4, some 5, some 6] [some 0, some 1, some 2] zyw_M_readsCompared zyw_M_readsCondition zye_M_readsCondition (by decide +kernel) (zt_M_readsCompared hr15) ⟨⟨_, rfl, fun _ => rfl⟩, ⟨_, rfl, fun _ => rfl⟩, ⟨_, rfl, fun _ => rfl⟩, ⟨_, rfl, fun _ => rfl⟩, ⟨_, rfl, fun _ => rfl⟩, ⟨_, rfl, fun _ => rfl⟩, ⟨_, rfl, fun _ => rfl⟩, trivial⟩ ⟨rfl, rfl, rfl, trivial⟩ rfl rfl rfl rfl rfl rfl rfl) zd231_84 zxt232 rfl (by decide) (by decide) rfl ?_
          refine zv_zne hB zd231_87 rfl (fun hc16 => ?_) (fun hc16 => ?_)
          · rw [if_neg hc16] at h
            obtain ⟨q22, hq22, h⟩ := zi_bind h
            refine l1 _ _ _ _ _ _ _ _ _ q22 hq22 ?_
            rcases q22 with e23 | w52
            · replace h := zi_sl h
              show good 152 [.inr 0] [] [.inl e23.1, .inl f1, .inl e23.2.1, .inl e23.2.2.1, .inl r15.2.2.2.2.1, .inl e23.2.2.2.1, .inl r15.2.2.2.2.2.2.1] [g0, r15.2.2.2.2.2.2.2.1, e23.2.2.2.2]
              refine zv_ald hB zd231_152 rfl rfl rfl ?_
              obtain ⟨r24, hr24, h⟩ := zi_bind h
              refine zv_cv hB (zv_emq (va2 := [.inr 0]) (F := [.inl e23.1, .inl f1, .inl e23.2.1, .inl e23.2.2.1, .inl r15.2.2.2.2.1, .inl e23.2.2.2.1, .inl r15.2.2.2.2.2.2.1]) (F' := [.inl e23.1, .inl f1, .inl e23.2.1, .inl e23.2.2.1, .inl r15.2.2.2.2.1, .inl e23.2.2.2.1, .inl r15.2.2.2.2.2.2.1]) (G := [g0, r15.2.2.2.2.2.2.2.1, e23.2.2.2.2]) (G' := [g0, r15.2.2.2.2.2.2.2.1, e23.2.2.2.2]) (ρ := [0, 1]) (φ := [0, 1]) (ψ := [0]) [some 0, some 1, none, none, none, none, none] [some 0, none, none] zyw_M_here zyw_M_readsCondition zye_M_readsCondition (by decide +kernel) (zt_M_here hr24) ⟨⟨_, rfl, fun _ => rfl⟩, ⟨_, rfl, fun _ => rfl⟩, trivial⟩ ⟨rfl, trivial⟩ rfl rfl rfl rfl rfl rfl rfl) zd231_153 zxt217 rfl (by decide) (by decide) rfl ?_
              refine zv_con hB zd231_156 rfl ?_
              refine zv_ceq hB zd231_158 rfl (fun hc25 => ?_) (fun hc25 => ?_)
              · rw [if_pos hc25] at h
                refine zv_ald hB zd231_180 rfl rfl rfl ?_
                refine zv_ald hB zd231_181 rfl rfl rfl ?_
                obtain ⟨r26, hr26, h⟩ := zi_bind h
                refine zv_cv hB (zv_emq (va2 := [.inr 0]) (F := [.inl e23.1, .inl f1, .inl e23.2.1, .inl e23.2.2.1, .inl r15.2.2.2.2.1, .inl e23.2.2.2.1, .inl r15.2.2.2.2.2.2.1]) (F' := [.inl e23.1, .inl f1, .inl e23.2.1, .inl e23.2.2.1, .inl r15.2.2.2.2.1, .inl e23.2.2.2.1, .inl r15.2.2.2.2.2.2.1]) (G := [g0, r15.2.2.2.2.2.2.2.1, e23.2.2.2.2]) (G' := [g0, r15.2.2.2.2.2.2.2.1, e23.2.2.2.2]) (ρ := [0, 1]) (φ := [0, 1]) (ψ := [0]) [some 0, some 1, none, none, none, none, none] [some 0, none, none] zyw_M_here zyw_M_readsCondition zye_M_readsCondition (by decide +kernel) (zt_M_here hr26) ⟨⟨_, rfl, fun _ => rfl⟩, ⟨_, rfl, fun _ => rfl⟩, trivial⟩ ⟨rfl, trivial⟩ rfl rfl rfl rfl rfl rfl rfl) zd231_182 zxt217 rfl (by decide) (by decide) rfl ?_
                refine zv_con hB zd231_185 rfl ?_
                refine zv_cne hB zd231_187 rfl (fun hc27 => ?_) (fun hc27 => ?_)
                · rw [if_neg hc27] at h
                  refine zv_con hB zd231_194 rfl ?_
                  obtain ⟨r28, hr28, h⟩ := zi_bind h
                  refine zv_cv hB (zv_emq (va2 := [.inr 0, .inl 0]) (F := [.inl e23.1, .inl f1, .inl e23.2.1, .inl e23.2.2.1, .inl r15.2.2.2.2.1, .inl e23.2.2.2.1, .inl r15.2.2.2.2.2.2.1]) (F' := [.inl e23.1, .inl f1, .inl e23.2.1, .inl r28.1, .inl r15.2.2.2.2.1, .inl e23.2.2.2.1, .inl r15.2.2.2.2.2.2.1]) (G := [g0, r15.2.2.2.2.2.2.2.1, e23.2.2.2.2]) (G' := [g0, r15.2.2.2.2.2.2.2.1, r28.2]) (ρ := [0, 2, 3]) (φ := [3, 5]) (ψ := [1, 2]) [none, none, none, some 0, none, some 1, none] [none, some 0, some 1] zyw_M_lands zyw_M_readsCondition zye_M_readsCondition (by decide +kernel) (zt_M_lands hr28) ⟨⟨_, rfl, fun _ => rfl⟩, ⟨_, rfl, fun _ => rfl⟩, trivial⟩ ⟨rfl, rfl, trivial⟩ rfl rfl rfl rfl rfl rfl rfl) zd231_195 zxt234 rfl (by decide) (by decide) rfl ?_
                  refine zv_ald hB zd231_198 rfl rfl rfl ?_
                  refine zv_ald hB zd231_199 rfl rfl rfl ?_
                  obtain ⟨r29, hr29, h⟩ := zi_bind h
                  refine zv_cv hB (zv_emq (va2 := [.inr 0]) (F := [.inl e23.1, .inl f1, .inl e23.2.1, .inl r28.1, .inl r15.2.2.2.2.1, .inl e23.2.2.2.1, .inl r15.2.2.2.2.2.2.1]) (F' := [.inl e23.1, .inl f1, .inl e23.2.1, .inl r28.1, .inl r15.2.2.2.2.1, .inl e23.2.2.2.1, .inl r15.2.2.2.2.2.2.1]) (G := [g0, r15.2.2.2.2.2.2.2.1, r28.2]) (G' := [g0, r15.2.2.2.2.2.2.2.1, r28.2]) (ρ := [0, 1]) (φ := [0, 1]) (ψ := [0]) [some 0, some 1, none, none, none, none, none] [some 0, none, none] zyw_M_here zyw_M_readsCondition zye_M_readsCondition (by decide +kernel) (zt_M_here hr29) ⟨⟨_, rfl, fun _ => rfl⟩, ⟨_, rfl, fun _ => rfl⟩, trivial⟩ ⟨rfl, trivial⟩ rfl rfl rfl rfl rfl rfl rfl) zd231_200 zxt217 rfl (by decide) (by decide) rfl ?_
                  refine zv_con hB zd231_203 rfl ?_
                  refine zv_cne hB zd231_205 rfl (fun hc30 => ?_) (fun hc30 => ?_)
                  · rw [if_neg hc30] at h
                    refine zv_con hB zd231_213 rfl ?_
                    obtain ⟨r31, hr31, h⟩ := zi_bind h
                    refine zv_cv hB (zv_emq (va2 := [.inr 0, .inl 12]) (F := [.inl e23.1, .inl f1, .inl e23.2.1, .inl r28.1, .inl r15.2.2.2.2.1, .inl e23.2.2.2.1, .inl r15.2.2.2.2.2.2.1]) (F' := [.inl r31.2.2.1, .inl f1, .inl e23.2.1, .inl r31.1, .inl r15.2.2.2.2.1, .inl r31.2.1, .inl r15.2.2.2.2.2.2.1]) (G := [g0, r15.2.2.2.2.2.2.2.1, r28.2]) (G' := [g0, r31.2.2.2.1, r31.2.2.2.2]) (ρ := [0, 2, 3]) (φ := [3, 5, 0]) (ψ := [1, 2]) [some 2, none, none, some 0, none, some 1, none] [none, some 0, some 1] zyw_M_jumps zyw_M_readsCondition zye_M_readsCondition (by decide +kernel) (zt_M_jumps hr31) ⟨⟨_, rfl, fun _ => rfl⟩, ⟨_, rfl, fun _ => rfl⟩, ⟨_, rfl, fun _ => rfl⟩, trivial⟩ ⟨rfl, rfl, trivial⟩ rfl rfl rfl rfl rfl rfl rfl) zd231_215 zxt235 rfl (by decide) (by decide) rfl ?_
                    refine zv_goto hB zd231_218 rfl ?_
                    exact ih _ _ _ _ _ _ _ _ q h hK
                  · rw [if_pos hc30] at h
                    refine zv_con hB zd231_208 rfl ?_
                    refine zv_goto hB zd231_210 rfl ?_
                    obtain ⟨r32, hr32, h⟩ := zi_bind h
                    refine zv_cv hB (zv_emq (va2 := [.inr 0, .inl 11]) (F := [.inl e23.1, .inl f1, .inl e23.2.1, .inl r28.1, .inl r15.2.2.2.2.1, .inl e23.2.2.2.1, .inl r15.2.2.2.2.2.2.1]) (F' := [.inl r32.2.2.1, .inl f1, .inl e23.2.1, .inl r32.1, .inl r15.2.2.2.2.1, .inl r32.2.1, .inl r15.2.2.2.2.2.2.1]) (G := [g0, r15.2.2.2.2.2.2.2.1, r28.2]) (G' := [g0, r32.2.2.2.1, r32.2.2.2.2]) (ρ := [0, 2, 3]) (φ := [3, 5, 0]) (ψ := [1, 2]) [some 2, none, none, some 0, none, some 1, none] [none, some 0, some 1] zyw_M_jumps zyw_M_readsCondition zye_M_readsCondition (by decide +kernel) (zt_M_jumps hr32) ⟨⟨_, rfl, fun _ => rfl⟩, ⟨_, rfl, fun _ => rfl⟩, ⟨_, rfl, fun _ => rfl⟩, trivial⟩ ⟨rfl, rfl, trivial⟩ rfl rfl rfl rfl rfl rfl rfl) zd231_215 zxt235 rfl (by decide) (by decide) rfl ?_
                    refine zv_goto hB zd231_218 rfl ?_
                    exact ih _ _ _ _ _ _ _ _ q h hK
                · rw [if_pos hc27] at h
                  refine zv_con hB zd231_190 rfl ?_
                  refine zv_goto hB zd231_191 rfl ?_
                  obtain ⟨r33, hr33, h⟩ := zi_bind h
                  refine zv_cv hB (zv_emq (va2 := [.inr 0, .inl 1]) (F := [.inl e23.1, .inl f1, .inl e23.2.1, .inl e23.2.2.1, .inl r15.2.2.2.2.1, .inl e23.2.2.2.1, .inl r15.2.2.2.2.2.2.1]) (F' := [.inl e23.1, .inl f1, .inl e23.2.1, .inl r33.1, .inl r15.2.2.2.2.1, .inl e23.2.2.2.1, .inl r15.2.2.2.2.2.2.1]) (G := [g0, r15.2.2.2.2.2.2.2.1, e23.2.2.2.2]) (G' := [g0, r15.2.2.2.2.2.2.2.1, r33.2]) (ρ := [0, 2, 3]) (φ := [3, 5]) (ψ := [1, 2]) [none, none, none, some 0, none, some 1, none] [none, some 0, some 1] zyw_M_lands zyw_M_readsCondition zye_M_readsCondition (by decide +kernel) (zt_M_lands hr33) ⟨⟨_, rfl, fun _ => rfl⟩, ⟨_, rfl, fun _ => rfl⟩, trivial⟩ ⟨rfl, rfl, trivial⟩ rfl rfl rfl rfl rfl rfl rfl) zd231_195 zxt234 rfl (by decide) (by decide) rfl ?_
                  refine zv_ald hB zd231_198 rfl rfl rfl ?_
                  refine zv_ald hB zd231_199 rfl rfl rfl ?_
                  obtain ⟨r34, hr34, h⟩ := zi_bind h
                  refine zv_cv hB (zv_emq (va2 := [.inr 0]) (F := [.inl e23.1, .inl f1, .inl e23.2.1, .inl r33.1, .inl r15.2.2.2.2.1, .inl e23.2.2.2.1, .inl r15.2.2.2.2.2.2.1]) (F' := [.inl e23.1, .inl f1, .inl e23.2.1, .inl r33.1, .inl r15.2.2.2.2.1, .inl e23.2.2.2.1, .inl r15.2.2.2.2.2.2.1]) (G := [g0, r15.2.2.2.2.2.2.2.1, r33.2]) (G' := [g0, r15.2.2.2.2.2.2.2.1, r33.2]) (ρ := [0, 1]) (φ := [0, 1]) (ψ := [0]) [some 0, some 1, none, none, none, none, none] [some 0, none, none] zyw_M_here zyw_M_readsCondition zye_M_readsCondition (by decide +kernel) (zt_M_here hr34) ⟨⟨_, rfl, fun _ => rfl⟩, ⟨_, rfl, fun _ => rfl⟩, trivial⟩ ⟨rfl, trivial⟩ rfl rfl rfl rfl rfl rfl rfl) zd231_200 zxt217 rfl (by decide) (by decide) rfl ?_
                  refine zv_con hB zd231_203 rfl ?_
                  refine zv_cne hB zd231_205 rfl (fun hc35 => ?_) (fun hc35 => ?_)
                  · rw [if_neg hc35] at h
                    refine zv_con hB zd231_213 rfl ?_
                    obtain ⟨r36, hr36, h⟩ := zi_bind h
                    refine zv_cv hB (zv_emq (va2 := [.inr 0, .inl 12]) (F := [.inl e23.1, .inl f1, .inl e23.2.1, .inl r33.1, .inl r15.2.2.2.2.1, .inl e23.2.2.2.1, .inl r15.2.2.2.2.2.2.1]) (F' := [.inl r36.2.2.1, .inl f1, .inl e23.2.1, .inl r36.1, .inl r15.2.2.2.2.1, .inl r36.2.1, .inl r15.2.2.2.2.2.2.1]) (G := [g0, r15.2.2.2.2.2.2.2.1, r33.2]) (G' := [g0, r36.2.2.2.1, r36.2.2.2.2]) (ρ := [0, 2, 3]) (φ := [3, 5, 0]) (ψ := [1, 2]) [some 2, none, none, some 0, none, some 1, none] [none, some 0, some 1] zyw_M_jumps zyw_M_readsCondition zye_M_readsCondition (by decide +kernel) (zt_M_jumps hr36) ⟨⟨_, rfl, fun _ => rfl⟩, ⟨_, rfl, fun _ => rfl⟩, ⟨_, rfl, fun _ => rfl⟩, trivial⟩ ⟨rfl, rfl, trivial⟩ rfl rfl rfl rfl rfl rfl rfl) zd231_215 zxt235 rfl (by decide) (by decide) rfl ?_
                    refine zv_goto hB zd231_218 rfl ?_
                    exact ih _ _ _ _ _ _ _ _ q h hK
                  · rw [if_pos hc35] at h
                    refine zv_con hB zd231_208 rfl ?_
                    refine zv_goto hB zd231_210 rfl ?_
                    obtain ⟨r37, hr37, h⟩ := zi_bind h
                    refine zv_cv hB (zv_emq (va2 := [.inr 0, .inl 11]) (F := [.inl e23.1, .inl f1, .inl e23.2.1, .inl r33.1, .inl r15.2.2.2.2.1, .inl e23.2.2.2.1, .inl r15.2.2.2.2.2.2.1]) (F' := [.inl r37.2.2.1, .inl f1, .inl e23.2.1, .inl r37.1, .inl r15.2.2.2.2.1, .inl r37.2.1, .inl r15.2.2.2.2.2.2.1]) (G := [g0, r15.2.2.2.2.2.2.2.1, r33.2]) (G' := [g0, r37.2.2.2.1, r37.2.2.2.2]) (ρ := [0, 2, 3]) (φ := [3, 5, 0]) (ψ := [1, 2]) [some 2, none, none, some 0, none, some 1, none] [none, some 0, some 1] zyw_M_jumps zyw_M_readsCondition zye_M_readsCondition (by decide +kernel) (zt_M_jumps hr37) ⟨⟨_, rfl, fun _ => rfl⟩, ⟨_, rfl, fun _ => rfl⟩, ⟨_, rfl, fun _ => rfl⟩, trivial⟩ ⟨rfl, rfl, trivial⟩ rfl rfl rfl rfl rfl rfl rfl) zd231_215 zxt235 rfl (by decide) (by decide) rfl ?_
                    refine zv_goto hB zd231_218 rfl ?_
                    exact ih _ _ _ _ _ _ _ _ q h hK
              · rw [if_neg hc25] at h
                refine zv_ald hB zd231_161 rfl rfl rfl ?_
                obtain ⟨r38, hr38, h⟩ := zi_bind h
                refine zv_cv hB (zv_emq (va2 := [.inr 0]) (F := [.inl e23.1, .inl f1, .inl e23.2.1, .inl e23.2.2.1, .inl r15.2.2.2.2.1, .inl e23.2.2.2.1, .inl r15.2.2.2.2.2.2.1]) (F' := [.inl e23.1, .inl f1, .inl e23.2.1, .inl e23.2.2.1, .inl r15.2.2.2.2.1, .inl e23.2.2.2.1, .inl r15.2.2.2.2.2.2.1]) (G := [g0, r15.2.2.2.2.2.2.2.1, e23.2.2.2.2]) (G' := [g0, r15.2.2.2.2.2.2.2.1, e23.2.2.2.2]) (ρ := [0, 1]) (φ := [0, 1]) (ψ := [0]) [some 0, some 1, none, none, none, none, none] [some 0, none, none] zyw_M_here zyw_M_readsCondition zye_M_readsCondition (by decide +kernel) (zt_M_here hr38) ⟨⟨_, rfl, fun _ => rfl⟩, ⟨_, rfl, fun _ => rfl⟩, trivial⟩ ⟨rfl, trivial⟩ rfl rfl rfl rfl rfl rfl rfl) zd231_162 zxt217 rfl (by decide) (by decide) rfl ?_
                refine zv_con hB zd231_165 rfl ?_
                refine zv_ceq hB zd231_167 rfl (fun hc39 => ?_) (fun hc39 => ?_)
                · rw [if_pos hc39] at h
                  refine zv_ald hB zd231_180 rfl rfl rfl ?_
                  refine zv_ald hB zd231_181 rfl rfl rfl ?_
                  obtain ⟨r40, hr40, h⟩ := zi_bind h
                  refine zv_cv hB (zv_emq (va2 := [.inr 0]) (F := [.inl e23.1, .inl f1, .inl e23.2.1, .inl e23.2.2.1, .inl r15.2.2.2.2.1, .inl e23.2.2.2.1, .inl r15.2.2.2.2.2.2.1]) (F' := [.inl e23.1, .inl f1, .inl e23.2.1, .inl e23.2.2.1, .inl r15.2.2.2.2.1, .inl e23.2.2.2.1, .inl r15.2.2.2.2.2.2.1]) (G := [g0, r15.2.2.2.2.2.2.2.1, e23.2.2.2.2]) (G' := [g0, r15.2.2.2.2.2.2.2.1, e23.2.2.2.2]) (ρ := [0, 1]) (φ := [0, 1]) (ψ := [0]) [some 0, some 1, none, none, none, none, none] [some 0, none, none] zyw_M_here zyw_M_readsCondition zye_M_readsCondition (by decide +kernel) (zt_M_here hr40) ⟨⟨_, rfl, fun _ => rfl⟩, ⟨_, rfl, fun _ => rfl⟩, trivial⟩ ⟨rfl, trivial⟩ rfl rfl rfl rfl rfl rfl rfl) zd231_182 zxt217 rfl (by decide) (by decide) rfl ?_
                  refine zv_con hB zd231_185 rfl ?_
                  refine zv_cne hB zd231_187 rfl (fun hc41 => ?_) (fun hc41 => ?_)
                  · rw [if_neg hc41] at h
                    refine zv_con hB zd231_194 rfl ?_
                    obtain ⟨r42, hr42, h⟩ := zi_bind h
                    refine zv_cv hB (zv_emq (va2 := [.inr 0, .inl 0]) (F := [.inl e23.1, .inl f1, .inl e23.2.1, .inl e23.2.2.1, .inl r15.2.2.2.2.1, .inl e23.2.2.2.1, .inl r15.2.2.2.2.2.2.1]) (F' := [.inl e23.1, .inl f1, .inl e23.2.1, .inl r42.1, .inl r15.2.2.2.2.1, .inl e23.2.2.2.1, .inl r15.2.2.2.2.2.2.1]) (G := [g0, r15.2.2.2.2.2.2.2.1, e23.2.2.2.2]) (G' := [g0, r15.2.2.2.2.2.2.2.1, r42.2]) (ρ := [0, 2, 3]) (φ := [3, 5]) (ψ := [1, 2]) [none, none, none, some 0, none, some 1, none] [none, some 0, some 1] zyw_M_lands zyw_M_readsCondition zye_M_readsCondition (by decide +kernel) (zt_M_lands hr42) ⟨⟨_, rfl, fun _ => rfl⟩, ⟨_, rfl, fun _ => rfl⟩, trivial⟩ ⟨rfl, rfl, trivial⟩ rfl rfl rfl rfl rfl rfl rfl) zd231_195 zxt234 rfl (by decide) (by decide) rfl ?_
                    refine zv_ald hB zd231_198 rfl rfl rfl ?_
                    refine zv_ald hB zd231_199 rfl rfl rfl ?_
                    obtain ⟨r43, hr43, h⟩ := zi_bind h
                    refine zv_cv hB (zv_emq (va2 := [.inr 0]) (F := [.inl e23.1, .inl f1, .inl e23.2.1, .inl r42.1, .inl r15.2.2.2.2.1, .inl e23.2.2.2.1, .inl r15.2.2.2.2.2.2.1]) (F' := [.inl e23.1, .inl f1, .inl e23.2.1, .inl r42.1, .inl r15.2.2.2.2.1, .inl e23.2.2.2.1, .inl r15.2.2.2.2.2.2.1]) (G := [g0, r15.2.2.2.2.2.2.2.1, r42.2]) (G' := [g0, r15.2.2.2.2.2.2.2.1, r42.2]) (ρ := [0, 1]) (φ := [0, 1]) (ψ := [0]) [some 0, some 1, none, none, none, none, none] [some 0, none, none] zyw_M_here zyw_M_readsCondition zye_M_readsCondition (by decide +kernel) (zt_M_here hr43) ⟨⟨_, rfl, fun _ => rfl⟩, ⟨_, rfl, fun _ => rfl⟩, trivial⟩ ⟨rfl, trivial⟩ rfl rfl rfl rfl rfl rfl rfl) zd231_200 zxt217 rfl (by decide) (by decide) rfl ?_
                    refine zv_con hB zd231_203 rfl ?_
                    refine zv_cne hB zd231_205 rfl (fun hc44 => ?_) (fun hc44 => ?_)
                    · rw [if_neg hc44] at h
                      refine zv_con hB zd231_213 rfl ?_
                      obtain ⟨r45, hr45, h⟩ := zi_bind h
                      refine zv_cv hB (zv_emq (va2 := [.inr 0, .inl 12]) (F := [.inl e23.1, .inl f1, .inl e23.2.1, .inl r42.1, .inl r15.2.2.2.2.1, .inl e23.2.2.2.1, .inl r15.2.2.2.2.2.2.1]) (F' := [.inl r45.2.2.1, .inl f1, .inl e23.2.1, .inl r45.1, .inl r15.2.2.2.2.1, .inl r45.2.1, .inl r15.2.2.2.2.2.2.1]) (G := [g0, r15.2.2.2.2.2.2.2.1, r42.2]) (G' := [g0, r45.2.2.2.1, r45.2.2.2.2]) (ρ := [0, 2, 3]) (φ := [3, 5, 0]) (ψ := [1, 2]) [some 2, none, none, some 0, none, some 1, none] [none, some 0, some 1] zyw_M_jumps zyw_M_readsCondition zye_M_readsCondition (by decide +kernel) (zt_M_jumps hr45) ⟨⟨_, rfl, fun _ => rfl⟩, ⟨_, rfl, fun _ => rfl⟩, ⟨_, rfl, fun _ => rfl⟩, trivial⟩ ⟨rfl, rfl, trivial⟩ rfl rfl rfl rfl rfl rfl rfl) zd231_215 zxt235 rfl (by decide) (by decide) rfl ?_
                      refine zv_goto hB zd231_218 rfl ?_
                      exact ih _ _ _ _ _ _ _ _ q h hK
                    · rw [if_pos hc44] at h
                      refine zv_con hB zd231_208 rfl ?_
                      refine zv_goto hB zd231_210 rfl ?_
                      obtain ⟨r46, hr46, h⟩ := zi_bind h
                      refine zv_cv hB (zv_emq (va2 := [.inr 0, .inl 11]) (F := [.inl e23.1, .inl f1, .inl e23.2.1, .inl r42.1, .inl r15.2.2.2.2.1, .inl e23.2.2.2.1, .inl r15.2.2.2.2.2.2.1]) (F' := [.inl r46.2.2.1, .inl f1, .inl e23.2.1, .inl r46.1, .inl r15.2.2.2.2.1, .inl r46.2.1, .inl r15.2.2.2.2.2.2.1]) (G := [g0, r15.2.2.2.2.2.2.2.1, r42.2]) (G' := [g0, r46.2.2.2.1, r46.2.2.2.2]) (ρ := [0, 2, 3]) (φ := [3, 5, 0]) (ψ := [1, 2]) [some 2, none, none, some 0, none, some 1, none] [none, some 0, some 1] zyw_M_jumps zyw_M_readsCondition zye_M_readsCondition (by decide +kernel) (zt_M_jumps hr46) ⟨⟨_, rfl, fun _ => rfl⟩, ⟨_, rfl, fun _ => rfl⟩, ⟨_, rfl, fun _ => rfl⟩, trivial⟩ ⟨rfl, rfl, trivial⟩ rfl rfl rfl rfl rfl rfl rfl) zd231_215 zxt235 rfl (by decide) (by decide) rfl ?_
                      refine zv_goto hB zd231_218 rfl ?_
                      exact ih _ _ _ _ _ _ _ _ q h hK
                  · rw [if_pos hc41] at h
                    refine zv_con hB zd231_190 rfl ?_
                    refine zv_goto hB zd231_191 rfl ?_
                    obtain ⟨r47, hr47, h⟩ := zi_bind h
                    refine zv_cv hB (zv_emq (va2 := [.inr 0, .inl 1]) (F := [.inl e23.1, .inl f1, .inl e23.2.1, .inl e23.2.2.1, .inl r15.2.2.2.2.1, .inl e23.2.2.2.1, .inl r15.2.2.2.2.2.2.1]) (F' := [.inl e23.1, .inl f1, .inl e23.2.1, .inl r47.1, .inl r15.2.2.2.2.1, .inl e23.2.2.2.1, .inl r15.2.2.2.2.2.2.1]) (G := [g0, r15.2.2.2.2.2.2.2.1, e23.2.2.2.2]) (G' := [g0, r15.2.2.2.2.2.2.2.1, r47.2]) (ρ := [0, 2, 3]) (φ := [3, 5]) (ψ := [1, 2]) [none, none, none, some 0, none, some 1, none] [none, some 0, some 1] zyw_M_lands zyw_M_readsCondition zye_M_readsCondition (by decide +kernel) (zt_M_lands hr47) ⟨⟨_, rfl, fun _ => rfl⟩, ⟨_, rfl, fun _ => rfl⟩, trivial⟩ ⟨rfl, rfl, trivial⟩ rfl rfl rfl rfl rfl rfl rfl) zd231_195 zxt234 rfl (by decide) (by decide) rfl ?_
                    refine zv_ald hB zd231_198 rfl rfl rfl ?_
                    refine zv_ald hB zd231_199 rfl rfl rfl ?_
                    obtain ⟨r48, hr48, h⟩ := zi_bind h
                    refine zv_cv hB (zv_emq (va2 := [.inr 0]) (F := [.inl e23.1, .inl f1, .inl e23.2.1, .inl r47.1, .inl r15.2.2.2.2.1, .inl e23.2.2.2.1, .inl r15.2.2.2.2.2.2.1]) (F' := [.inl e23.1, .inl f1, .inl e23.2.1, .inl r47.1, .inl r15.2.2.2.2.1, .inl e23.2.2.2.1, .inl r15.2.2.2.2.2.2.1]) (G := [g0, r15.2.2.2.2.2.2.2.1, r47.2]) (G' := [g0, r15.2.2.2.2.2.2.2.1, r47.2]) (ρ := [0, 1]) (φ := [0, 1]) (ψ := [0]) [some 0, some 1, none, none, none, none, none] [some 0, none, none] zyw_M_here zyw_M_readsCondition zye_M_readsCondition (by decide +kernel) (zt_M_here hr48) ⟨⟨_, rfl, fun _ => rfl⟩, ⟨_, rfl, fun _ => rfl⟩, trivial⟩ ⟨rfl, trivial⟩ rfl rfl rfl rfl rfl rfl rfl) zd231_200 zxt217 rfl (by decide) (by decide) rfl ?_
                    refine zv_con hB zd231_203 rfl ?_
                    refine zv_cne hB zd231_205 rfl (fun hc49 => ?_) (fun hc49 => ?_)
                    · rw [if_neg hc49] at h
                      refine zv_con hB zd231_213 rfl ?_
                      obtain ⟨r50, hr50, h⟩ := zi_bind h
                      refine zv_cv hB (zv_emq (va2 := [.inr 0, .inl 12]) (F := [.inl e23.1, .inl f1, .inl e23.2.1, .inl r47.1, .inl r15.2.2.2.2.1, .inl e23.2.2.2.1, .inl r15.2.2.2.2.2.2.1]) (F' := [.inl r50.2.2.1, .inl f1, .inl e23.2.1, .inl r50.1, .inl r15.2.2.2.2.1, .inl r50.2.1, .inl r15.2.2.2.2.2.2.1]) (G := [g0, r15.2.2.2.2.2.2.2.1, r47.2]) (G' := [g0, r50.2.2.2.1, r50.2.2.2.2]) (ρ := [0, 2, 3]) (φ := [3, 5, 0]) (ψ := [1, 2]) [some 2, none, none, some 0, none, some 1, none] [none, some 0, some 1] zyw_M_jumps zyw_M_readsCondition zye_M_readsCondition (by decide +kernel) (zt_M_jumps hr50) ⟨⟨_, rfl, fun _ => rfl⟩, ⟨_, rfl, fun _ => rfl⟩, ⟨_, rfl, fun _ => rfl⟩, trivial⟩ ⟨rfl, rfl, trivial⟩ rfl rfl rfl rfl rfl rfl rfl) zd231_215 zxt235 rfl (by decide) (by decide) rfl ?_
                      refine zv_goto hB zd231_218 rfl ?_
                      exact ih _ _ _ _ _ _ _ _ q h hK
                    · rw [if_pos hc49] at h
                      refine zv_con hB zd231_208 rfl ?_
                      refine zv_goto hB zd231_210 rfl ?_
                      obtain ⟨r51, hr51, h⟩ := zi_bind h
                      refine zv_cv hB (zv_emq (va2 := [.inr 0, .inl 11]) (F := [.inl e23.1, .inl f1, .inl e23.2.1, .inl r47.1, .inl r15.2.2.2.2.1, .inl e23.2.2.2.1, .inl r15.2.2.2.2.2.2.1]) (F' := [.inl r51.2.2.1, .inl f1, .inl e23.2.1, .inl r51.1, .inl r15.2.2.2.2.1, .inl r51.2.1, .inl r15.2.2.2.2.2.2.1]) (G := [g0, r15.2.2.2.2.2.2.2.1, r47.2]) (G' := [g0, r51.2.2.2.1, r51.2.2.2.2]) (ρ := [0, 2, 3]) (φ := [3, 5, 0]) (ψ := [1, 2]) [some 2, none, none, some 0, none, some 1, none] [none, some 0, some 1] zyw_M_jumps zyw_M_readsCondition zye_M_readsCondition (by decide +kernel) (zt_M_jumps hr51) ⟨⟨_, rfl, fun _ => rfl⟩, ⟨_, rfl, fun _ => rfl⟩, ⟨_, rfl, fun _ => rfl⟩, trivial⟩ ⟨rfl, rfl, trivial⟩ rfl rfl rfl rfl rfl rfl rfl) zd231_215 zxt235 rfl (by decide) (by decide) rfl ?_
                      refine zv_goto hB zd231_218 rfl ?_
                      exact ih _ _ _ _ _ _ _ _ q h hK
                · rw [if_neg hc39] at h
                  have hq := Option.some.inj h
                  subst hq
                  exact hK
            · exact zi_rk (Option.some.inj h) hK
          · rw [if_pos hc16] at h
            refine zv_con hB zd231_90 rfl ?_
            have hw : (0, r15.2.2.1, r15.2.2.2.1, r15.2.1, r15.2.2.2.2.1, r15.2.2.2.2.2.1, r15.2.2.2.2.2.2.1, r15.2.2.2.2.2.2.2.1, r15.2.2.2.2.2.2.2.2) = o := zi_rk (Option.some.inj h) hK
            subst hw
            exact hret _ _ _ _ _ zd231_91 (by constructor <;> decide) ⟨rfl, rfl, rfl⟩
        · rw [if_pos hc14] at h
          refine zv_ald hB zd231_58 rfl rfl rfl ?_
          refine zv_ald hB zd231_59 rfl rfl rfl ?_
          obtain ⟨r53, hr53, h⟩ := zi_bind h
          refine zv_cv hB (zv_emq (va2 := [.inr 0]) (F := [.inl f0, .inl f1, .inl f2, .inl f3, .inl f4, .inl f5, .inl f6]) (F' := [.inl f0, .inl f1, .inl f2, .inl f3, .inl f4, .inl f5, .inl f6]) (G := [g0, g1, g2]) (G' := [g0, g1, g2]) (ρ := [0, 1]) (φ := [0, 1]) (ψ := [0]) [some 0, some 1, none, none, none, none, none] [some 0, none, none] zyw_M_here zyw_M_readsCondition zye_M_readsCondition (by decide +kernel) (zt_M_here hr53) ⟨⟨_, rfl, fun _ => rfl⟩, ⟨_, rfl, fun _ => rfl⟩, trivial⟩ ⟨rfl, trivial⟩ rfl rfl rfl rfl rfl rfl rfl) zd231_60 zxt217 rfl (by decide) (by decide) rfl ?_
          refine zv_con hB zd231_63 rfl ?_
          refine zv_cne hB zd231_65 rfl (fun hc54 => ?_) (fun hc54 => ?_)
          · rw [if_neg hc54] at h
            refine zv_con hB zd231_73 rfl ?_
            obtain ⟨r55, hr55, h⟩ := zi_bind h
            refine zv_cv hB (zv_emq (va2 := [.inr 0, .inl 13]) (F := [.inl f0, .inl f1, .inl f2, .inl f3, .inl f4, .inl f5, .inl f6]) (F' := [.inl r55.2.2.2.1, .inl f1, .inl r55.2.1, .inl r55.2.2.1, .inl r55.2.2.2.2.1, .inl f5, .inl f6]) (G := [g0, g1, g2]) (G' := [g0, r55.2.2.2.2.2, g2]) (ρ := [0, 2]) (φ := [2, 3, 0, 4]) (ψ := [1]) [some 2, none, some 0, some 1, some 3, none, none] [none, some 0, none] zyw_M_opens zyw_M_readsCondition zye_M_readsCondition (by decide +kernel) (zt_M_opens hr55) ⟨⟨_, rfl, fun _ => rfl⟩, ⟨_, rfl, fun _ => rfl⟩, ⟨_, rfl, fun _ => rfl⟩, ⟨_, rfl, fun _ => rfl⟩, trivial⟩ ⟨rfl, trivial⟩ rfl rfl rfl rfl rfl rfl rfl) zd231_75 zxt222 rfl (by decide) (by decide) rfl ?_
            refine zv_zne hB zd231_78 rfl (fun hc56 => ?_) (fun hc56 => ?_)
            · rw [if_neg hc56] at h
              exact ih _ _ _ _ _ _ _ _ q h hK
            · rw [if_pos hc56] at h
              refine zv_con hB zd231_81 rfl ?_
              have hw : (0, r55.2.2.2.1, r55.2.1, r55.2.2.1, r55.2.2.2.2.1, f5, f6, r55.2.2.2.2.2, g2) = o := zi_rk (Option.some.inj h) hK
              subst hw
              exact hret _ _ _ _ _ zd231_82 (by constructor <;> decide) ⟨rfl, rfl, rfl⟩
          · rw [if_pos hc54] at h
            refine zv_con hB zd231_68 rfl ?_
            refine zv_goto hB zd231_70 rfl ?_
            obtain ⟨r57, hr57, h⟩ := zi_bind h
            refine zv_cv hB (zv_emq (va2 := [.inr 0, .inl 10]) (F := [.inl f0, .inl f1, .inl f2, .inl f3, .inl f4, .inl f5, .inl f6]) (F' := [.inl r57.2.2.2.1, .inl f1, .inl r57.2.1, .inl r57.2.2.1, .inl r57.2.2.2.2.1, .inl f5, .inl f6]) (G := [g0, g1, g2]) (G' := [g0, r57.2.2.2.2.2, g2]) (ρ := [0, 2]) (φ := [2, 3, 0, 4]) (ψ := [1]) [some 2, none, some 0, some 1, some 3, none, none] [none, some 0, none] zyw_M_opens zyw_M_readsCondition zye_M_readsCondition (by decide +kernel) (zt_M_opens hr57) ⟨⟨_, rfl, fun _ => rfl⟩, ⟨_, rfl, fun _ => rfl⟩, ⟨_, rfl, fun _ => rfl⟩, ⟨_, rfl, fun _ => rfl⟩, trivial⟩ ⟨rfl, trivial⟩ rfl rfl rfl rfl rfl rfl rfl) zd231_75 zxt222 rfl (by decide) (by decide) rfl ?_
            refine zv_zne hB zd231_78 rfl (fun hc58 => ?_) (fun hc58 => ?_)
            · rw [if_neg hc58] at h
              exact ih _ _ _ _ _ _ _ _ q h hK
            · rw [if_pos hc58] at h
              refine zv_con hB zd231_81 rfl ?_
              have hw : (0, r57.2.2.2.1, r57.2.1, r57.2.2.1, r57.2.2.2.2.1, f5, f6, r57.2.2.2.2.2, g2) = o := zi_rk (Option.some.inj h) hK
              subst hw
              exact hret _ _ _ _ _ zd231_82 (by constructor <;> decide) ⟨rfl, rfl, rfl⟩
  unfold zf_M_readsCondition at h
  refine zv_ald hB zd231_0 rfl rfl rfl ?_
  obtain ⟨r1, hr1, h⟩ := zi_bind h
  refine zv_cv hB (zv_emq (va2 := [.inr 0]) (F := [.inl f0, .inl f1, .inl f2, .inl f3, .inl f4, .inl f5, .inl f6]) (F' := [.inl f0, .inl f1, .inl f2, .inl f3, .inl f4, .inl f5, .inl f6]) (G := [g0, g1, g2]) (G' := [g0, g1, g2]) (ρ := [0, 1]) (φ := [0, 1]) (ψ := [0]) [some 0, some 1, none, none, none, none, none] [some 0, none, none] zyw_M_here zyw_M_readsCondition zye_M_readsCondition (by decide +kernel) (zt_M_here hr1) ⟨⟨_, rfl, fun _ => rfl⟩, ⟨_, rfl, fun _ => rfl⟩, trivial⟩ ⟨rfl, trivial⟩ rfl rfl rfl rfl rfl rfl rfl) zd231_1 zxt217 rfl (by decide) (by decide) rfl ?_
  refine zv_con hB zd231_4 rfl ?_
  refine zv_ceq hB zd231_6 rfl (fun hc2 => ?_) (fun hc2 => ?_)
  · rw [if_pos hc2] at h
    refine zv_ald hB zd231_19 rfl rfl rfl ?_
    refine zv_con hB zd231_20 rfl ?_
    refine zv_putf hB zd231_21 rfl rfl (fun h => by cases h) rfl ?_
    refine zv_ald hB zd231_24 rfl rfl rfl ?_
    refine zv_con hB zd231_25 rfl ?_
    refine zv_putf hB zd231_26 rfl rfl (fun h => by cases h) rfl ?_
    refine zv_ald hB zd231_29 rfl rfl rfl ?_
    refine zv_con hB zd231_30 rfl ?_
    obtain ⟨r3, hr3, h⟩ := zi_bind h
    refine zv_cv hB (zv_emq (va2 := [.inr 0, .inl 13]) (F := [.inl f0, .inl f1, .inl 0, .inl 0, .inl f4, .inl f5, .inl f6]) (F' := [.inl r3.2.2.2.1, .inl f1, .inl r3.2.1, .inl r3.2.2.1, .inl r3.2.2.2.2.1, .inl f5, .inl f6]) (G := [g0, g1, g2]) (G' := [g0, r3.2.2.2.2.2, g2]) (ρ := [0, 2]) (φ := [2, 3, 0, 4]) (ψ := [1]) [some 2, none, some 0, some 1, some 3, none, none] [none, some 0, none] zyw_M_opens zyw_M_readsCondition zye_M_readsCondition (by decide +kernel) (zt_M_opens hr3) ⟨⟨_, rfl, fun _ => rfl⟩, ⟨_, rfl, fun _ => rfl⟩, ⟨_, rfl, fun _ => rfl⟩, ⟨_, rfl, fun _ => rfl⟩, trivial⟩ ⟨rfl, trivial⟩ rfl rfl rfl rfl rfl rfl rfl) zd231_32 zxt222 rfl (by decide) (by decide) rfl ?_
    refine zv_zne hB zd231_35 rfl (fun hc4 => ?_) (fun hc4 => ?_)
    · rw [if_neg hc4] at h
      obtain ⟨q59, hq59, h⟩ := zi_bind h
      refine l0 _ _ _ _ _ _ _ _ _ q59 hq59 ?_
      rcases q59 with e60 | w63
      · replace h := zi_sl h
        show good 170 [.inr 0] [] [.inl e60.1, .inl f1, .inl e60.2.1, .inl e60.2.2.1, .inl e60.2.2.2.1, .inl e60.2.2.2.2.1, .inl e60.2.2.2.2.2.1] [g0, e60.2.2.2.2.2.2.1, e60.2.2.2.2.2.2.2]
        refine zv_ald hB zd231_170 rfl rfl rfl ?_
        refine zv_con hB zd231_171 rfl ?_
        refine zv_ald hB zd231_172 rfl rfl rfl ?_
        refine zv_getf hB zd231_173 rfl rfl (fun _ _ => ?_)
        obtain ⟨r61, hr61, h⟩ := zi_bind h
        refine zv_cv hB (zv_emq (va2 := [.inr 0, .inl 1, .inl e60.1]) (F := [.inl e60.1, .inl f1, .inl e60.2.1, .inl e60.2.2.1, .inl e60.2.2.2.1, .inl e60.2.2.2.2.1, .inl e60.2.2.2.2.2.1]) (F' := [.inl e60.1, .inl f1, .inl e60.2.1, .inl e60.2.2.1, .inl r61.2, .inl e60.2.2.2.2.1, .inl e60.2.2.2.2.2.1]) (G := [g0, e60.2.2.2.2.2.2.1, e60.2.2.2.2.2.2.2]) (G' := [g0, e60.2.2.2.2.2.2.1, e60.2.2.2.2.2.2.2]) (ρ := [0]) (φ := [4]) (ψ := []) [none, none, none, none, some 0, none, none] [none, none, none] zyw_M_wrongAt zyw_M_readsCondition zye_M_readsCondition (by decide +kernel) (zt_M_wrongAt hr61) ⟨⟨_, rfl, fun _ => rfl⟩, trivial⟩ trivial rfl rfl rfl rfl rfl rfl rfl) zd231_176 zxt219 rfl (by decide) (by decide) rfl ?_
        obtain ⟨c62, h⟩ := zi_if h
        have hw := Option.some.inj h
        subst hw
        exact hret _ _ _ _ _ zd231_179 (zi_bo_ok c62) ⟨rfl, rfl, rfl⟩
      · exact Option.some.inj h
    · rw [if_pos hc4] at h
      refine zv_con hB zd231_38 rfl ?_
      have hw := Option.some.inj h
      subst hw
      exact hret _ _ _ _ _ zd231_39 (by constructor <;> decide) ⟨rfl, rfl, rfl⟩
  · rw [if_neg hc2] at h
    refine zv_ald hB zd231_9 rfl rfl rfl ?_
    refine zv_con hB zd231_10 rfl ?_
    refine zv_ald hB zd231_11 rfl rfl rfl ?_
    refine zv_getf hB zd231_12 rfl rfl (fun _ _ => ?_)
    obtain ⟨r64, hr64, h⟩ := zi_bind h
    refine zv_cv hB (zv_emq (va2 := [.inr 0, .inl 1, .inl f0]) (F := [.inl f0, .inl f1, .inl f2, .inl f3, .inl f4, .inl f5, .inl f6]) (F' := [.inl f0, .inl f1, .inl f2, .inl f3, .inl r64.2, .inl f5, .inl f6]) (G := [g0, g1, g2]) (G' := [g0, g1, g2]) (ρ := [0]) (φ := [4]) (ψ := []) [none, none, none, none, some 0, none, none] [none, none, none] zyw_M_wrongAt zyw_M_readsCondition zye_M_readsCondition (by decide +kernel) (zt_M_wrongAt hr64) ⟨⟨_, rfl, fun _ => rfl⟩, trivial⟩ trivial rfl rfl rfl rfl rfl rfl rfl) zd231_15 zxt219 rfl (by decide) (by decide) rfl ?_
    obtain ⟨c65, h⟩ := zi_if h
    have hw := Option.some.inj h
    subst hw
    exact hret _ _ _ _ _ zd231_18 (zi_bo_ok c65) ⟨rfl, rfl, rfl⟩
end
section
/-! Methods as functions, and that they do what these do. -/
/-! M_readsClause ()Z -/
-- names: 0 StarTalesModel('arg', 0), 1 (1, 220)(0, 12, 3), 2 (0, 14)(0, 12, 16), 3 (0, 14)(0, 12, 17), 4 (0, 14)(0, 12, 18), 5 (0, 220)(0, 12, 15), 6 (0, 220)(0, 12, 14), 7 (0, 14)(0, 12, 19)
-- fields: f0 = 0.place0_, f1 = 0.length0_, f2 = 0.saidMany_, f3 = 0.codeMany_, f4 = 0.open_, f5 = 0.waiting_, f6 = 0.fault_, f7 = 0.number0_; arrays: g0 = 1, g1 = 2, g2 = 3, g3 = 4, g4 = 5, g5 = 6, g6 = 7; out: [('ret', None), ('f', 0), ('f', 2), ('f', 3), ('f', 4), ('f', 5), ('f', 6), ('f', 7), ('g', 1), ('g', 2), ('g', 3), ('g', 4), ('g', 5), ('g', 6)]
abbrev zy_M_readsClause : zNL := (8, [(0, 12)], [(0, 12, 5, 0), (0, 12, 6, 1), (0, 12, 11, 2), (0, 12, 9, 3), (0, 12, 8, 4), (0, 12, 10, 5), (0, 12, 7, 6), (0, 12, 12, 7)], [(0, 12, 3, 1), (0, 12, 16, 2), (0, 12, 17, 3), (0, 12, 18, 4), (0, 12, 15, 5), (0, 12, 14, 6), (0, 12, 19, 7)], [(1, 1, 220, 0), (2, 0, 14, 1), (3, 0, 14, 2), (4, 0, 14, 3), (5, 0, 220, 4), (6, 0, 220, 5), (7, 0, 14, 6)])
theorem zyw_M_readsClause : zv_wf zy_M_readsClause = true := by decide +kernel
theorem zye_M_readsClause : zv_ek2 zy_M_readsClause = true := by decide +kernel
def zf_M_readsClause (f0 : Int) (f1 : Int) (f2 : Int) (f3 : Int) (f4 : Int) (f5 : Int) (f6 : Int) (f7 : Int) (g0 : (Int → Int)) (g1 : (Int → Int)) (g2 : (Int → Int)) (g3 : (Int → Int)) (g4 : (Int → Int)) (g5 : (Int → Int)) (g6 : (Int → Int)) : Option (Int × Int × Int × Int × Int × Int × Int × Int × (Int → Int) × (Int → Int) × (Int → Int) × (Int → Int) × (Int → Int) × (Int → Int)) := (zf_M_here f0 f1 g0).bind fun r1 => ((zf_M_isClause r1).bind fun r2 => (if r2 = 0 then ((zf_M_wrongAt 1 f0 f6).bind fun r18 => (cond (zi_bo r18.1) (some (r18.1, f0, f2, f3, f4, f5, r18.2, f7, g1, g2, g3, g4, g5, g6)) none)) else (if f2 = 14 then ((zf_M_wrongAt 4 f0 f6).bind fun r16 => (cond (zi_bo r16.1) (some (r16.1, f0, f2, f3, f4, f5, r16.2, f7, g1, g2, g3, g4, g5, g6)) none)) else (cond (zi_ix f2 14) (if r1 = 118 then ((zf_M_readsCondition (zi_w (f0 + 1)) f1 0 0 f6 f3 f7 g0 g4 g5).bind fun r7 => (if r7.1 = 0 then (some (0, r7.2.1, f2, r7.2.2.2.2.2.1, r7.2.2.1, r7.2.2.2.1, r7.2.2.2.2.1, r7.2.2.2.2.2.2.1, (zv_up g1 f2 r1), (zv_up g2 f2 f3), (zv_up g3 f2 f3), r7.2.2.2.2.2.2.2.1, r7.2.2.2.2.2.2.2.2, g6)) else (some (1, r7.2.1, (zi_w (f2 + 1)), r7.2.2.2.2.2.1, r7.2.2.1, r7.2.2.2.1, r7.2.2.2.2.1, r7.2.2.2.2.2.2.1, (zv_up g1 f2 r1), (zv_up g2 f2 f3), (zv_up g3 f2 f3), r7.2.2.2.2.2.2.2.1, r7.2.2.2.2.2.2.2.2, (zv_up g6 f2 r7.2.2.2.2.2.1))))) else (if r1 = 106 then ((zf_M_readsCondition (zi_w (f0 + 1)) f1 0 0 f6 f3 f7 g0 g4 g5).bind fun r10 => (if r10.1 = 0 then (some (0, r10.2.1, f2, r10.2.2.2.2.2.1, r10.2.2.1, r10.2.2.2.1, r10.2.2.2.2.1, r10.2.2.2.2.2.2.1, (zv_up g1 f2 r1), (zv_up g2 f2 f3), (zv_up g3 f2 f3), r10.2.2.2.2.2.2.2.1, r10.2.2.2.2.2.2.2.2, g6)) else (some (1, r10.2.1, (zi_w (f2 + 1)), r10.2.2.2.2.2.1, r10.2.2.1, r10.2.2.2.1, r10.2.2.2.2.1, r10.2.2.2.2.2.2.1, (zv_up g1 f2 r1), (zv_up g2 f2 f3), (zv_up g3 f2 f3), r10.2.2.2.2.2.2.2.1, r10.2.2.2.2.2.2.2.2, (zv_up g6 f2 r10.2.2.2.2.2.1))))) else ((zf_M_readsSum 0 (zi_w (f0 + 1)) f1 0 f6 f3 f7 g0 g4 g5).bind fun r12 => (if r12.1 = 0 then (some (0, r12.2.2.1, f2, r12.2.2.2.2.2.1, r12.2.2.2.1, r12.2.1, r12.2.2.2.2.1, r12.2.2.2.2.2.2.1, (zv_up g1 f2 r1), (zv_up g2 f2 f3), g3, r12.2.2.2.2.2.2.2.1, r12.2.2.2.2.2.2.2.2, g6)) else ((zf_M_readsCondition r12.2.2.1 f1 r12.2.2.2.1 r12.2.1 r12.2.2.2.2.1 r12.2.2.2.2.2.1 r12.2.2.2.2.2.2.1 g0 r12.2.2.2.2.2.2.2.1 r12.2.2.2.2.2.2.2.2).bind fun r14 => (if r14.1 = 0 then (some (0, r14.2.1, f2, r14.2.2.2.2.2.1, r14.2.2.1, r14.2.2.2.1, r14.2.2.2.2.1, r14.2.2.2.2.2.2.1, (zv_up g1 f2 r1), (zv_up g2 f2 f3), (zv_up g3 f2 r12.2.2.2.2.2.1), r14.2.2.2.2.2.2.2.1, r14.2.2.2.2.2.2.2.2, g6)) else (some (1, r14.2.1, (zi_w (f2 + 1)), r14.2.2.2.2.2.1, r14.2.2.1, r14.2.2.2.1, r14.2.2.2.2.1, r14.2.2.2.2.2.2.1, (zv_up g1 f2 r1), (zv_up g2 f2 f3), (zv_up g3 f2 r12.2.2.2.2.2.1), r14.2.2.2.2.2.2.2.1, r14.2.2.2.2.2.2.2.2, (zv_up g6 f2 r14.2.2.2.2.2.1))))))))) none))))
theorem zd216_0 : decode zxm216.2.1 0 = .ok (.aload_n 0, 1) := by decide +kernel
theorem zd216_1 : decode zxm216.2.1 1 = .ok (.invokevirtual 182, 3) := by decide +kernel
theorem zd216_4 : decode zxm216.2.1 4 = .ok (.istore_n 1, 1) := by decide +kernel
theorem zd216_5 : decode zxm216.2.1 5 = .ok (.iload_n 1, 1) := by decide +kernel
theorem zd216_6 : decode zxm216.2.1 6 = .ok (.invokestatic 253, 3) := by decide +kernel
theorem zd216_9 : decode zxm216.2.1 9 = .ok (.ifCond .ne 13, 3) := by decide +kernel
theorem zd216_12 : decode zxm216.2.1 12 = .ok (.aload_n 0, 1) := by decide +kernel
theorem zd216_13 : decode zxm216.2.1 13 = .ok (.iconst 1, 1) := by decide +kernel
theorem zd216_14 : decode zxm216.2.1 14 = .ok (.aload_n 0, 1) := by decide +kernel
theorem zd216_15 : decode zxm216.2.1 15 = .ok (.getfield 176, 3) := by decide +kernel
theorem zd216_18 : decode zxm216.2.1 18 = .ok (.invokevirtual 189, 3) := by decide +kernel
theorem zd216_21 : decode zxm216.2.1 21 = .ok (.ireturn, 1) := by decide +kernel
theorem zd216_22 : decode zxm216.2.1 22 = .ok (.aload_n 0, 1) := by decide +kernel
theorem zd216_23 : decode zxm216.2.1 23 = .ok (.getfield 256, 3) := by decide +kernel
theorem zd216_26 : decode zxm216.2.1 26 = .ok (.bipush 14, 2) := by decide +kernel
theorem zd216_28 : decode zxm216.2.1 28 = .ok (.if_icmp .ne 13, 3) := by decide +kernel
theorem zd216_31 : decode zxm216.2.1 31 = .ok (.aload_n 0, 1) := by decide +kernel
theorem zd216_32 : decode zxm216.2.1 32 = .ok (.iconst 4, 1) := by decide +kernel
theorem zd216_33 : decode zxm216.2.1 33 = .ok (.aload_n 0, 1) := by decide +kernel
theorem zd216_34 : decode zxm216.2.1 34 = .ok (.getfield 176, 3) := by decide +kernel
theorem zd216_37 : decode zxm216.2.1 37 = .ok (.invokevirtual 189, 3) := by decide +kernel
theorem zd216_40 : decode zxm216.2.1 40 = .ok (.ireturn, 1) := by decide +kernel
theorem zd216_41 : decode zxm216.2.1 41 = .ok (.aload_n 0, 1) := by decide +kernel
theorem zd216_42 : decode zxm216.2.1 42 = .ok (.getfield 29, 3) := by decide +kernel
theorem zd216_45 : decode zxm216.2.1 45 = .ok (.aload_n 0, 1) := by decide +kernel
theorem zd216_46 : decode zxm216.2.1 46 = .ok (.getfield 256, 3) := by decide +kernel
theorem zd216_49 : decode zxm216.2.1 49 = .ok (.iload_n 1, 1) := by decide +kernel
theorem zd216_50 : decode zxm216.2.1 50 = .ok (.iastore, 1) := by decide +kernel
theorem zd216_51 : decode zxm216.2.1 51 = .ok (.aload_n 0, 1) := by decide +kernel
theorem zd216_52 : decode zxm216.2.1 52 = .ok (.aload_n 0, 1) := by decide +kernel
theorem zd216_53 : decode zxm216.2.1 53 = .ok (.getfield 176, 3) := by decide +kernel
theorem zd216_56 : decode zxm216.2.1 56 = .ok (.iconst 1, 1) := by decide +kernel
theorem zd216_57 : decode zxm216.2.1 57 = .ok (.iadd, 1) := by decide +kernel
theorem zd216_58 : decode zxm216.2.1 58 = .ok (.putfield 176, 3) := by decide +kernel
theorem zd216_61 : decode zxm216.2.1 61 = .ok (.aload_n 0, 1) := by decide +kernel
theorem zd216_62 : decode zxm216.2.1 62 = .ok (.getfield 32, 3) := by decide +kernel
theorem zd216_65 : decode zxm216.2.1 65 = .ok (.aload_n 0, 1) := by decide +kernel
theorem zd216_66 : decode zxm216.2.1 66 = .ok (.getfield 256, 3) := by decide +kernel
theorem zd216_69 : decode zxm216.2.1 69 = .ok (.aload_n 0, 1) := by decide +kernel
theorem zd216_70 : decode zxm216.2.1 70 = .ok (.getfield 199, 3) := by decide +kernel
theorem zd216_73 : decode zxm216.2.1 73 = .ok (.iastore, 1) := by decide +kernel
theorem zd216_74 : decode zxm216.2.1 74 = .ok (.aload_n 0, 1) := by decide +kernel
theorem zd216_75 : decode zxm216.2.1 75 = .ok (.iconst 0, 1) := by decide +kernel
theorem zd216_76 : decode zxm216.2.1 76 = .ok (.putfield 203, 3) := by decide +kernel
theorem zd216_79 : decode zxm216.2.1 79 = .ok (.aload_n 0, 1) := by decide +kernel
theorem zd216_80 : decode zxm216.2.1 80 = .ok (.iconst 0, 1) := by decide +kernel
theorem zd216_81 : decode zxm216.2.1 81 = .ok (.putfield 206, 3) := by decide +kernel
theorem zd216_84 : decode zxm216.2.1 84 = .ok (.iload_n 1, 1) := by decide +kernel
theorem zd216_85 : decode zxm216.2.1 85 = .ok (.bipush 118, 2) := by decide +kernel
theorem zd216_87 : decode zxm216.2.1 87 = .ok (.if_icmp .eq 18, 3) := by decide +kernel
theorem zd216_90 : decode zxm216.2.1 90 = .ok (.iload_n 1, 1) := by decide +kernel
theorem zd216_91 : decode zxm216.2.1 91 = .ok (.bipush 106, 2) := by decide +kernel
theorem zd216_93 : decode zxm216.2.1 93 = .ok (.if_icmp .eq 12, 3) := by decide +kernel
theorem zd216_96 : decode zxm216.2.1 96 = .ok (.aload_n 0, 1) := by decide +kernel
theorem zd216_97 : decode zxm216.2.1 97 = .ok (.invokevirtual 238, 3) := by decide +kernel
theorem zd216_100 : decode zxm216.2.1 100 = .ok (.ifCond .ne 5, 3) := by decide +kernel
theorem zd216_103 : decode zxm216.2.1 103 = .ok (.iconst 0, 1) := by decide +kernel
theorem zd216_104 : decode zxm216.2.1 104 = .ok (.ireturn, 1) := by decide +kernel
theorem zd216_105 : decode zxm216.2.1 105 = .ok (.aload_n 0, 1) := by decide +kernel
theorem zd216_106 : decode zxm216.2.1 106 = .ok (.getfield 35, 3) := by decide +kernel
theorem zd216_109 : decode zxm216.2.1 109 = .ok (.aload_n 0, 1) := by decide +kernel
theorem zd216_110 : decode zxm216.2.1 110 = .ok (.getfield 256, 3) := by decide +kernel
theorem zd216_113 : decode zxm216.2.1 113 = .ok (.aload_n 0, 1) := by decide +kernel
theorem zd216_114 : decode zxm216.2.1 114 = .ok (.getfield 199, 3) := by decide +kernel
theorem zd216_117 : decode zxm216.2.1 117 = .ok (.iastore, 1) := by decide +kernel
theorem zd216_118 : decode zxm216.2.1 118 = .ok (.aload_n 0, 1) := by decide +kernel
theorem zd216_119 : decode zxm216.2.1 119 = .ok (.invokevirtual 259, 3) := by decide +kernel
theorem zd216_122 : decode zxm216.2.1 122 = .ok (.ifCond .ne 5, 3) := by decide +kernel
theorem zd216_125 : decode zxm216.2.1 125 = .ok (.iconst 0, 1) := by decide +kernel
theorem zd216_126 : decode zxm216.2.1 126 = .ok (.ireturn, 1) := by decide +kernel
theorem zd216_127 : decode zxm216.2.1 127 = .ok (.aload_n 0, 1) := by decide +kernel
theorem zd216_128 : decode zxm216.2.1 128 = .ok (.getfield 38, 3) := by decide +kernel
theorem zd216_131 : decode zxm216.2.1 131 = .ok (.aload_n 0, 1) := by decide +kernel
theorem zd216_132 : decode zxm216.2.1 132 = .ok (.getfield 256, 3) := by decide +kernel
theorem zd216_135 : decode zxm216.2.1 135 = .ok (.aload_n 0, 1) := by decide +kernel
theorem zd216_136 : decode zxm216.2.1 136 = .ok (.getfield 199, 3) := by decide +kernel
theorem zd216_139 : decode zxm216.2.1 139 = .ok (.iastore, 1) := by decide +kernel
theorem zd216_140 : decode zxm216.2.1 140 = .ok (.aload_n 0, 1) := by decide +kernel
theorem zd216_141 : decode zxm216.2.1 141 = .ok (.aload_n 0, 1) := by decide +kernel
theorem zd216_142 : decode zxm216.2.1 142 = .ok (.getfield 256, 3) := by decide +kernel
theorem zd216_145 : decode zxm216.2.1 145 = .ok (.iconst 1, 1) := by decide +kernel
theorem zd216_146 : decode zxm216.2.1 146 = .ok (.iadd, 1) := by decide +kernel
theorem zd216_147 : decode zxm216.2.1 147 = .ok (.putfield 256, 3) := by decide +kernel
theorem zd216_150 : decode zxm216.2.1 150 = .ok (.iconst 1, 1) := by decide +kernel
theorem zd216_151 : decode zxm216.2.1 151 = .ok (.ireturn, 1) := by decide +kernel
theorem zt_M_readsClause {f0 : Int} {f1 : Int} {f2 : Int} {f3 : Int} {f4 : Int} {f5 : Int} {f6 : Int} {f7 : Int} {g0 : (Int → Int)} {g1 : (Int → Int)} {g2 : (Int → Int)} {g3 : (Int → Int)} {g4 : (Int → Int)} {g5 : (Int → Int)} {g6 : (Int → Int)} {o : Int × Int × Int × Int × Int × Int × Int × Int × (Int → Int) × (Int → Int) × (Int → Int) × (Int → Int) × (Int → Int) × (Int → Int)} (h : zf_M_readsClause f0 f1 f2 f3 f4 f5 f6 f7 g0 g1 g2 g3 g4 g5 g6 = some o) : zv_Fn z_TB z_cl z_KX zy_M_readsClause zxm216 (7, 420) [.inr 0] [.inl f0, .inl f1, .inl f2, .inl f3, .inl f4, .inl f5, .inl f6, .inl f7] [g0, g1, g2, g3, g4, g5, g6] (some o.1) [.inl o.2.1, .inl f1, .inl o.2.2.1, .inl o.2.2.2.1, .inl o.2.2.2.2.1, .inl o.2.2.2.2.2.1, .inl o.2.2.2.2.2.2.1, .inl o.2.2.2.2.2.2.2.1] [g0, o.2.2.2.2.2.2.2.2.1, o.2.2.2.2.2.2.2.2.2.1, o.2.2.2.2.2.2.2.2.2.2.1, o.2.2.2.2.2.2.2.2.2.2.2.1, o.2.2.2.2.2.2.2.2.2.2.2.2.1, o.2.2.2.2.2.2.2.2.2.2.2.2.2] := zv_meth (K := (z_KF13, z_KC13, z_KL13, z_KT13, [], [], [], none)) (FT := z_FT) (MT := z_MT) (n := 1) zxp216 (z_ks13 _ (fun _ h => List.mem_cons_of_mem _ h) _ _ _ _ (fun j r h _ => by cases h)) (fun _ _ => zs_KX_p) zyw_M_readsClause (fun va F G h => by obtain ⟨rfl, _⟩ := h; rfl) (fun va F G h => by obtain ⟨rfl, _⟩ := h; rfl) rfl fun good va F G hB hret hvret hP => by
  obtain ⟨rfl, rfl, rfl⟩ := hP
  unfold zf_M_readsClause at h
  refine zv_ald hB zd216_0 rfl rfl rfl ?_
  obtain ⟨r1, hr1, h⟩ := zi_bind h
  refine zv_cv hB (zv_emq (va2 := [.inr 0]) (F := [.inl f0, .inl f1, .inl f2, .inl f3, .inl f4, .inl f5, .inl f6, .inl f7]) (F' := [.inl f0, .inl f1, .inl f2, .inl f3, .inl f4, .inl f5, .inl f6, .inl f7]) (G := [g0, g1, g2, g3, g4, g5, g6]) (G' := [g0, g1, g2, g3, g4, g5, g6]) (ρ := [0, 1]) (φ := [0, 1]) (ψ := [0]) [some 0, some 1, none, none, none, none, none, none] [some 0, none, none, none, none, none, none] zyw_M_here zyw_M_readsClause zye_M_readsClause (by decide +kernel) (zt_M_here hr1) ⟨⟨_, rfl, fun _ => rfl⟩, ⟨_, rfl, fun _ => rfl⟩, trivial⟩ ⟨rfl, trivial⟩ rfl rfl rfl rfl rfl rfl rfl) zd216_1 zxt217 rfl (by decide) (by decide) rfl ?_
  refine zv_ist hB zd216_4 rfl rfl rfl ?_
  refine zv_ild hB zd216_5 rfl rfl ?_
  obtain ⟨r2, hr2, h⟩ := zi_bind h
  refine zv_cs hB (zv_emq (va2 := [.inl r1]) (F := [.inl f0, .inl f1, .inl f2, .inl f3, .inl f4, .inl f5, .inl f6, .inl f7]) (F' := [.inl f0, .inl f1, .inl f2, .inl f3, .inl f4, .inl f5, .inl f6, .inl f7]) (G := [g0, g1, g2, g3, g4, g5, g6]) (G' := [g0, g1, g2, g3, g4, g5, g6]) (ρ := []) (φ := []) (ψ := []) [none, none, none, none, none, none, none, none] [none, none, none, none, none, none, none] zyw_M_isClause zyw_M_readsClause zye_M_readsClause (by decide +kernel) (zt_M_isClause hr2) trivial trivial rfl rfl rfl rfl rfl rfl rfl) zd216_6 zxt218 rfl (by decide) (by decide) rfl ?_
  refine zv_zne hB zd216_9 rfl (fun hc3 => ?_) (fun hc3 => ?_)
  · rw [if_neg hc3] at h
    refine zv_ald hB zd216_22 rfl rfl rfl ?_
    refine zv_getf hB zd216_23 rfl rfl (fun _ _ => ?_)
    refine zv_con hB zd216_26 rfl ?_
    refine zv_cne hB zd216_28 rfl (fun hc4 => ?_) (fun hc4 => ?_)
    · rw [if_neg hc4] at h
      refine zv_ald hB zd216_41 rfl rfl rfl ?_
      refine zv_getr hB zd216_42 rfl ?_
      refine zv_ald hB zd216_45 rfl rfl rfl ?_
      refine zv_getf hB zd216_46 rfl rfl (fun _ _ => ?_)
      refine zv_ild hB zd216_49 rfl rfl ?_
      obtain ⟨c5, h⟩ := zi_if h
      refine zv_iast hB zd216_50 rfl rfl (zi_ix_ok c5).1 (zi_ix_ok c5).2 ?_
      refine zv_ald hB zd216_51 rfl rfl rfl ?_
      refine zv_ald hB zd216_52 rfl rfl rfl ?_
      refine zv_getf hB zd216_53 rfl rfl (fun _ _ => ?_)
      refine zv_con hB zd216_56 rfl ?_
      refine zv_addw hB zd216_57 ?_
      refine zv_putf hB zd216_58 rfl rfl (fun h => by cases h) rfl ?_
      refine zv_ald hB zd216_61 rfl rfl rfl ?_
      refine zv_getr hB zd216_62 rfl ?_
      refine zv_ald hB zd216_65 rfl rfl rfl ?_
      refine zv_getf hB zd216_66 rfl rfl (fun _ _ => ?_)
      refine zv_ald hB zd216_69 rfl rfl rfl ?_
      refine zv_getf hB zd216_70 rfl rfl (fun _ _ => ?_)
      refine zv_iast hB zd216_73 rfl rfl (zi_ix_ok c5).1 (zi_ix_ok c5).2 ?_
      refine zv_ald hB zd216_74 rfl rfl rfl ?_
      refine zv_con hB zd216_75 rfl ?_
      refine zv_putf hB zd216_76 rfl rfl (fun h => by cases h) rfl ?_
      refine zv_ald hB zd216_79 rfl rfl rfl ?_
      refine zv_con hB zd216_80 rfl ?_
      refine zv_putf hB zd216_81 rfl rfl (fun h => by cases h) rfl ?_
      refine zv_ild hB zd216_84 rfl rfl ?_
      refine zv_con hB zd216_85 rfl ?_
      refine zv_ceq hB zd216_87 rfl (fun hc6 => ?_) (fun hc6 => ?_)
      · rw [if_pos hc6] at h
        refine zv_ald hB zd216_105 rfl rfl rfl ?_
        refine zv_getr hB zd216_106 rfl ?_
        refine zv_ald hB zd216_109 rfl rfl rfl ?_
        refine zv_getf hB zd216_110 rfl rfl (fun _ _ => ?_)
        refine zv_ald hB zd216_113 rfl rfl rfl ?_
        refine zv_getf hB zd216_114 rfl rfl (fun _ _ => ?_)
        refine zv_iast hB zd216_117 rfl rfl (zi_ix_ok c5).1 (zi_ix_ok c5).2 ?_
        refine zv_ald hB zd216_118 rfl rfl rfl ?_
        obtain ⟨r7, hr7, h⟩ := zi_bind h
        refine zv_cv hB (zv_emq (va2 := [.inr 0]) (F := [.inl (zi_w (f0 + 1)), .inl f1, .inl f2, .inl f3, .inl 0, .inl 0, .inl f6, .inl f7]) (F' := [.inl r7.2.1, .inl f1, .inl f2, .inl r7.2.2.2.2.2.1, .inl r7.2.2.1, .inl r7.2.2.2.1, .inl r7.2.2.2.2.1, .inl r7.2.2.2.2.2.2.1]) (G := [g0, (zv_up g1 f2 r1), (zv_up g2 f2 f3), (zv_up g3 f2 f3), g4, g5, g6]) (G' := [g0, (zv_up g1 f2 r1), (zv_up g2 f2 f3), (zv_up g3 f2 f3), r7.2.2.2.2.2.2.2.1, r7.2.2.2.2.2.2.2.2, g6]) (ρ := [0, 1, 5, 6]) (φ := [0, 1, 4, 5, 6, 3, 7]) (ψ := [0, 4, 5]) [some 0, some 1, none, some 5, some 2, some 3, some 4, some 6] [some 0, none, none, none, some 1, some 2, none] zyw_M_readsCondition zyw_M_readsClause zye_M_readsClause (by decide +kernel) (zt_M_readsCondition hr7) ⟨⟨_, rfl, fun _ => rfl⟩, ⟨_, rfl, fun _ => rfl⟩, ⟨_, rfl, fun _ => rfl⟩, ⟨_, rfl, fun _ => rfl⟩, ⟨_, rfl, fun _ => rfl⟩, ⟨_, rfl, fun _ => rfl⟩, ⟨_, rfl, fun _ => rfl⟩, trivial⟩ ⟨rfl, rfl, rfl, trivial⟩ rfl rfl rfl rfl rfl rfl rfl) zd216_119 zxt231 rfl (by decide) (by decide) rfl ?_
        refine zv_zne hB zd216_122 rfl (fun hc8 => ?_) (fun hc8 => ?_)
        · rw [if_neg hc8] at h
          refine zv_ald hB zd216_127 rfl rfl rfl ?_
          refine zv_getr hB zd216_128 rfl ?_
          refine zv_ald hB zd216_131 rfl rfl rfl ?_
          refine zv_getf hB zd216_132 rfl rfl (fun _ _ => ?_)
          refine zv_ald hB zd216_135 rfl rfl rfl ?_
          refine zv_getf hB zd216_136 rfl rfl (fun _ _ => ?_)
          refine zv_iast hB zd216_139 rfl rfl (zi_ix_ok c5).1 (zi_ix_ok c5).2 ?_
          refine zv_ald hB zd216_140 rfl rfl rfl ?_
          refine zv_ald hB zd216_141 rfl rfl rfl ?_
          refine zv_getf hB zd216_142 rfl rfl (fun _ _ => ?_)
          refine zv_con hB zd216_145 rfl ?_
          refine zv_addw hB zd216_146 ?_
          refine zv_putf hB zd216_147 rfl rfl (fun h => by cases h) rfl ?_
          refine zv_con hB zd216_150 rfl ?_
          have hw := Option.some.inj h
          subst hw
          exact hret _ _ _ _ _ zd216_151 (by constructor <;> decide) ⟨rfl, rfl, rfl⟩
        · rw [if_pos hc8] at h
          refine zv_con hB zd216_125 rfl ?_
          have hw := Option.some.inj h
          subst hw
          exact hret _ _ _ _ _ zd216_126 (by constructor <;> decide) ⟨rfl, rfl, rfl⟩
      · rw [if_neg hc6] at h
        refine zv_ild hB zd216_90 rfl rfl ?_
        refine zv_con hB zd216_91 rfl ?_
        refine zv_ceq hB zd216_93 rfl (fun hc9 => ?_) (fun hc9 => ?_)
        · rw [if_pos hc9] at h
          refine zv_ald hB zd216_105 rfl rfl rfl ?_
          refine zv_getr hB zd216_106 rfl ?_
          refine zv_ald hB zd216_109 rfl rfl rfl ?_
          refine zv_getf hB zd216_110 rfl rfl (fun _ _ => ?_)
          refine zv_ald hB zd216_113 rfl rfl rfl ?_
          refine zv_getf hB zd216_114 rfl rfl (fun _ _ => ?_)
          refine zv_iast hB zd216_117 rfl rfl (zi_ix_ok c5).1 (zi_ix_ok c5).2 ?_
          refine zv_ald hB zd216_118 rfl rfl rfl ?_
          obtain ⟨r10, hr10, h⟩ := zi_bind h
          refine zv_cv hB (zv_emq (va2 := [.inr 0]) (F := [.inl (zi_w (f0 + 1)), .inl f1, .inl f2, .inl f3, .inl 0, .inl 0, .inl f6, .inl f7]) (F' := [.inl r10.2.1, .inl f1, .inl f2, .inl r10.2.2.2.2.2.1, .inl r10.2.2.1, .inl r10.2.2.2.1, .inl r10.2.2.2.2.1, .inl r10.2.2.2.2.2.2.1]) (G := [g0, (zv_up g1 f2 r1), (zv_up g2 f2 f3), (zv_up g3 f2 f3), g4, g5, g6]) (G' := [g0, (zv_up g1 f2 r1), (zv_up g2 f2 f3), (zv_up g3 f2 f3), r10.2.2.2.2.2.2.2.1, r10.2.2.2.2.2.2.2.2, g6]) (ρ := [0, 1, 5, 6]) (φ := [0, 1, 4, 5, 6, 3, 7]) (ψ := [0, 4, 5]) [some 0, some 1, none, some 5, some 2, some 3, some 4, some 6] [some 0, none, none, none, some 1, some 2, none] zyw_M_readsCondition zyw_M_readsClause zye_M_readsClause (by decide +kernel) (zt_M_readsCondition hr10) ⟨⟨_, rfl, fun _ => rfl⟩, ⟨_, rfl, fun _ => rfl⟩, ⟨_, rfl, fun _ => rfl⟩, ⟨_, rfl, fun _ => rfl⟩, ⟨_, rfl, fun _ => rfl⟩, ⟨_, rfl, fun _ => rfl⟩, ⟨_, rfl, fun _ => rfl⟩, trivial⟩ ⟨rfl, rfl, rfl, trivial⟩ rfl rfl rfl rfl rfl rfl rfl) zd216_119 zxt231 rfl (by decide) (by decide) rfl ?_
          refine zv_zne hB zd216_122 rfl (fun hc11 => ?_) (fun hc11 => ?_)
          · rw [if_neg hc11] at h
            refine zv_ald hB zd216_127 rfl rfl rfl ?_
            refine zv_getr hB zd216_128 rfl ?_
            refine zv_ald hB zd216_131 rfl rfl rfl ?_
            refine zv_getf hB zd216_132 rfl rfl (fun _ _ => ?_)
            refine zv_ald hB zd216_135 rfl rfl rfl ?_
            refine zv_getf hB zd216_136 rfl rfl (fun _ _ => ?_)
            refine zv_iast hB zd216_139 rfl rfl (zi_ix_ok c5).1 (zi_ix_ok c5).2 ?_
            refine zv_ald hB zd216_140 rfl rfl rfl ?_
            refine zv_ald hB zd216_141 rfl rfl rfl ?_
            refine zv_getf hB zd216_142 rfl rfl (fun _ _ => ?_)
            refine zv_con hB zd216_145 rfl ?_
            refine zv_addw hB zd216_146 ?_
            refine zv_putf hB zd216_147 rfl rfl (fun h => by cases h) rfl ?_
            refine zv_con hB zd216_150 rfl ?_
            have hw := Option.some.inj h
            subst hw
            exact hret _ _ _ _ _ zd216_151 (by constructor <;> decide) ⟨rfl, rfl, rfl⟩
          · rw [if_pos hc11] at h
            refine zv_con hB zd216_125 rfl ?_
            have hw := Option.some.inj h
            subst hw
            exact hret _ _ _ _ _ zd216_126 (by constructor <;> decide) ⟨rfl, rfl, rfl⟩
        · rw [if_neg hc9] at h
          refine zv_ald hB zd216_96 rfl rfl rfl ?_
          obtain ⟨r12, hr12, h⟩ := zi_bind h
          refine zv_cv hB (zv_emq (va2 := [.inr 0]) (F := [.inl (zi_w (f0 + 1)), .inl f1, .inl f2, .inl f3, .inl 0, .inl 0, .inl f6, .inl f7]) (F' := [.inl r12.2.2.1, .inl f1, .inl f2, .inl r12.2.2.2.2.2.1, .inl r12.2.2.2.1, .inl r12.2.1, .inl r12.2.2.2.2.1, .inl r12.2.2.2.2.2.2.1]) (G := [g0, (zv_up g1 f2 r1), (zv_up g2 f2 f3), g3, g4, g5, g6]) (G' := [g0, (zv_up g1 f2 r1), (zv_up g2 f2 f3), g3, r12.2.2.2.2.2.2.2.1, r12.2.2.2.2.2.2.2.2, g6]) (ρ := [0, 1, 5, 6]) (φ := [5, 0, 1, 4, 6, 3, 7]) (ψ := [0, 4, 5]) [some 1, some 2, none, some 5, some 3, some 0, some 4, some 6] [some 0, none, none, none, some 1, some 2, none] zyw_M_readsSum zyw_M_readsClause zye_M_readsClause (by decide +kernel) (zt_M_readsSum hr12) ⟨⟨_, rfl, fun _ => rfl⟩, ⟨_, rfl, fun _ => rfl⟩, ⟨_, rfl, fun _ => rfl⟩, ⟨_, rfl, fun _ => rfl⟩, ⟨_, rfl, fun _ => rfl⟩, ⟨_, rfl, fun _ => rfl⟩, ⟨_, rfl, fun _ => rfl⟩, trivial⟩ ⟨rfl, rfl, rfl, trivial⟩ rfl rfl rfl rfl rfl rfl rfl) zd216_97 zxt220 rfl (by decide) (by decide) rfl ?_
          refine zv_zne hB zd216_100 rfl (fun hc13 => ?_) (fun hc13 => ?_)
          · rw [if_neg hc13] at h
            refine zv_ald hB zd216_105 rfl rfl rfl ?_
            refine zv_getr hB zd216_106 rfl ?_
            refine zv_ald hB zd216_109 rfl rfl rfl ?_
            refine zv_getf hB zd216_110 rfl rfl (fun _ _ => ?_)
            refine zv_ald hB zd216_113 rfl rfl rfl ?_
            refine zv_getf hB zd216_114 rfl rfl (fun _ _ => ?_)
            refine zv_iast hB zd216_117 rfl rfl (zi_ix_ok c5).1 (zi_ix_ok c5).2 ?_
            refine zv_ald hB zd216_118 rfl rfl rfl ?_
            obtain ⟨r14, hr14, h⟩ := zi_bind h
            refine zv_cv hB (zv_emq (va2 := [.inr 0]) (F := [.inl r12.2.2.1, .inl f1, .inl f2, .inl r12.2.2.2.2.2.1, .inl r12.2.2.2.1, .inl r12.2.1, .inl r12.2.2.2.2.1, .inl r12.2.2.2.2.2.2.1]) (F' := [.inl r14.2.1, .inl f1, .inl f2, .inl r14.2.2.2.2.2.1, .inl r14.2.2.1, .inl r14.2.2.2.1, .inl r14.2.2.2.2.1, .inl r14.2.2.2.2.2.2.1]) (G := [g0, (zv_up g1 f2 r1), (zv_up g2 f2 f3), (zv_up g3 f2 r12.2.2.2.2.2.1), r12.2.2.2.2.2.2.2.1, r12.2.2.2.2.2.2.2.2, g6]) (G' := [g0, (zv_up g1 f2 r1), (zv_up g2 f2 f3), (zv_up g3 f2 r12.2.2.2.2.2.1), r14.2.2.2.2.2.2.2.1, r14.2.2.2.2.2.2.2.2, g6]) (ρ := [0, 1, 5, 6]) (φ := [0, 1, 4, 5, 6, 3, 7]) (ψ := [0, 4, 5]) [some 0, some 1, none, some 5, some 2, some 3, some 4, some 6] [some 0, none, none, none, some 1, some 2, none] zyw_M_readsCondition zyw_M_readsClause zye_M_readsClause (by decide +kernel) (zt_M_readsCondition hr14) ⟨⟨_, rfl, fun _ => rfl⟩, ⟨_, rfl, fun _ => rfl⟩, ⟨_, rfl, fun _ => rfl⟩, ⟨_, rfl, fun _ => rfl⟩, ⟨_, rfl, fun _ => rfl⟩, ⟨_, rfl, fun _ => rfl⟩, ⟨_, rfl, fun _ => rfl⟩, trivial⟩ ⟨rfl, rfl, rfl, trivial⟩ rfl rfl rfl rfl rfl rfl rfl) zd216_119 zxt231 rfl (by decide) (by decide) rfl ?_
            refine zv_zne hB zd216_122 rfl (fun hc15 => ?_) (fun hc15 => ?_)
            · rw [if_neg hc15] at h
              refine zv_ald hB zd216_127 rfl rfl rfl ?_
              refine zv_getr hB zd216_128 rfl ?_
              refine zv_ald hB zd216_131 rfl rfl rfl ?_
              refine zv_getf hB zd216_132 rfl rfl (fun _ _ => ?_)
              refine zv_ald hB zd216_135 rfl rfl rfl ?_
              refine zv_getf hB zd216_136 rfl rfl (fun _ _ => ?_)
              refine zv_iast hB zd216_139 rfl rfl (zi_ix_ok c5).1 (zi_ix_ok c5).2 ?_
              refine zv_ald hB zd216_140 rfl rfl rfl ?_
              refine zv_ald hB zd216_141 rfl rfl rfl ?_
              refine zv_getf hB zd216_142 rfl rfl (fun _ _ => ?_)
              refine zv_con hB zd216_145 rfl ?_
              refine zv_addw hB zd216_146 ?_
              refine zv_putf hB zd216_147 rfl rfl (fun h => by cases h) rfl ?_
              refine zv_con hB zd216_150 rfl ?_
              have hw := Option.some.inj h
              subst hw
              exact hret _ _ _ _ _ zd216_151 (by constructor <;> decide) ⟨rfl, rfl, rfl⟩
            · rw [if_pos hc15] at h
              refine zv_con hB zd216_125 rfl ?_
              have hw := Option.some.inj h
              subst hw
              exact hret _ _ _ _ _ zd216_126 (by constructor <;> decide) ⟨rfl, rfl, rfl⟩
          · rw [if_pos hc13] at h
            refine zv_con hB zd216_103 rfl ?_
            have hw := Option.some.inj h
            subst hw
            exact hret _ _ _ _ _ zd216_104 (by constructor <;> decide) ⟨rfl, rfl, rfl⟩
    · rw [if_pos hc4] at h
      refine zv_ald hB zd216_31 rfl rfl rfl ?_
      refine zv_con hB zd216_32 rfl ?_
      refine zv_ald hB zd216_33 rfl rfl rfl ?_
      refine zv_getf hB zd216_34 rfl rfl (fun _ _ => ?_)
      obtain ⟨r16, hr16, h⟩ := zi_bind h
      refine zv_cv hB (zv_emq (va2 := [.inr 0, .inl 4, .inl f0]) (F := [.inl f0, .inl f1, .inl f2, .inl f3, .inl f4, .inl f5, .inl f6, .inl f7]) (F' := [.inl f0, .inl f1, .inl f2, .inl f3, .inl f4, .inl f5, .inl r16.2, .inl f7]) (G := [g0, g1, g2, g3, g4, g5, g6]) (G' := [g0, g1, g2, g3, g4, g5, g6]) (ρ := [0]) (φ := [6]) (ψ := []) [none, none, none, none, none, none, some 0, none] [none, none, none, none, none, none, none] zyw_M_wrongAt zyw_M_readsClause zye_M_readsClause (by decide +kernel) (zt_M_wrongAt hr16) ⟨⟨_, rfl, fun _ => rfl⟩, trivial⟩ trivial rfl rfl rfl rfl rfl rfl rfl) zd216_37 zxt219 rfl (by decide) (by decide) rfl ?_
      obtain ⟨c17, h⟩ := zi_if h
      have hw := Option.some.inj h
      subst hw
      exact hret _ _ _ _ _ zd216_40 (zi_bo_ok c17) ⟨rfl, rfl, rfl⟩
  · rw [if_pos hc3] at h
    refine zv_ald hB zd216_12 rfl rfl rfl ?_
    refine zv_con hB zd216_13 rfl ?_
    refine zv_ald hB zd216_14 rfl rfl rfl ?_
    refine zv_getf hB zd216_15 rfl rfl (fun _ _ => ?_)
    obtain ⟨r18, hr18, h⟩ := zi_bind h
    refine zv_cv hB (zv_emq (va2 := [.inr 0, .inl 1, .inl f0]) (F := [.inl f0, .inl f1, .inl f2, .inl f3, .inl f4, .inl f5, .inl f6, .inl f7]) (F' := [.inl f0, .inl f1, .inl f2, .inl f3, .inl f4, .inl f5, .inl r18.2, .inl f7]) (G := [g0, g1, g2, g3, g4, g5, g6]) (G' := [g0, g1, g2, g3, g4, g5, g6]) (ρ := [0]) (φ := [6]) (ψ := []) [none, none, none, none, none, none, some 0, none] [none, none, none, none, none, none, none] zyw_M_wrongAt zyw_M_readsClause zye_M_readsClause (by decide +kernel) (zt_M_wrongAt hr18) ⟨⟨_, rfl, fun _ => rfl⟩, trivial⟩ trivial rfl rfl rfl rfl rfl rfl rfl) zd216_18 zxt219 rfl (by decide) (by decide) rfl ?_
    obtain ⟨c19, h⟩ := zi_if h
    have hw := Option.some.inj h
    subst hw
    exact hret _ _ _ _ _ zd216_21 (zi_bo_ok c19) ⟨rfl, rfl, rfl⟩
/-! M_takes (I)Z -/
-- names: 0 StarTalesModel('arg', 0), 1 (1, 220)(0, 12, 3)
-- fields: f0 = 0.place0_, f1 = 0.length0_, f2 = 0.fault_; arrays: g0 = 1; out: [('ret', None), ('f', 0), ('f', 2)]
abbrev zy_M_takes : zNL := (2, [(0, 12)], [(0, 12, 5, 0), (0, 12, 6, 1), (0, 12, 7, 2)], [(0, 12, 3, 1)], [(1, 1, 220, 0)])
theorem zyw_M_takes : zv_wf zy_M_takes = true := by decide +kernel
theorem zye_M_takes : zv_ek2 zy_M_takes = true := by decide +kernel
def zf_M_takes (x1 : Int) (f0 : Int) (f1 : Int) (f2 : Int) (g0 : (Int → Int)) : Option (Int × Int × Int) := (zf_M_here f0 f1 g0).bind fun r1 => (if r1 = x1 then (some (1, (zi_w (f0 + 1)), f2)) else ((zf_M_wrongAt 1 f0 f2).bind fun r3 => (cond (zi_bo r3.1) (some (r3.1, f0, r3.2)) none)))
theorem zd236_0 : decode zxm236.2.1 0 = .ok (.aload_n 0, 1) := by decide +kernel
theorem zd236_1 : decode zxm236.2.1 1 = .ok (.invokevirtual 182, 3) := by decide +kernel
theorem zd236_4 : decode zxm236.2.1 4 = .ok (.iload_n 1, 1) := by decide +kernel
theorem zd236_5 : decode zxm236.2.1 5 = .ok (.if_icmp .eq 13, 3) := by decide +kernel
theorem zd236_8 : decode zxm236.2.1 8 = .ok (.aload_n 0, 1) := by decide +kernel
theorem zd236_9 : decode zxm236.2.1 9 = .ok (.iconst 1, 1) := by decide +kernel
theorem zd236_10 : decode zxm236.2.1 10 = .ok (.aload_n 0, 1) := by decide +kernel
theorem zd236_11 : decode zxm236.2.1 11 = .ok (.getfield 176, 3) := by decide +kernel
theorem zd236_14 : decode zxm236.2.1 14 = .ok (.invokevirtual 189, 3) := by decide +kernel
theorem zd236_17 : decode zxm236.2.1 17 = .ok (.ireturn, 1) := by decide +kernel
theorem zd236_18 : decode zxm236.2.1 18 = .ok (.aload_n 0, 1) := by decide +kernel
theorem zd236_19 : decode zxm236.2.1 19 = .ok (.aload_n 0, 1) := by decide +kernel
theorem zd236_20 : decode zxm236.2.1 20 = .ok (.getfield 176, 3) := by decide +kernel
theorem zd236_23 : decode zxm236.2.1 23 = .ok (.iconst 1, 1) := by decide +kernel
theorem zd236_24 : decode zxm236.2.1 24 = .ok (.iadd, 1) := by decide +kernel
theorem zd236_25 : decode zxm236.2.1 25 = .ok (.putfield 176, 3) := by decide +kernel
theorem zd236_28 : decode zxm236.2.1 28 = .ok (.iconst 1, 1) := by decide +kernel
theorem zd236_29 : decode zxm236.2.1 29 = .ok (.ireturn, 1) := by decide +kernel
theorem zt_M_takes {x1 : Int} {f0 : Int} {f1 : Int} {f2 : Int} {g0 : (Int → Int)} {o : Int × Int × Int} (h : zf_M_takes x1 f0 f1 f2 g0 = some o) : zv_Fn z_TB z_cl z_KX zy_M_takes zxm236 (1, 60) [.inr 0, .inl x1] [.inl f0, .inl f1, .inl f2] [g0] (some o.1) [.inl o.2.1, .inl f1, .inl o.2.2] [g0] := zv_meth (K := (z_KF13, z_KC13, z_KL13, z_KT13, [], [], [], none)) (FT := z_FT) (MT := z_MT) (n := 2) zxp236 (z_ks13 _ (fun _ h => List.mem_cons_of_mem _ h) _ _ _ _ (fun j r h _ => by cases h)) (fun _ _ => zs_KX_p) zyw_M_takes (fun va F G h => by obtain ⟨rfl, _⟩ := h; rfl) (fun va F G h => by obtain ⟨rfl, _⟩ := h; rfl) rfl fun good va F G hB hret hvret hP => by
  obtain ⟨rfl, rfl, rfl⟩ := hP
  unfold zf_M_takes at h
  refine zv_ald hB zd236_0 rfl rfl rfl ?_
  obtain ⟨r1, hr1, h⟩ := zi_bind h
  refine zv_cv hB (zv_emq (va2 := [.inr 0]) (F := [.inl f0, .inl f1, .inl f2]) (F' := [.inl f0, .inl f1, .inl f2]) (G := [g0]) (G' := [g0]) (ρ := [0, 1]) (φ := [0, 1]) (ψ := [0]) [some 0, some 1, none] [some 0] zyw_M_here zyw_M_takes zye_M_takes (by decide +kernel) (zt_M_here hr1) ⟨⟨_, rfl, fun _ => rfl⟩, ⟨_, rfl, fun _ => rfl⟩, trivial⟩ ⟨rfl, trivial⟩ rfl rfl rfl rfl rfl rfl rfl) zd236_1 zxt217 rfl (by decide) (by decide) rfl ?_
  refine zv_ild hB zd236_4 rfl rfl ?_
  refine zv_ceq hB zd236_5 rfl (fun hc2 => ?_) (fun hc2 => ?_)
  · rw [if_pos hc2] at h
    refine zv_ald hB zd236_18 rfl rfl rfl ?_
    refine zv_ald hB zd236_19 rfl rfl rfl ?_
    refine zv_getf hB zd236_20 rfl rfl (fun _ _ => ?_)
    refine zv_con hB zd236_23 rfl ?_
    refine zv_addw hB zd236_24 ?_
    refine zv_putf hB zd236_25 rfl rfl (fun h => by cases h) rfl ?_
    refine zv_con hB zd236_28 rfl ?_
    have hw := Option.some.inj h
    subst hw
    exact hret _ _ _ _ _ zd236_29 (by constructor <;> decide) ⟨rfl, rfl, rfl⟩
  · rw [if_neg hc2] at h
    refine zv_ald hB zd236_8 rfl rfl rfl ?_
    refine zv_con hB zd236_9 rfl ?_
    refine zv_ald hB zd236_10 rfl rfl rfl ?_
    refine zv_getf hB zd236_11 rfl rfl (fun _ _ => ?_)
    obtain ⟨r3, hr3, h⟩ := zi_bind h
    refine zv_cv hB (zv_emq (va2 := [.inr 0, .inl 1, .inl f0]) (F := [.inl f0, .inl f1, .inl f2]) (F' := [.inl f0, .inl f1, .inl r3.2]) (G := [g0]) (G' := [g0]) (ρ := [0]) (φ := [2]) (ψ := []) [none, none, some 0] [none] zyw_M_wrongAt zyw_M_takes zye_M_takes (by decide +kernel) (zt_M_wrongAt hr3) ⟨⟨_, rfl, fun _ => rfl⟩, trivial⟩ trivial rfl rfl rfl rfl rfl rfl rfl) zd236_14 zxt219 rfl (by decide) (by decide) rfl ?_
    obtain ⟨c4, h⟩ := zi_if h
    have hw := Option.some.inj h
    subst hw
    exact hret _ _ _ _ _ zd236_17 (zi_bo_ok c4) ⟨rfl, rfl, rfl⟩
end

/-! Methods as functions, and that they do what these do. -/
/-! M_readsCompared ()Z -/
-- names: 0 StarTalesModel('arg', 0), 1 (1, 220)(0, 12, 3), 2 (0, 220)(0, 12, 15), 3 (0, 220)(0, 12, 14)
-- fields: f0 = 0.waiting_, f1 = 0.place0_, f2 = 0.length0_, f3 = 0.open_, f4 = 0.fault_, f5 = 0.codeMany_, f6 = 0.number0_; arrays: g0 = 1, g1 = 2, g2 = 3; out: [('ret', None), ('f', 0), ('f', 1), ('f', 3), ('f', 4), ('f', 5), ('f', 6), ('g', 1), ('g', 2)]
abbrev zy_M_readsCompared : zNL := (4, [(0, 12)], [(0, 12, 10, 0), (0, 12, 5, 1), (0, 12, 6, 2), (0, 12, 8, 3), (0, 12, 7, 4), (0, 12, 9, 5), (0, 12, 12, 6)], [(0, 12, 3, 1), (0, 12, 15, 2), (0, 12, 14, 3)], [(1, 1, 220, 0), (2, 0, 220, 1), (3, 0, 220, 2)])
theorem zyw_M_readsCompared : zv_wf zy_M_readsCompared = true := by decide +kernel
theorem zye_M_readsCompared : zv_ek2 zy_M_readsCompared = true := by decide +kernel
def zf_M_readsCompared (f0 : Int) (f1 : Int) (f2 : Int) (f3 : Int) (f4 : Int) (f5 : Int) (f6 : Int) (g0 : (Int → Int)) (g1 : (Int → Int)) (g2 : (Int → Int)) : Option (Int × Int × Int × Int × Int × Int × Int × (Int → Int) × (Int → Int)) := (zf_M_readsSum f0 f1 f2 f3 f4 f5 f6 g0 g1 g2).bind fun r1 => (if r1.1 = 0 then (some (0, r1.2.1, r1.2.2.1, r1.2.2.2.1, r1.2.2.2.2.1, r1.2.2.2.2.2.1, r1.2.2.2.2.2.2.1, r1.2.2.2.2.2.2.2.1, r1.2.2.2.2.2.2.2.2)) else ((zf_M_here r1.2.2.1 f2 g0).bind fun r3 => (if r3 = 60 then ((zf_M_readsSum r1.2.1 (zi_w (r1.2.2.1 + 1)) f2 r1.2.2.2.1 r1.2.2.2.2.1 r1.2.2.2.2.2.1 r1.2.2.2.2.2.2.1 g0 r1.2.2.2.2.2.2.2.1 r1.2.2.2.2.2.2.2.2).bind fun r23 => (if r23.1 = 0 then (some (0, r23.2.1, r23.2.2.1, r23.2.2.2.1, r23.2.2.2.2.1, r23.2.2.2.2.2.1, r23.2.2.2.2.2.2.1, r23.2.2.2.2.2.2.2.1, r23.2.2.2.2.2.2.2.2)) else ((zf_M_notes 7 0 r23.2.2.2.2.2.1 r23.2.2.2.2.2.2.2.2).bind fun r25 => ((zf_M_endsPiece r23.2.1 r25.1 r23.2.2.2.1 r23.2.2.2.2.2.2.2.1 r25.2).bind fun r26 => (some (1, r26.1, r23.2.2.1, r26.2.2.1, r23.2.2.2.2.1, r26.2.1, r23.2.2.2.2.2.2.1, r23.2.2.2.2.2.2.2.1, r26.2.2.2)))))) else ((zf_M_here r1.2.2.1 f2 g0).bind fun r5 => (if r5 = 62 then ((zf_M_readsSum r1.2.1 (zi_w (r1.2.2.1 + 1)) f2 r1.2.2.2.1 r1.2.2.2.2.1 r1.2.2.2.2.2.1 r1.2.2.2.2.2.2.1 g0 r1.2.2.2.2.2.2.2.1 r1.2.2.2.2.2.2.2.2).bind fun r18 => (if r18.1 = 0 then (some (0, r18.2.1, r18.2.2.1, r18.2.2.2.1, r18.2.2.2.2.1, r18.2.2.2.2.2.1, r18.2.2.2.2.2.2.1, r18.2.2.2.2.2.2.2.1, r18.2.2.2.2.2.2.2.2)) else ((zf_M_notes 8 0 r18.2.2.2.2.2.1 r18.2.2.2.2.2.2.2.2).bind fun r20 => ((zf_M_endsPiece r18.2.1 r20.1 r18.2.2.2.1 r18.2.2.2.2.2.2.2.1 r20.2).bind fun r21 => (some (1, r21.1, r18.2.2.1, r21.2.2.1, r18.2.2.2.2.1, r21.2.1, r18.2.2.2.2.2.2.1, r18.2.2.2.2.2.2.2.1, r21.2.2.2)))))) else ((zf_M_here r1.2.2.1 f2 g0).bind fun r7 => (if r7 = 61 then ((zf_M_readsSum r1.2.1 (zi_w (r1.2.2.1 + 1)) f2 r1.2.2.2.1 r1.2.2.2.2.1 r1.2.2.2.2.2.1 r1.2.2.2.2.2.2.1 g0 r1.2.2.2.2.2.2.2.1 r1.2.2.2.2.2.2.2.2).bind fun r13 => (if r13.1 = 0 then (some (0, r13.2.1, r13.2.2.1, r13.2.2.2.1, r13.2.2.2.2.1, r13.2.2.2.2.2.1, r13.2.2.2.2.2.2.1, r13.2.2.2.2.2.2.2.1, r13.2.2.2.2.2.2.2.2)) else ((zf_M_notes 9 0 r13.2.2.2.2.2.1 r13.2.2.2.2.2.2.2.2).bind fun r15 => ((zf_M_endsPiece r13.2.1 r15.1 r13.2.2.2.1 r13.2.2.2.2.2.2.2.1 r15.2).bind fun r16 => (some (1, r16.1, r13.2.2.1, r16.2.2.1, r13.2.2.2.2.1, r16.2.1, r13.2.2.2.2.2.2.1, r13.2.2.2.2.2.2.2.1, r16.2.2.2)))))) else ((zf_M_wrongAt 1 r1.2.2.1 r1.2.2.2.2.1).bind fun r10 => (cond (zi_bo r10.1) (some (r10.1, r1.2.1, r1.2.2.1, r1.2.2.2.1, r10.2, r1.2.2.2.2.2.1, r1.2.2.2.2.2.2.1, r1.2.2.2.2.2.2.2.1, r1.2.2.2.2.2.2.2.2)) none)))))))))
theorem zd232_0 : decode zxm232.2.1 0 = .ok (.aload_n 0, 1) := by decide +kernel
theorem zd232_1 : decode zxm232.2.1 1 = .ok (.invokevirtual 238, 3) := by decide +kernel
theorem zd232_4 : decode zxm232.2.1 4 = .ok (.ifCond .ne 5, 3) := by decide +kernel
theorem zd232_7 : decode zxm232.2.1 7 = .ok (.iconst 0, 1) := by decide +kernel
theorem zd232_8 : decode zxm232.2.1 8 = .ok (.ireturn, 1) := by decide +kernel
theorem zd232_9 : decode zxm232.2.1 9 = .ok (.aload_n 0, 1) := by decide +kernel
theorem zd232_10 : decode zxm232.2.1 10 = .ok (.invokevirtual 182, 3) := by decide +kernel
theorem zd232_13 : decode zxm232.2.1 13 = .ok (.bipush 60, 2) := by decide +kernel
theorem zd232_15 : decode zxm232.2.1 15 = .ok (.if_icmp .ne 8, 3) := by decide +kernel
theorem zd232_18 : decode zxm232.2.1 18 = .ok (.bipush 7, 2) := by decide +kernel
theorem zd232_20 : decode zxm232.2.1 20 = .ok (.goto 32, 3) := by decide +kernel
theorem zd232_23 : decode zxm232.2.1 23 = .ok (.aload_n 0, 1) := by decide +kernel
theorem zd232_24 : decode zxm232.2.1 24 = .ok (.invokevirtual 182, 3) := by decide +kernel
theorem zd232_27 : decode zxm232.2.1 27 = .ok (.bipush 62, 2) := by decide +kernel
theorem zd232_29 : decode zxm232.2.1 29 = .ok (.if_icmp .ne 8, 3) := by decide +kernel
theorem zd232_32 : decode zxm232.2.1 32 = .ok (.bipush 8, 2) := by decide +kernel
theorem zd232_34 : decode zxm232.2.1 34 = .ok (.goto 18, 3) := by decide +kernel
theorem zd232_37 : decode zxm232.2.1 37 = .ok (.aload_n 0, 1) := by decide +kernel
theorem zd232_38 : decode zxm232.2.1 38 = .ok (.invokevirtual 182, 3) := by decide +kernel
theorem zd232_41 : decode zxm232.2.1 41 = .ok (.bipush 61, 2) := by decide +kernel
theorem zd232_43 : decode zxm232.2.1 43 = .ok (.if_icmp .ne 8, 3) := by decide +kernel
theorem zd232_46 : decode zxm232.2.1 46 = .ok (.bipush 9, 2) := by decide +kernel
theorem zd232_48 : decode zxm232.2.1 48 = .ok (.goto 4, 3) := by decide +kernel
theorem zd232_51 : decode zxm232.2.1 51 = .ok (.iconst (-1), 1) := by decide +kernel
theorem zd232_52 : decode zxm232.2.1 52 = .ok (.istore_n 1, 1) := by decide +kernel
theorem zd232_53 : decode zxm232.2.1 53 = .ok (.iload_n 1, 1) := by decide +kernel
theorem zd232_54 : decode zxm232.2.1 54 = .ok (.iconst (-1), 1) := by decide +kernel
theorem zd232_55 : decode zxm232.2.1 55 = .ok (.if_icmp .ne 13, 3) := by decide +kernel
theorem zd232_58 : decode zxm232.2.1 58 = .ok (.aload_n 0, 1) := by decide +kernel
theorem zd232_59 : decode zxm232.2.1 59 = .ok (.iconst 1, 1) := by decide +kernel
theorem zd232_60 : decode zxm232.2.1 60 = .ok (.aload_n 0, 1) := by decide +kernel
theorem zd232_61 : decode zxm232.2.1 61 = .ok (.getfield 176, 3) := by decide +kernel
theorem zd232_64 : decode zxm232.2.1 64 = .ok (.invokevirtual 189, 3) := by decide +kernel
theorem zd232_67 : decode zxm232.2.1 67 = .ok (.ireturn, 1) := by decide +kernel
theorem zd232_68 : decode zxm232.2.1 68 = .ok (.aload_n 0, 1) := by decide +kernel
theorem zd232_69 : decode zxm232.2.1 69 = .ok (.aload_n 0, 1) := by decide +kernel
theorem zd232_70 : decode zxm232.2.1 70 = .ok (.getfield 176, 3) := by decide +kernel
theorem zd232_73 : decode zxm232.2.1 73 = .ok (.iconst 1, 1) := by decide +kernel
theorem zd232_74 : decode zxm232.2.1 74 = .ok (.iadd, 1) := by decide +kernel
theorem zd232_75 : decode zxm232.2.1 75 = .ok (.putfield 176, 3) := by decide +kernel
theorem zd232_78 : decode zxm232.2.1 78 = .ok (.aload_n 0, 1) := by decide +kernel
theorem zd232_79 : decode zxm232.2.1 79 = .ok (.invokevirtual 238, 3) := by decide +kernel
theorem zd232_82 : decode zxm232.2.1 82 = .ok (.ifCond .ne 5, 3) := by decide +kernel
theorem zd232_85 : decode zxm232.2.1 85 = .ok (.iconst 0, 1) := by decide +kernel
theorem zd232_86 : decode zxm232.2.1 86 = .ok (.ireturn, 1) := by decide +kernel
theorem zd232_87 : decode zxm232.2.1 87 = .ok (.aload_n 0, 1) := by decide +kernel
theorem zd232_88 : decode zxm232.2.1 88 = .ok (.iload_n 1, 1) := by decide +kernel
theorem zd232_89 : decode zxm232.2.1 89 = .ok (.iconst 0, 1) := by decide +kernel
theorem zd232_90 : decode zxm232.2.1 90 = .ok (.invokevirtual 212, 3) := by decide +kernel
theorem zd232_93 : decode zxm232.2.1 93 = .ok (.aload_n 0, 1) := by decide +kernel
theorem zd232_94 : decode zxm232.2.1 94 = .ok (.invokevirtual 241, 3) := by decide +kernel
theorem zd232_97 : decode zxm232.2.1 97 = .ok (.iconst 1, 1) := by decide +kernel
theorem zd232_98 : decode zxm232.2.1 98 = .ok (.ireturn, 1) := by decide +kernel
theorem zt_M_readsCompared {f0 : Int} {f1 : Int} {f2 : Int} {f3 : Int} {f4 : Int} {f5 : Int} {f6 : Int} {g0 : (Int → Int)} {g1 : (Int → Int)} {g2 : (Int → Int)} {o : Int × Int × Int × Int × Int × Int × Int × (Int → Int) × (Int → Int)} (h : zf_M_readsCompared f0 f1 f2 f3 f4 f5 f6 g0 g1 g2 = some o) : zv_Fn z_TB z_cl z_KX zy_M_readsCompared zxm232 (5, 300) [.inr 0] [.inl f0, .inl f1, .inl f2, .inl f3, .inl f4, .inl f5, .inl f6] [g0, g1, g2] (some o.1) [.inl o.2.1, .inl o.2.2.1, .inl f2, .inl o.2.2.2.1, .inl o.2.2.2.2.1, .inl o.2.2.2.2.2.1, .inl o.2.2.2.2.2.2.1] [g0, o.2.2.2.2.2.2.2.1, o.2.2.2.2.2.2.2.2] := zv_meth (K := (z_KF13, z_KC13, z_KL13, z_KT13, [], [], [], none)) (FT := z_FT) (MT := z_MT) (n := 1) zxp232 (z_ks13 _ (fun _ h => List.mem_cons_of_mem _ h) _ _ _ _ (fun j r h _ => by cases h)) (fun _ _ => zs_KX_p) zyw_M_readsCompared (fun va F G h => by obtain ⟨rfl, _⟩ := h; rfl) (fun va F G h => by obtain ⟨rfl, _⟩ := h; rfl) rfl fun good va F G hB hret hvret hP => by
  obtain ⟨rfl, rfl, rfl⟩ := hP
  unfold zf_M_readsCompared at h
  refine zv_ald hB zd232_0 rfl rfl rfl ?_
  obtain ⟨r1, hr1, h⟩ := zi_bind h
  refine zv_cv hB (zv_emq (va2 := [.inr 0]) (F := [.inl f0, .inl f1, .inl f2, .inl f3, .inl f4, .inl f5, .inl f6]) (F' := [.inl r1.2.1, .inl r1.2.2.1, .inl f2, .inl r1.2.2.2.1, .inl r1.2.2.2.2.1, .inl r1.2.2.2.2.2.1, .inl r1.2.2.2.2.2.2.1]) (G := [g0, g1, g2]) (G' := [g0, r1.2.2.2.2.2.2.2.1, r1.2.2.2.2.2.2.2.2]) (ρ := [0, 1, 2, 3]) (φ := [0, 1, 2, 3, 4, 5, 6]) (ψ := [0, 1, 2]) [some 0, some 1, some 2, some 3, some 4, some 5, some 6] [some 0, some 1, some 2] zyw_M_readsSum zyw_M_readsCompared zye_M_readsCompared (by decide +kernel) (zt_M_readsSum hr1) ⟨⟨_, rfl, fun _ => rfl⟩, ⟨_, rfl, fun _ => rfl⟩, ⟨_, rfl, fun _ => rfl⟩, ⟨_, rfl, fun _ => rfl⟩, ⟨_, rfl, fun _ => rfl⟩, ⟨_, rfl, fun _ => rfl⟩, ⟨_, rfl, fun _ => rfl⟩, trivial⟩ ⟨rfl, rfl, rfl, trivial⟩ rfl rfl rfl rfl rfl rfl rfl) zd232_1 zxt220 rfl (by decide) (by decide) rfl ?_
  refine zv_zne hB zd232_4 rfl (fun hc2 => ?_) (fun hc2 => ?_)
  · rw [if_neg hc2] at h
    refine zv_ald hB zd232_9 rfl rfl rfl ?_
    obtain ⟨r3, hr3, h⟩ := zi_bind h
    refine zv_cv hB (zv_emq (va2 := [.inr 0]) (F := [.inl r1.2.1, .inl r1.2.2.1, .inl f2, .inl r1.2.2.2.1, .inl r1.2.2.2.2.1, .inl r1.2.2.2.2.2.1, .inl r1.2.2.2.2.2.2.1]) (F' := [.inl r1.2.1, .inl r1.2.2.1, .inl f2, .inl r1.2.2.2.1, .inl r1.2.2.2.2.1, .inl r1.2.2.2.2.2.1, .inl r1.2.2.2.2.2.2.1]) (G := [g0, r1.2.2.2.2.2.2.2.1, r1.2.2.2.2.2.2.2.2]) (G' := [g0, r1.2.2.2.2.2.2.2.1, r1.2.2.2.2.2.2.2.2]) (ρ := [0, 1]) (φ := [1, 2]) (ψ := [0]) [none, some 0, some 1, none, none, none, none] [some 0, none, none] zyw_M_here zyw_M_readsCompared zye_M_readsCompared (by decide +kernel) (zt_M_here hr3) ⟨⟨_, rfl, fun _ => rfl⟩, ⟨_, rfl, fun _ => rfl⟩, trivial⟩ ⟨rfl, trivial⟩ rfl rfl rfl rfl rfl rfl rfl) zd232_10 zxt217 rfl (by decide) (by decide) rfl ?_
    refine zv_con hB zd232_13 rfl ?_
    refine zv_cne hB zd232_15 rfl (fun hc4 => ?_) (fun hc4 => ?_)
    · rw [if_neg hc4] at h
      refine zv_ald hB zd232_23 rfl rfl rfl ?_
      obtain ⟨r5, hr5, h⟩ := zi_bind h
      refine zv_cv hB (zv_emq (va2 := [.inr 0]) (F := [.inl r1.2.1, .inl r1.2.2.1, .inl f2, .inl r1.2.2.2.1, .inl r1.2.2.2.2.1, .inl r1.2.2.2.2.2.1, .inl r1.2.2.2.2.2.2.1]) (F' := [.inl r1.2.1, .inl r1.2.2.1, .inl f2, .inl r1.2.2.2.1, .inl r1.2.2.2.2.1, .inl r1.2.2.2.2.2.1, .inl r1.2.2.2.2.2.2.1]) (G := [g0, r1.2.2.2.2.2.2.2.1, r1.2.2.2.2.2.2.2.2]) (G' := [g0, r1.2.2.2.2.2.2.2.1, r1.2.2.2.2.2.2.2.2]) (ρ := [0, 1]) (φ := [1, 2]) (ψ := [0]) [none, some 0, some 1, none, none, none, none] [some 0, none, none] zyw_M_here zyw_M_readsCompared zye_M_readsCompared (by decide +kernel) (zt_M_here hr5) ⟨⟨_, rfl, fun _ => rfl⟩, ⟨_, rfl, fun _ => rfl⟩, trivial⟩ ⟨rfl, trivial⟩ rfl rfl rfl rfl rfl rfl rfl) zd232_24 zxt217 rfl (by decide) (by decide) rfl ?_
      refine zv_con hB zd232_27 rfl ?_
      refine zv_cne hB zd232_29 rfl (fun hc6 => ?_) (fun hc6 => ?_)
      · rw [if_neg hc6] at h
        refine zv_ald hB zd232_37 rfl rfl rfl ?_
        obtain ⟨r7, hr7, h⟩ := zi_bind h
        refine zv_cv hB (zv_emq (va2 := [.inr 0]) (F := [.inl r1.2.1, .inl r1.2.2.1, .inl f2, .inl r1.2.2.2.1, .inl r1.2.2.2.2.1, .inl r1.2.2.2.2.2.1, .inl r1.2.2.2.2.2.2.1]) (F' := [.inl r1.2.1, .inl r1.2.2.1, .inl f2, .inl r1.2.2.2.1, .inl r1.2.2.2.2.1, .inl r1.2.2.2.2.2.1, .inl r1.2.2.2.2.2.2.1]) (G := [g0, r1.2.2.2.2.2.2.2.1, r1.2.2.2.2.2.2.2.2]) (G' := [g0, r1.2.2.2.2.2.2.2.1, r1.2.2.2.2.2.2.2.2]) (ρ := [0, 1]) (φ := [1, 2]) (ψ := [0]) [none, some 0, some 1, none, none, none, none] [some 0, none, none] zyw_M_here zyw_M_readsCompared zye_M_readsCompared (by decide +kernel) (zt_M_here hr7) ⟨⟨_, rfl, fun _ => rfl⟩, ⟨_, rfl, fun _ => rfl⟩, trivial⟩ ⟨rfl, trivial⟩ rfl rfl rfl rfl rfl rfl rfl) zd232_38 zxt217 rfl (by decide) (by decide) rfl ?_
        refine zv_con hB zd232_41 rfl ?_
        refine zv_cne hB zd232_43 rfl (fun hc8 => ?_) (fun hc8 => ?_)
        · rw [if_neg hc8] at h
          refine zv_con hB zd232_51 rfl ?_
          refine zv_ist hB zd232_52 rfl rfl rfl ?_
          refine zv_ild hB zd232_53 rfl rfl ?_
          refine zv_con hB zd232_54 rfl ?_
          refine zv_cne hB zd232_55 rfl (fun hc => absurd hc (by decide)) (fun _ => ?_)
          refine zv_ald hB zd232_58 rfl rfl rfl ?_
          refine zv_con hB zd232_59 rfl ?_
          refine zv_ald hB zd232_60 rfl rfl rfl ?_
          refine zv_getf hB zd232_61 rfl rfl (fun _ _ => ?_)
          obtain ⟨r10, hr10, h⟩ := zi_bind h
          refine zv_cv hB (zv_emq (va2 := [.inr 0, .inl 1, .inl r1.2.2.1]) (F := [.inl r1.2.1, .inl r1.2.2.1, .inl f2, .inl r1.2.2.2.1, .inl r1.2.2.2.2.1, .inl r1.2.2.2.2.2.1, .inl r1.2.2.2.2.2.2.1]) (F' := [.inl r1.2.1, .inl r1.2.2.1, .inl f2, .inl r1.2.2.2.1, .inl r10.2, .inl r1.2.2.2.2.2.1, .inl r1.2.2.2.2.2.2.1]) (G := [g0, r1.2.2.2.2.2.2.2.1, r1.2.2.2.2.2.2.2.2]) (G' := [g0, r1.2.2.2.2.2.2.2.1, r1.2.2.2.2.2.2.2.2]) (ρ := [0]) (φ := [4]) (ψ := []) [none, none, none, none, some 0, none, none] [none, none, none] zyw_M_wrongAt zyw_M_readsCompared zye_M_readsCompared (by decide +kernel) (zt_M_wrongAt hr10) ⟨⟨_, rfl, fun _ => rfl⟩, trivial⟩ trivial rfl rfl rfl rfl rfl rfl rfl) zd232_64 zxt219 rfl (by decide) (by decide) rfl ?_
          obtain ⟨c11, h⟩ := zi_if h
          have hw := Option.some.inj h
          subst hw
          exact hret _ _ _ _ _ zd232_67 (zi_bo_ok c11) ⟨rfl, rfl, rfl⟩
        · rw [if_pos hc8] at h
          refine zv_con hB zd232_46 rfl ?_
          refine zv_goto hB zd232_48 rfl ?_
          refine zv_ist hB zd232_52 rfl rfl rfl ?_
          refine zv_ild hB zd232_53 rfl rfl ?_
          refine zv_con hB zd232_54 rfl ?_
          refine zv_cne hB zd232_55 rfl (fun _ => ?_) (fun hc => absurd hc (by decide))
          refine zv_ald hB zd232_68 rfl rfl rfl ?_
          refine zv_ald hB zd232_69 rfl rfl rfl ?_
          refine zv_getf hB zd232_70 rfl rfl (fun _ _ => ?_)
          refine zv_con hB zd232_73 rfl ?_
          refine zv_addw hB zd232_74 ?_
          refine zv_putf hB zd232_75 rfl rfl (fun h => by cases h) rfl ?_
          refine zv_ald hB zd232_78 rfl rfl rfl ?_
          obtain ⟨r13, hr13, h⟩ := zi_bind h
          refine zv_cv hB (zv_emq (va2 := [.inr 0]) (F := [.inl r1.2.1, .inl (zi_w (r1.2.2.1 + 1)), .inl f2, .inl r1.2.2.2.1, .inl r1.2.2.2.2.1, .inl r1.2.2.2.2.2.1, .inl r1.2.2.2.2.2.2.1]) (F' := [.inl r13.2.1, .inl r13.2.2.1, .inl f2, .inl r13.2.2.2.1, .inl r13.2.2.2.2.1, .inl r13.2.2.2.2.2.1, .inl r13.2.2.2.2.2.2.1]) (G := [g0, r1.2.2.2.2.2.2.2.1, r1.2.2.2.2.2.2.2.2]) (G' := [g0, r13.2.2.2.2.2.2.2.1, r13.2.2.2.2.2.2.2.2]) (ρ := [0, 1, 2, 3]) (φ := [0, 1, 2, 3, 4, 5, 6]) (ψ := [0, 1, 2]) [some 0, some 1, some 2, some 3, some 4, some 5, some 6] [some 0, some 1, some 2] zyw_M_readsSum zyw_M_readsCompared zye_M_readsCompared (by decide +kernel) (zt_M_readsSum hr13) ⟨⟨_, rfl, fun _ => rfl⟩, ⟨_, rfl, fun _ => rfl⟩, ⟨_, rfl, fun _ => rfl⟩, ⟨_, rfl, fun _ => rfl⟩, ⟨_, rfl, fun _ => rfl⟩, ⟨_, rfl, fun _ => rfl⟩, ⟨_, rfl, fun _ => rfl⟩, trivial⟩ ⟨rfl, rfl, rfl, trivial⟩ rfl rfl rfl rfl rfl rfl rfl) zd232_79 zxt220 rfl (by decide) (by decide) rfl ?_
          refine zv_zne hB zd232_82 rfl (fun hc14 => ?_) (fun hc14 => ?_)
          · rw [if_neg hc14] at h
            refine zv_ald hB zd232_87 rfl rfl rfl ?_
            refine zv_ild hB zd232_88 rfl rfl ?_
            refine zv_con hB zd232_89 rfl ?_
            obtain ⟨r15, hr15, h⟩ := zi_bind h
            refine zv_cv hB (zv_emq (va2 := [.inr 0, .inl 9, .inl 0]) (F := [.inl r13.2.1, .inl r13.2.2.1, .inl f2, .inl r13.2.2.2.1, .inl r13.2.2.2.2.1, .inl r13.2.2.2.2.2.1, .inl r13.2.2.2.2.2.2.1]) (F' := [.inl r13.2.1, .inl r13.2.2.1, .inl f2, .inl r13.2.2.2.1, .inl r13.2.2.2.2.1, .inl r15.1, .inl r13.2.2.2.2.2.2.1]) (G := [g0, r13.2.2.2.2.2.2.2.1, r13.2.2.2.2.2.2.2.2]) (G' := [g0, r13.2.2.2.2.2.2.2.1, r15.2]) (ρ := [0, 3]) (φ := [5]) (ψ := [2]) [none, none, none, none, none, some 0, none] [none, none, some 0] zyw_M_notes zyw_M_readsCompared zye_M_readsCompared (by decide +kernel) (zt_M_notes hr15) ⟨⟨_, rfl, fun _ => rfl⟩, trivial⟩ ⟨rfl, trivial⟩ rfl rfl rfl rfl rfl rfl rfl) zd232_90 zxt225 rfl (by decide) (by decide) rfl ?_
            refine zv_ald hB zd232_93 rfl rfl rfl ?_
            obtain ⟨r16, hr16, h⟩ := zi_bind h
            refine zv_cv hB (zv_emq (va2 := [.inr 0]) (F := [.inl r13.2.1, .inl r13.2.2.1, .inl f2, .inl r13.2.2.2.1, .inl r13.2.2.2.2.1, .inl r15.1, .inl r13.2.2.2.2.2.2.1]) (F' := [.inl r16.1, .inl r13.2.2.1, .inl f2, .inl r16.2.2.1, .inl r13.2.2.2.2.1, .inl r16.2.1, .inl r13.2.2.2.2.2.2.1]) (G := [g0, r13.2.2.2.2.2.2.2.1, r15.2]) (G' := [g0, r13.2.2.2.2.2.2.2.1, r16.2.2.2]) (ρ := [0, 2, 3]) (φ := [0, 5, 3]) (ψ := [1, 2]) [some 0, none, none, some 2, none, some 1, none] [none, some 0, some 1] zyw_M_endsPiece zyw_M_readsCompared zye_M_readsCompared (by decide +kernel) (zt_M_endsPiece hr16) ⟨⟨_, rfl, fun _ => rfl⟩, ⟨_, rfl, fun _ => rfl⟩, ⟨_, rfl, fun _ => rfl⟩, trivial⟩ ⟨rfl, rfl, trivial⟩ rfl rfl rfl rfl rfl rfl rfl) zd232_94 zxt233 rfl (by decide) (by decide) rfl ?_
            refine zv_con hB zd232_97 rfl ?_
            have hw := Option.some.inj h
            subst hw
            exact hret _ _ _ _ _ zd232_98 (by constructor <;> decide) ⟨rfl, rfl, rfl⟩
          · rw [if_pos hc14] at h
            refine zv_con hB zd232_85 rfl ?_
            have hw := Option.some.inj h
            subst hw
            exact hret _ _ _ _ _ zd232_86 (by constructor <;> decide) ⟨rfl, rfl, rfl⟩
      · rw [if_pos hc6] at h
        refine zv_con hB zd232_32 rfl ?_
        refine zv_goto hB zd232_34 rfl ?_
        refine zv_ist hB zd232_52 rfl rfl rfl ?_
        refine zv_ild hB zd232_53 rfl rfl ?_
        refine zv_con hB zd232_54 rfl ?_
        refine zv_cne hB zd232_55 rfl (fun _ => ?_) (fun hc => absurd hc (by decide))
        refine zv_ald hB zd232_68 rfl rfl rfl ?_
        refine zv_ald hB zd232_69 rfl rfl rfl ?_
        refine zv_getf hB zd232_70 rfl rfl (fun _ _ => ?_)
        refine zv_con hB zd232_73 rfl ?_
        refine zv_addw hB zd232_74 ?_
        refine zv_putf hB zd232_75 rfl rfl (fun h => by cases h) rfl ?_
        refine zv_ald hB zd232_78 rfl rfl rfl ?_
        obtain ⟨r18, hr18, h⟩ := zi_bind h
        refine zv_cv hB (zv_emq (va2 := [.inr 0]) (F := [.inl r1.2.1, .inl (zi_w (r1.2.2.1 + 1)), .inl f2, .inl r1.2.2.2.1, .inl r1.2.2.2.2.1, .inl r1.2.2.2.2.2.1, .inl r1.2.2.2.2.2.2.1]) (F' := [.inl r18.2.1, .inl r18.2.2.1, .inl f2, .inl r18.2.2.2.1, .inl r18.2.2.2.2.1, .inl r18.2.2.2.2.2.1, .inl r18.2.2.2.2.2.2.1]) (G := [g0, r1.2.2.2.2.2.2.2.1, r1.2.2.2.2.2.2.2.2]) (G' := [g0, r18.2.2.2.2.2.2.2.1, r18.2.2.2.2.2.2.2.2]) (ρ := [0, 1, 2, 3]) (φ := [0, 1, 2, 3, 4, 5, 6]) (ψ := [0, 1, 2]) [some 0, some 1, some 2, some 3, some 4, some 5, some 6] [some 0, some 1, some 2] zyw_M_readsSum zyw_M_readsCompared zye_M_readsCompared (by decide +kernel) (zt_M_readsSum hr18) ⟨⟨_, rfl, fun _ => rfl⟩, ⟨_, rfl, fun _ => rfl⟩, ⟨_, rfl, fun _ => rfl⟩, ⟨_, rfl, fun _ => rfl⟩, ⟨_, rfl, fun _ => rfl⟩, ⟨_, rfl, fun _ => rfl⟩, ⟨_, rfl, fun _ => rfl⟩, trivial⟩ ⟨rfl, rfl, rfl, trivial⟩ rfl rfl rfl rfl rfl rfl rfl) zd232_79 zxt220 rfl (by decide) (by decide) rfl ?_
        refine zv_zne hB zd232_82 rfl (fun hc19 => ?_) (fun hc19 => ?_)
        · rw [if_neg hc19] at h
          refine zv_ald hB zd232_87 rfl rfl rfl ?_
          refine zv_ild hB zd232_88 rfl rfl ?_
          refine zv_con hB zd232_89 rfl ?_
          obtain ⟨r20, hr20, h⟩ := zi_bind h
          refine zv_cv hB (zv_emq (va2 := [.inr 0, .inl 8, .inl 0]) (F := [.inl r18.2.1, .inl r18.2.2.1, .inl f2, .inl r18.2.2.2.1, .inl r18.2.2.2.2.1, .inl r18.2.2.2.2.2.1, .inl r18.2.2.2.2.2.2.1]) (F' := [.inl r18.2.1, .inl r18.2.2.1, .inl f2, .inl r18.2.2.2.1, .inl r18.2.2.2.2.1, .inl r20.1, .inl r18.2.2.2.2.2.2.1]) (G := [g0, r18.2.2.2.2.2.2.2.1, r18.2.2.2.2.2.2.2.2]) (G' := [g0, r18.2.2.2.2.2.2.2.1, r20.2]) (ρ := [0, 3]) (φ := [5]) (ψ := [2]) [none, none, none, none, none, some 0, none] [none, none, some 0] zyw_M_notes zyw_M_readsCompared zye_M_readsCompared (by decide +kernel) (zt_M_notes hr20) ⟨⟨_, rfl, fun _ => rfl⟩, trivial⟩ ⟨rfl, trivial⟩ rfl rfl rfl rfl rfl rfl rfl) zd232_90 zxt225 rfl (by decide) (by decide) rfl ?_
          refine zv_ald hB zd232_93 rfl rfl rfl ?_
          obtain ⟨r21, hr21, h⟩ := zi_bind h
          refine zv_cv hB (zv_emq (va2 := [.inr 0]) (F := [.inl r18.2.1, .inl r18.2.2.1, .inl f2, .inl r18.2.2.2.1, .inl r18.2.2.2.2.1, .inl r20.1, .inl r18.2.2.2.2.2.2.1]) (F' := [.inl r21.1, .inl r18.2.2.1, .inl f2, .inl r21.2.2.1, .inl r18.2.2.2.2.1, .inl r21.2.1, .inl r18.2.2.2.2.2.2.1]) (G := [g0, r18.2.2.2.2.2.2.2.1, r20.2]) (G' := [g0, r18.2.2.2.2.2.2.2.1, r21.2.2.2]) (ρ := [0, 2, 3]) (φ := [0, 5, 3]) (ψ := [1, 2]) [some 0, none, none, some 2, none, some 1, none] [none, some 0, some 1] zyw_M_endsPiece zyw_M_readsCompared zye_M_readsCompared (by decide +kernel) (zt_M_endsPiece hr21) ⟨⟨_, rfl, fun _ => rfl⟩, ⟨_, rfl, fun _ => rfl⟩, ⟨_, rfl, fun _ => rfl⟩, trivial⟩ ⟨rfl, rfl, trivial⟩ rfl rfl rfl rfl rfl rfl rfl) zd232_94 zxt233 rfl (by decide) (by decide) rfl ?_
          refine zv_con hB zd232_97 rfl ?_
          have hw := Option.some.inj h
          subst hw
          exact hret _ _ _ _ _ zd232_98 (by constructor <;> decide) ⟨rfl, rfl, rfl⟩
        · rw [if_pos hc19] at h
          refine zv_con hB zd232_85 rfl ?_
          have hw := Option.some.inj h
          subst hw
          exact hret _ _ _ _ _ zd232_86 (by constructor <;> decide) ⟨rfl, rfl, rfl⟩
    · rw [if_pos hc4] at h
      refine zv_con hB zd232_18 rfl ?_
      refine zv_goto hB zd232_20 rfl ?_
      refine zv_ist hB zd232_52 rfl rfl rfl ?_
      refine zv_ild hB zd232_53 rfl rfl ?_
      refine zv_con hB zd232_54 rfl ?_
      refine zv_cne hB zd232_55 rfl (fun _ => ?_) (fun hc => absurd hc (by decide))
      refine zv_ald hB zd232_68 rfl rfl rfl ?_
      refine zv_ald hB zd232_69 rfl rfl rfl ?_
      refine zv_getf hB zd232_70 rfl rfl (fun _ _ => ?_)
      refine zv_con hB zd232_73 rfl ?_
      refine zv_addw hB zd232_74 ?_
      refine zv_putf hB zd232_75 rfl rfl (fun h => by cases h) rfl ?_
      refine zv_ald hB zd232_78 rfl rfl rfl ?_
      obtain ⟨r23, hr23, h⟩ := zi_bind h
      refine zv_cv hB (zv_emq (va2 := [.inr 0]) (F := [.inl r1.2.1, .inl (zi_w (r1.2.2.1 + 1)), .inl f2, .inl r1.2.2.2.1, .inl r1.2.2.2.2.1, .inl r1.2.2.2.2.2.1, .inl r1.2.2.2.2.2.2.1]) (F' := [.inl r23.2.1, .inl r23.2.2.1, .inl f2, .inl r23.2.2.2.1, .inl r23.2.2.2.2.1, .inl r23.2.2.2.2.2.1, .inl r23.2.2.2.2.2.2.1]) (G := [g0, r1.2.2.2.2.2.2.2.1, r1.2.2.2.2.2.2.2.2]) (G' := [g0, r23.2.2.2.2.2.2.2.1, r23.2.2.2.2.2.2.2.2]) (ρ := [0, 1, 2, 3]) (φ := [0, 1, 2, 3, 4, 5, 6]) (ψ := [0, 1, 2]) [some 0, some 1, some 2, some 3, some 4, some 5, some 6] [some 0, some 1, some 2] zyw_M_readsSum zyw_M_readsCompared zye_M_readsCompared (by decide +kernel) (zt_M_readsSum hr23) ⟨⟨_, rfl, fun _ => rfl⟩, ⟨_, rfl, fun _ => rfl⟩, ⟨_, rfl, fun _ => rfl⟩, ⟨_, rfl, fun _ => rfl⟩, ⟨_, rfl, fun _ => rfl⟩, ⟨_, rfl, fun _ => rfl⟩, ⟨_, rfl, fun _ => rfl⟩, trivial⟩ ⟨rfl, rfl, rfl, trivial⟩ rfl rfl rfl rfl rfl rfl rfl) zd232_79 zxt220 rfl (by decide) (by decide) rfl ?_
      refine zv_zne hB zd232_82 rfl (fun hc24 => ?_) (fun hc24 => ?_)
      · rw [if_neg hc24] at h
        refine zv_ald hB zd232_87 rfl rfl rfl ?_
        refine zv_ild hB zd232_88 rfl rfl ?_
        refine zv_con hB zd232_89 rfl ?_
        obtain ⟨r25, hr25, h⟩ := zi_bind h
        refine zv_cv hB (zv_emq (va2 := [.inr 0, .inl 7, .inl 0]) (F := [.inl r23.2.1, .inl r23.2.2.1, .inl f2, .inl r23.2.2.2.1, .inl r23.2.2.2.2.1, .inl r23.2.2.2.2.2.1, .inl r23.2.2.2.2.2.2.1]) (F' := [.inl r23.2.1, .inl r23.2.2.1, .inl f2, .inl r23.2.2.2.1, .inl r23.2.2.2.2.1, .inl r25.1, .inl r23.2.2.2.2.2.2.1]) (G := [g0, r23.2.2.2.2.2.2.2.1, r23.2.2.2.2.2.2.2.2]) (G' := [g0, r23.2.2.2.2.2.2.2.1, r25.2]) (ρ := [0, 3]) (φ := [5]) (ψ := [2]) [none, none, none, none, none, some 0, none] [none, none, some 0] zyw_M_notes zyw_M_readsCompared zye_M_readsCompared (by decide +kernel) (zt_M_notes hr25) ⟨⟨_, rfl, fun _ => rfl⟩, trivial⟩ ⟨rfl, trivial⟩ rfl rfl rfl rfl rfl rfl rfl) zd232_90 zxt225 rfl (by decide) (by decide) rfl ?_
        refine zv_ald hB zd232_93 rfl rfl rfl ?_
        obtain ⟨r26, hr26, h⟩ := zi_bind h
        refine zv_cv hB (zv_emq (va2 := [.inr 0]) (F := [.inl r23.2.1, .inl r23.2.2.1, .inl f2, .inl r23.2.2.2.1, .inl r23.2.2.2.2.1, .inl r25.1, .inl r23.2.2.2.2.2.2.1]) (F' := [.inl r26.1, .inl r23.2.2.1, .inl f2, .inl r26.2.2.1, .inl r23.2.2.2.2.1, .inl r26.2.1, .inl r23.2.2.2.2.2.2.1]) (G := [g0, r23.2.2.2.2.2.2.2.1, r25.2]) (G' := [g0, r23.2.2.2.2.2.2.2.1, r26.2.2.2]) (ρ := [0, 2, 3]) (φ := [0, 5, 3]) (ψ := [1, 2]) [some 0, none, none, some 2, none, some 1, none] [none, some 0, some 1] zyw_M_endsPiece zyw_M_readsCompared zye_M_readsCompared (by decide +kernel) (zt_M_endsPiece hr26) ⟨⟨_, rfl, fun _ => rfl⟩, ⟨_, rfl, fun _ => rfl⟩, ⟨_, rfl, fun _ => rfl⟩, trivial⟩ ⟨rfl, rfl, trivial⟩ rfl rfl rfl rfl rfl rfl rfl) zd232_94 zxt233 rfl (by decide) (by decide) rfl ?_
        refine zv_con hB zd232_97 rfl ?_
        have hw := Option.some.inj h
        subst hw
        exact hret _ _ _ _ _ zd232_98 (by constructor <;> decide) ⟨rfl, rfl, rfl⟩
      · rw [if_pos hc24] at h
        refine zv_con hB zd232_85 rfl ?_
        have hw := Option.some.inj h
        subst hw
        exact hret _ _ _ _ _ zd232_86 (by constructor <;> decide) ⟨rfl, rfl, rfl⟩
  · rw [if_pos hc2] at h
    refine zv_con hB zd232_7 rfl ?_
    have hw := Option.some.inj h
    subst hw
    exact hret _ _ _ _ _ zd232_8 (by constructor <;> decide) ⟨rfl, rfl, rfl⟩
/-! M_lands (Z)V -/
-- names: 0 StarTalesModel('arg', 0), 1 (0, 220)(0, 12, 15), 2 (0, 220)(0, 12, 14)
-- fields: f0 = 0.waiting_, f1 = 0.codeMany_; arrays: g0 = 1, g1 = 2; out: [('f', 0), ('g', 1)]
abbrev zy_M_lands : zNL := (3, [(0, 12)], [(0, 12, 10, 0), (0, 12, 9, 1)], [(0, 12, 15, 1), (0, 12, 14, 2)], [(1, 0, 220, 0), (2, 0, 220, 1)])
theorem zyw_M_lands : zv_wf zy_M_lands = true := by decide +kernel
theorem zye_M_lands : zv_ek2 zy_M_lands = true := by decide +kernel
def zf_M_lands_l0_b (x1 : Int) (f1 : Int) (g0 : (Int → Int)) (rec : Int → (Int → Int) → Option (Int × (Int → Int))) (f0 : Int) (g1 : (Int → Int)) : Option (Int × (Int → Int)) := (zf_M_waitTop f0 g0).bind fun r1 => (if r1 = 11 then (cond (zi_ix (zi_w (f0 - 1)) 220) (cond (zi_ix (zi_rem (g0 (zi_w (f0 - 1))) 1048576) 220) (rec (zi_w (f0 - 1)) (zv_up g1 (zi_rem (g0 (zi_w (f0 - 1))) 1048576) (zi_w ((zi_w (1048576 * (zi_div (g1 (zi_rem (g0 (zi_w (f0 - 1))) 1048576)) 1048576))) + f1)))) none) none) else (if x1 = 0 then (some (f0, g1)) else ((zf_M_waitTop f0 g0).bind fun r6 => (if r6 = 12 then (cond (zi_ix (zi_w (f0 - 1)) 220) (cond (zi_ix (zi_rem (g0 (zi_w (f0 - 1))) 1048576) 220) (rec (zi_w (f0 - 1)) (zv_up g1 (zi_rem (g0 (zi_w (f0 - 1))) 1048576) (zi_w ((zi_w (1048576 * (zi_div (g1 (zi_rem (g0 (zi_w (f0 - 1))) 1048576)) 1048576))) + f1)))) none) none) else (some (f0, g1))))))
def zf_M_lands_l0 (x1 : Int) (f1 : Int) (g0 : (Int → Int)) : Nat → Int → (Int → Int) → Option (Int × (Int → Int))
  | 0, _, _ => none
  | n + 1, f0, g1 => zf_M_lands_l0_b x1 f1 g0 (zf_M_lands_l0 x1 f1 g0 n) f0 g1
def zf_M_lands (x1 : Int) (f0 : Int) (f1 : Int) (g0 : (Int → Int)) (g1 : (Int → Int)) : Option (Int × (Int → Int)) := (zf_M_lands_l0 x1 f1 g0 zi_fu f0 g1).bind fun q10 => (some (q10.1, q10.2))
theorem zd234_0 : decode zxm234.2.1 0 = .ok (.aload_n 0, 1) := by decide +kernel
theorem zd234_1 : decode zxm234.2.1 1 = .ok (.invokevirtual 209, 3) := by decide +kernel
theorem zd234_4 : decode zxm234.2.1 4 = .ok (.bipush 11, 2) := by decide +kernel
theorem zd234_6 : decode zxm234.2.1 6 = .ok (.if_icmp .eq 16, 3) := by decide +kernel
theorem zd234_9 : decode zxm234.2.1 9 = .ok (.iload_n 1, 1) := by decide +kernel
theorem zd234_10 : decode zxm234.2.1 10 = .ok (.ifCond .eq 63, 3) := by decide +kernel
theorem zd234_13 : decode zxm234.2.1 13 = .ok (.aload_n 0, 1) := by decide +kernel
theorem zd234_14 : decode zxm234.2.1 14 = .ok (.invokevirtual 209, 3) := by decide +kernel
theorem zd234_17 : decode zxm234.2.1 17 = .ok (.bipush 12, 2) := by decide +kernel
theorem zd234_19 : decode zxm234.2.1 19 = .ok (.if_icmp .ne 54, 3) := by decide +kernel
theorem zd234_22 : decode zxm234.2.1 22 = .ok (.aload_n 0, 1) := by decide +kernel
theorem zd234_23 : decode zxm234.2.1 23 = .ok (.getfield 26, 3) := by decide +kernel
theorem zd234_26 : decode zxm234.2.1 26 = .ok (.aload_n 0, 1) := by decide +kernel
theorem zd234_27 : decode zxm234.2.1 27 = .ok (.getfield 206, 3) := by decide +kernel
theorem zd234_30 : decode zxm234.2.1 30 = .ok (.iconst 1, 1) := by decide +kernel
theorem zd234_31 : decode zxm234.2.1 31 = .ok (.isub, 1) := by decide +kernel
theorem zd234_32 : decode zxm234.2.1 32 = .ok (.iaload, 1) := by decide +kernel
theorem zd234_33 : decode zxm234.2.1 33 = .ok (.ldc 202, 2) := by decide +kernel
theorem zd234_35 : decode zxm234.2.1 35 = .ok (.irem, 1) := by decide +kernel
theorem zd234_36 : decode zxm234.2.1 36 = .ok (.istore_n 2, 1) := by decide +kernel
theorem zd234_37 : decode zxm234.2.1 37 = .ok (.aload_n 0, 1) := by decide +kernel
theorem zd234_38 : decode zxm234.2.1 38 = .ok (.getfield 23, 3) := by decide +kernel
theorem zd234_41 : decode zxm234.2.1 41 = .ok (.iload_n 2, 1) := by decide +kernel
theorem zd234_42 : decode zxm234.2.1 42 = .ok (.ldc 202, 2) := by decide +kernel
theorem zd234_44 : decode zxm234.2.1 44 = .ok (.aload_n 0, 1) := by decide +kernel
theorem zd234_45 : decode zxm234.2.1 45 = .ok (.getfield 23, 3) := by decide +kernel
theorem zd234_48 : decode zxm234.2.1 48 = .ok (.iload_n 2, 1) := by decide +kernel
theorem zd234_49 : decode zxm234.2.1 49 = .ok (.iaload, 1) := by decide +kernel
theorem zd234_50 : decode zxm234.2.1 50 = .ok (.ldc 202, 2) := by decide +kernel
theorem zd234_52 : decode zxm234.2.1 52 = .ok (.idiv, 1) := by decide +kernel
theorem zd234_53 : decode zxm234.2.1 53 = .ok (.imul, 1) := by decide +kernel
theorem zd234_54 : decode zxm234.2.1 54 = .ok (.aload_n 0, 1) := by decide +kernel
theorem zd234_55 : decode zxm234.2.1 55 = .ok (.getfield 199, 3) := by decide +kernel
theorem zd234_58 : decode zxm234.2.1 58 = .ok (.iadd, 1) := by decide +kernel
theorem zd234_59 : decode zxm234.2.1 59 = .ok (.iastore, 1) := by decide +kernel
theorem zd234_60 : decode zxm234.2.1 60 = .ok (.aload_n 0, 1) := by decide +kernel
theorem zd234_61 : decode zxm234.2.1 61 = .ok (.aload_n 0, 1) := by decide +kernel
theorem zd234_62 : decode zxm234.2.1 62 = .ok (.getfield 206, 3) := by decide +kernel
theorem zd234_65 : decode zxm234.2.1 65 = .ok (.iconst 1, 1) := by decide +kernel
theorem zd234_66 : decode zxm234.2.1 66 = .ok (.isub, 1) := by decide +kernel
theorem zd234_67 : decode zxm234.2.1 67 = .ok (.putfield 206, 3) := by decide +kernel
theorem zd234_70 : decode zxm234.2.1 70 = .ok (.goto (-70), 3) := by decide +kernel
theorem zd234_73 : decode zxm234.2.1 73 = .ok (.return_, 1) := by decide +kernel
theorem zt_M_lands {x1 : Int} {f0 : Int} {f1 : Int} {g0 : (Int → Int)} {g1 : (Int → Int)} {o : Int × (Int → Int)} (h : zf_M_lands x1 f0 f1 g0 g1 = some o) : zv_Fn z_TB z_cl z_KX zy_M_lands zxm234 (1, 60) [.inr 0, .inl x1] [.inl f0, .inl f1] [g0, g1] none [.inl o.1, .inl f1] [g0, o.2] := zv_meth (K := (z_KF13, z_KC13, z_KL13, z_KT13, [], [], [], none)) (FT := z_FT) (MT := z_MT) (n := 2) zxp234 (z_ks13 _ (fun _ h => List.mem_cons_of_mem _ h) _ _ _ _ (fun j r h _ => by cases h)) (fun _ _ => zs_KX_p) zyw_M_lands (fun va F G h => by obtain ⟨rfl, _⟩ := h; rfl) (fun va F G h => by obtain ⟨rfl, _⟩ := h; rfl) rfl fun good va F G hB hret hvret hP => by
  obtain ⟨rfl, rfl, rfl⟩ := hP
  have l0 : ∀ (n : Nat) (x1 : Int) (f0 : Int) (g1 : (Int → Int)) (q : Int × (Int → Int)), zf_M_lands_l0 x1 f1 g0 n f0 g1 = some q → (good 73 [.inr 1000, .inr 1000, .inr 1000] [] [.inl q.1, .inl f1] [g0, q.2]) → good 0 [.inr 0, .inl x1, .inr 1000] [] [.inl f0, .inl f1] [g0, g1] := by
    intro n
    induction n with
    | zero => intro x1 f0 g1 q h; exact absurd (show none = some q from h) (fun h => by cases h)
    | succ n ih =>
      intro x1 f0 g1 q h hK
      replace h : zf_M_lands_l0_b x1 f1 g0 (zf_M_lands_l0 x1 f1 g0 n) f0 g1 = some q := h
      unfold zf_M_lands_l0_b at h
      refine zv_ald hB zd234_0 rfl rfl rfl ?_
      obtain ⟨r1, hr1, h⟩ := zi_bind h
      refine zv_cv hB (zv_emq (va2 := [.inr 0]) (F := [.inl f0, .inl f1]) (F' := [.inl f0, .inl f1]) (G := [g0, g1]) (G' := [g0, g1]) (ρ := [0, 1]) (φ := [0]) (ψ := [0]) [some 0, none] [some 0, none] zyw_M_waitTop zyw_M_lands zye_M_lands (by decide +kernel) (zt_M_waitTop hr1) ⟨⟨_, rfl, fun _ => rfl⟩, trivial⟩ ⟨rfl, trivial⟩ rfl rfl rfl rfl rfl rfl rfl) zd234_1 zxt229 rfl (by decide) (by decide) rfl ?_
      refine zv_con hB zd234_4 rfl ?_
      refine zv_ceq hB zd234_6 rfl (fun hc2 => ?_) (fun hc2 => ?_)
      · rw [if_pos hc2] at h
        refine zv_ald hB zd234_22 rfl rfl rfl ?_
        refine zv_getr hB zd234_23 rfl ?_
        refine zv_ald hB zd234_26 rfl rfl rfl ?_
        refine zv_getf hB zd234_27 rfl rfl (fun _ _ => ?_)
        refine zv_con hB zd234_30 rfl ?_
        refine zv_subw hB zd234_31 ?_
        obtain ⟨c3, h⟩ := zi_if h
        refine zv_iald hB zd234_32 rfl rfl (zi_ix_ok c3).1 (zi_ix_ok c3).2 (fun _ _ => ?_)
        refine zv_con (n := 1048576) hB zd234_33 (by decide +kernel) ?_
        refine zv_remw hB zd234_35 (by decide) ?_
        refine zv_ist hB zd234_36 rfl rfl rfl ?_
        refine zv_ald hB zd234_37 rfl rfl rfl ?_
        refine zv_getr hB zd234_38 rfl ?_
        refine zv_ild hB zd234_41 rfl rfl ?_
        refine zv_con (n := 1048576) hB zd234_42 (by decide +kernel) ?_
        refine zv_ald hB zd234_44 rfl rfl rfl ?_
        refine zv_getr hB zd234_45 rfl ?_
        refine zv_ild hB zd234_48 rfl rfl ?_
        obtain ⟨c4, h⟩ := zi_if h
        refine zv_iald hB zd234_49 rfl rfl (zi_ix_ok c4).1 (zi_ix_ok c4).2 (fun _ _ => ?_)
        refine zv_con (n := 1048576) hB zd234_50 (by decide +kernel) ?_
        refine zv_divw hB zd234_52 (by decide) ?_
        refine zv_mulw hB zd234_53 ?_
        refine zv_ald hB zd234_54 rfl rfl rfl ?_
        refine zv_getf hB zd234_55 rfl rfl (fun _ _ => ?_)
        refine zv_addw hB zd234_58 ?_
        refine zv_iast hB zd234_59 rfl rfl (zi_ix_ok c4).1 (zi_ix_ok c4).2 ?_
        refine zv_ald hB zd234_60 rfl rfl rfl ?_
        refine zv_ald hB zd234_61 rfl rfl rfl ?_
        refine zv_getf hB zd234_62 rfl rfl (fun _ _ => ?_)
        refine zv_con hB zd234_65 rfl ?_
        refine zv_subw hB zd234_66 ?_
        refine zv_putf hB zd234_67 rfl rfl (fun h => by cases h) rfl ?_
        refine zv_goto hB zd234_70 rfl ?_
        refine zv_wk hB (L' := [.inr 0, .inl x1, .inr 1000]) (F' := [.inl (zi_w (f0 - 1)), .inl f1]) ⟨fun _ => rfl, fun _ => rfl, fun (h : zv_is (.inr 1000)) => (Nat.lt_irrefl 1000 h).elim, trivial⟩ ⟨fun _ => rfl, fun _ => rfl, trivial⟩ ?_
        exact ih _ _ _ q h hK
      · rw [if_neg hc2] at h
        refine zv_ild hB zd234_9 rfl rfl ?_
        refine zv_zeq hB zd234_10 rfl (fun hc5 => ?_) (fun hc5 => ?_)
        · rw [if_pos hc5] at h
          have hq := Option.some.inj h
          subst hq
          refine zv_wk hB (L' := [.inr 1000, .inr 1000, .inr 1000]) (F' := [.inl f0, .inl f1]) ⟨fun (h : zv_is (.inr 1000)) => (Nat.lt_irrefl 1000 h).elim, fun (h : zv_is (.inr 1000)) => (Nat.lt_irrefl 1000 h).elim, fun (h : zv_is (.inr 1000)) => (Nat.lt_irrefl 1000 h).elim, trivial⟩ ⟨fun _ => rfl, fun _ => rfl, trivial⟩ ?_
          exact hK
        · rw [if_neg hc5] at h
          refine zv_ald hB zd234_13 rfl rfl rfl ?_
          obtain ⟨r6, hr6, h⟩ := zi_bind h
          refine zv_cv hB (zv_emq (va2 := [.inr 0]) (F := [.inl f0, .inl f1]) (F' := [.inl f0, .inl f1]) (G := [g0, g1]) (G' := [g0, g1]) (ρ := [0, 1]) (φ := [0]) (ψ := [0]) [some 0, none] [some 0, none] zyw_M_waitTop zyw_M_lands zye_M_lands (by decide +kernel) (zt_M_waitTop hr6) ⟨⟨_, rfl, fun _ => rfl⟩, trivial⟩ ⟨rfl, trivial⟩ rfl rfl rfl rfl rfl rfl rfl) zd234_14 zxt229 rfl (by decide) (by decide) rfl ?_
          refine zv_con hB zd234_17 rfl ?_
          refine zv_cne hB zd234_19 rfl (fun hc7 => ?_) (fun hc7 => ?_)
          · rw [if_neg hc7] at h
            have hq := Option.some.inj h
            subst hq
            refine zv_wk hB (L' := [.inr 1000, .inr 1000, .inr 1000]) (F' := [.inl f0, .inl f1]) ⟨fun (h : zv_is (.inr 1000)) => (Nat.lt_irrefl 1000 h).elim, fun (h : zv_is (.inr 1000)) => (Nat.lt_irrefl 1000 h).elim, fun (h : zv_is (.inr 1000)) => (Nat.lt_irrefl 1000 h).elim, trivial⟩ ⟨fun _ => rfl, fun _ => rfl, trivial⟩ ?_
            exact hK
          · rw [if_pos hc7] at h
            refine zv_ald hB zd234_22 rfl rfl rfl ?_
            refine zv_getr hB zd234_23 rfl ?_
            refine zv_ald hB zd234_26 rfl rfl rfl ?_
            refine zv_getf hB zd234_27 rfl rfl (fun _ _ => ?_)
            refine zv_con hB zd234_30 rfl ?_
            refine zv_subw hB zd234_31 ?_
            obtain ⟨c8, h⟩ := zi_if h
            refine zv_iald hB zd234_32 rfl rfl (zi_ix_ok c8).1 (zi_ix_ok c8).2 (fun _ _ => ?_)
            refine zv_con (n := 1048576) hB zd234_33 (by decide +kernel) ?_
            refine zv_remw hB zd234_35 (by decide) ?_
            refine zv_ist hB zd234_36 rfl rfl rfl ?_
            refine zv_ald hB zd234_37 rfl rfl rfl ?_
            refine zv_getr hB zd234_38 rfl ?_
            refine zv_ild hB zd234_41 rfl rfl ?_
            refine zv_con (n := 1048576) hB zd234_42 (by decide +kernel) ?_
            refine zv_ald hB zd234_44 rfl rfl rfl ?_
            refine zv_getr hB zd234_45 rfl ?_
            refine zv_ild hB zd234_48 rfl rfl ?_
            obtain ⟨c9, h⟩ := zi_if h
            refine zv_iald hB zd234_49 rfl rfl (zi_ix_ok c9).1 (zi_ix_ok c9).2 (fun _ _ => ?_)
            refine zv_con (n := 1048576) hB zd234_50 (by decide +kernel) ?_
            refine zv_divw hB zd234_52 (by decide) ?_
            refine zv_mulw hB zd234_53 ?_
            refine zv_ald hB zd234_54 rfl rfl rfl ?_
            refine zv_getf hB zd234_55 rfl rfl (fun _ _ => ?_)
            refine zv_addw hB zd234_58 ?_
            refine zv_iast hB zd234_59 rfl rfl (zi_ix_ok c9).1 (zi_ix_ok c9).2 ?_
            refine zv_ald hB zd234_60 rfl rfl rfl ?_
            refine zv_ald hB zd234_61 rfl rfl rfl ?_
            refine zv_getf hB zd234_62 rfl rfl (fun _ _ => ?_)
            refine zv_con hB zd234_65 rfl ?_
            refine zv_subw hB zd234_66 ?_
            refine zv_putf hB zd234_67 rfl rfl (fun h => by cases h) rfl ?_
            refine zv_goto hB zd234_70 rfl ?_
            refine zv_wk hB (L' := [.inr 0, .inl x1, .inr 1000]) (F' := [.inl (zi_w (f0 - 1)), .inl f1]) ⟨fun _ => rfl, fun _ => rfl, fun (h : zv_is (.inr 1000)) => (Nat.lt_irrefl 1000 h).elim, trivial⟩ ⟨fun _ => rfl, fun _ => rfl, trivial⟩ ?_
            exact ih _ _ _ q h hK
  unfold zf_M_lands at h
  obtain ⟨q10, hq10, h⟩ := zi_bind h
  refine l0 _ _ _ _ q10 hq10 ?_
  show good 73 [.inr 1000, .inr 1000, .inr 1000] [] [.inl q10.1, .inl f1] [g0, q10.2]
  have hw := Option.some.inj h
  subst hw
  exact hvret _ _ _ _ zd234_73 trivial ⟨rfl, rfl, rfl⟩
/-! M_jumps (I)V -/
-- names: 0 StarTalesModel('arg', 0), 1 (0, 220)(0, 12, 15), 2 (0, 220)(0, 12, 14)
-- fields: f0 = 0.waiting_, f1 = 0.codeMany_, f2 = 0.place0_; arrays: g0 = 1, g1 = 2; out: [('f', 0), ('f', 1), ('f', 2), ('g', 0), ('g', 1)]
abbrev zy_M_jumps : zNL := (3, [(0, 12)], [(0, 12, 10, 0), (0, 12, 9, 1), (0, 12, 5, 2)], [(0, 12, 15, 1), (0, 12, 14, 2)], [(1, 0, 220, 0), (2, 0, 220, 1)])
theorem zyw_M_jumps : zv_wf zy_M_jumps = true := by decide +kernel
theorem zye_M_jumps : zv_ek2 zy_M_jumps = true := by decide +kernel
def zf_M_jumps (x1 : Int) (f0 : Int) (f1 : Int) (f2 : Int) (g0 : (Int → Int)) (g1 : (Int → Int)) : Option (Int × Int × Int × (Int → Int) × (Int → Int)) := cond (zi_ix f0 220) ((zf_M_notes x1 0 f1 g1).bind fun r2 => (some ((zi_w (f0 + 1)), r2.1, (zi_w (f2 + 1)), (zv_up g0 f0 (zi_w ((zi_w (1048576 * x1)) + f1))), r2.2))) none
theorem zd235_0 : decode zxm235.2.1 0 = .ok (.aload_n 0, 1) := by decide +kernel
theorem zd235_1 : decode zxm235.2.1 1 = .ok (.getfield 26, 3) := by decide +kernel
theorem zd235_4 : decode zxm235.2.1 4 = .ok (.aload_n 0, 1) := by decide +kernel
theorem zd235_5 : decode zxm235.2.1 5 = .ok (.getfield 206, 3) := by decide +kernel
theorem zd235_8 : decode zxm235.2.1 8 = .ok (.ldc 202, 2) := by decide +kernel
theorem zd235_10 : decode zxm235.2.1 10 = .ok (.iload_n 1, 1) := by decide +kernel
theorem zd235_11 : decode zxm235.2.1 11 = .ok (.imul, 1) := by decide +kernel
theorem zd235_12 : decode zxm235.2.1 12 = .ok (.aload_n 0, 1) := by decide +kernel
theorem zd235_13 : decode zxm235.2.1 13 = .ok (.getfield 199, 3) := by decide +kernel
theorem zd235_16 : decode zxm235.2.1 16 = .ok (.iadd, 1) := by decide +kernel
theorem zd235_17 : decode zxm235.2.1 17 = .ok (.iastore, 1) := by decide +kernel
theorem zd235_18 : decode zxm235.2.1 18 = .ok (.aload_n 0, 1) := by decide +kernel
theorem zd235_19 : decode zxm235.2.1 19 = .ok (.aload_n 0, 1) := by decide +kernel
theorem zd235_20 : decode zxm235.2.1 20 = .ok (.getfield 206, 3) := by decide +kernel
theorem zd235_23 : decode zxm235.2.1 23 = .ok (.iconst 1, 1) := by decide +kernel
theorem zd235_24 : decode zxm235.2.1 24 = .ok (.iadd, 1) := by decide +kernel
theorem zd235_25 : decode zxm235.2.1 25 = .ok (.putfield 206, 3) := by decide +kernel
theorem zd235_28 : decode zxm235.2.1 28 = .ok (.aload_n 0, 1) := by decide +kernel
theorem zd235_29 : decode zxm235.2.1 29 = .ok (.iload_n 1, 1) := by decide +kernel
theorem zd235_30 : decode zxm235.2.1 30 = .ok (.iconst 0, 1) := by decide +kernel
theorem zd235_31 : decode zxm235.2.1 31 = .ok (.invokevirtual 212, 3) := by decide +kernel
theorem zd235_34 : decode zxm235.2.1 34 = .ok (.aload_n 0, 1) := by decide +kernel
theorem zd235_35 : decode zxm235.2.1 35 = .ok (.aload_n 0, 1) := by decide +kernel
theorem zd235_36 : decode zxm235.2.1 36 = .ok (.getfield 176, 3) := by decide +kernel
theorem zd235_39 : decode zxm235.2.1 39 = .ok (.iconst 1, 1) := by decide +kernel
theorem zd235_40 : decode zxm235.2.1 40 = .ok (.iadd, 1) := by decide +kernel
theorem zd235_41 : decode zxm235.2.1 41 = .ok (.putfield 176, 3) := by decide +kernel
theorem zd235_44 : decode zxm235.2.1 44 = .ok (.return_, 1) := by decide +kernel
theorem zt_M_jumps {x1 : Int} {f0 : Int} {f1 : Int} {f2 : Int} {g0 : (Int → Int)} {g1 : (Int → Int)} {o : Int × Int × Int × (Int → Int) × (Int → Int)} (h : zf_M_jumps x1 f0 f1 f2 g0 g1 = some o) : zv_Fn z_TB z_cl z_KX zy_M_jumps zxm235 (1, 60) [.inr 0, .inl x1] [.inl f0, .inl f1, .inl f2] [g0, g1] none [.inl o.1, .inl o.2.1, .inl o.2.2.1] [o.2.2.2.1, o.2.2.2.2] := zv_meth (K := (z_KF13, z_KC13, z_KL13, z_KT13, [], [], [], none)) (FT := z_FT) (MT := z_MT) (n := 2) zxp235 (z_ks13 _ (fun _ h => List.mem_cons_of_mem _ h) _ _ _ _ (fun j r h _ => by cases h)) (fun _ _ => zs_KX_p) zyw_M_jumps (fun va F G h => by obtain ⟨rfl, _⟩ := h; rfl) (fun va F G h => by obtain ⟨rfl, _⟩ := h; rfl) rfl fun good va F G hB hret hvret hP => by
  obtain ⟨rfl, rfl, rfl⟩ := hP
  unfold zf_M_jumps at h
  refine zv_ald hB zd235_0 rfl rfl rfl ?_
  refine zv_getr hB zd235_1 rfl ?_
  refine zv_ald hB zd235_4 rfl rfl rfl ?_
  refine zv_getf hB zd235_5 rfl rfl (fun _ _ => ?_)
  refine zv_con (n := 1048576) hB zd235_8 (by decide +kernel) ?_
  refine zv_ild hB zd235_10 rfl rfl ?_
  refine zv_mulw hB zd235_11 ?_
  refine zv_ald hB zd235_12 rfl rfl rfl ?_
  refine zv_getf hB zd235_13 rfl rfl (fun _ _ => ?_)
  refine zv_addw hB zd235_16 ?_
  obtain ⟨c1, h⟩ := zi_if h
  refine zv_iast hB zd235_17 rfl rfl (zi_ix_ok c1).1 (zi_ix_ok c1).2 ?_
  refine zv_ald hB zd235_18 rfl rfl rfl ?_
  refine zv_ald hB zd235_19 rfl rfl rfl ?_
  refine zv_getf hB zd235_20 rfl rfl (fun _ _ => ?_)
  refine zv_con hB zd235_23 rfl ?_
  refine zv_addw hB zd235_24 ?_
  refine zv_putf hB zd235_25 rfl rfl (fun h => by cases h) rfl ?_
  refine zv_ald hB zd235_28 rfl rfl rfl ?_
  refine zv_ild hB zd235_29 rfl rfl ?_
  refine zv_con hB zd235_30 rfl ?_
  obtain ⟨r2, hr2, h⟩ := zi_bind h
  refine zv_cv hB (zv_emq (va2 := [.inr 0, .inl x1, .inl 0]) (F := [.inl (zi_w (f0 + 1)), .inl f1, .inl f2]) (F' := [.inl (zi_w (f0 + 1)), .inl r2.1, .inl f2]) (G := [(zv_up g0 f0 (zi_w ((zi_w (1048576 * x1)) + f1))), g1]) (G' := [(zv_up g0 f0 (zi_w ((zi_w (1048576 * x1)) + f1))), r2.2]) (ρ := [0, 2]) (φ := [1]) (ψ := [1]) [none, some 0, none] [none, some 0] zyw_M_notes zyw_M_jumps zye_M_jumps (by decide +kernel) (zt_M_notes hr2) ⟨⟨_, rfl, fun _ => rfl⟩, trivial⟩ ⟨rfl, trivial⟩ rfl rfl rfl rfl rfl rfl rfl) zd235_31 zxt225 rfl (by decide) (by decide) rfl ?_
  refine zv_ald hB zd235_34 rfl rfl rfl ?_
  refine zv_ald hB zd235_35 rfl rfl rfl ?_
  refine zv_getf hB zd235_36 rfl rfl (fun _ _ => ?_)
  refine zv_con hB zd235_39 rfl ?_
  refine zv_addw hB zd235_40 ?_
  refine zv_putf hB zd235_41 rfl rfl (fun h => by cases h) rfl ?_
  have hw := Option.some.inj h
  subst hw
  exact hvret _ _ _ _ zd235_44 trivial ⟨rfl, rfl, rfl⟩

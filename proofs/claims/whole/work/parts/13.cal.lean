set_option maxHeartbeats 4000000 in
set_option maxRecDepth 100000 in
theorem c_isDay (l : Launch) (D : va_G) (cy : Nat → ClassId) (sa : Nat → Addr) (hfl : l.stackTraces = false) (ws : va_W) (d : Int) (hd : inR d) : Ct l D cy sa yX2_isDay cX2_isDay 1 (some .boolean) 0 0 0 ws [vi d] (fun v ws2 => v = some (vi (bI (isDy d))) ∧ ws2 = ws) no_x := by
  refine Ct.of (own := RX2) (lc := [(0, vi d)]) (by decide +kernel) hfl (Nat.le_of_ble_eq_true rfl) rfl rfl ?_
  intro p e s m args below meth c A C hex hnm
  generalize hQ : vx_MQ below (Qo D (fun v ws2 => v = some (vi (bI (isDy d))) ∧ ws2 = ws) A) (Xo D no_x A) args s 0 0 A = Q
  replace hQ := hQ.symm
  obtain ⟨hd1, hd2⟩ := hd
  refine V.iload_n C dX2_isDay_0 0 rfl ?_
  refine V.if_lt C 15 dX2_isDay_1 (by decide) ⟨by omega, by omega⟩ (fun h1 => ?_) (fun h1 => ?_)
  · skip
    refine V.iconst C dX2_isDay_15 ?_
    show V D 1 A p l e (rmL 0 0 0) s m args below meth c Q 0 0 ws 16 [(0, vi d)] [vi (bI false)]
    rw [hQ]
    exact V.zret C dX2_isDay_16 (by decide) (by decide) (⟨rfl, rfl⟩)
  · skip
    refine V.iload_n C dX2_isDay_4 0 rfl ?_
    refine V.sipush C dX2_isDay_5 (by decide) ?_
    refine V.icmp_ge C 15 dX2_isDay_8 (by decide) ⟨by omega, by omega⟩ ⟨by decide, by decide⟩ (fun h8 => ?_) (fun h8 => ?_)
    · skip
      refine V.iconst C dX2_isDay_15 ?_
      show V D 1 A p l e (rmL 0 0 0) s m args below meth c Q 0 0 ws 16 [(0, vi d)] [vi (bI false)]
      rw [hQ]
      exact V.zret C dX2_isDay_16 (by decide) (by decide) (⟨rfl, rfl⟩)
    · skip
      refine V.iconst C dX2_isDay_11 ?_
      refine V.goto C 16 dX2_isDay_12 (by decide) ?_
      show V D 1 A p l e (rmL 0 0 0) s m args below meth c Q 0 0 ws 16 [(0, vi d)] [vi (bI true)]
      rw [hQ]
      exact V.zret C dX2_isDay_16 (by decide) (by decide) (⟨rfl, rfl⟩)

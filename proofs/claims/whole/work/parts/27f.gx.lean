section GX9
variable {p : Program} {l : Launch} {e : Env} {R : Room} {s : State} {m : MethodId} {args : Array Value} {below : List Frame} {meth : Method} {c : Code} {H : Heap} {locs : List Loc} {cells slots : Nat} {Q : State → Prop} {pc nL : Nat} {ls : Array Slot} {rest : List Value} {cc : ByteArray} {own : String} {V : zV} {A : Nat → Prop} {σ : zS}
/-- the class's method is called by a wrapper -/
theorem gw_x {y : MethodName} {b : ByteArray} {nY n f k idx mc' ms' o : Nat} {cL : ClassId} {f0 : Nat → Int64} {As st0 : List Value} {tt : zT3} (C0 : CallFix p m c cc nL s args zT own) (hZ : gZ V (gtW V cL) A (zw 0 V σ ++ lO cL o f0) s H locs) (hM : zXi l y b nY (some .int) f k mc' ms' 0 V σ tt (.ref (zad V 0) :: As)) (hl : Cond.methodLink own idx y ∈ zT) (hw : zwM own idx y b nY (some .int) n) (hv : zwV 7 y) (hst : st0 = As.reverse ++ .ref (zad V 0) :: rest) (hn : As.length = n) (hsz : ls.size = nL) (hrest : (rest.map fun v => v.category).sum ≤ 8) (hR : f + 1 ≤ R.frames ∧ 8 + (nY + 11) + k ≤ R.locals) (hdg : decode cc pc = .ok (.invokevirtual idx, 3)) (hf : cells + mc' ≤ R.cells ∧ slots + ms' ≤ R.slots)
    (kx : ∀ (ce : Cell) (q9 : Addr) (H1 : Heap) (locs1 : List Loc), tt.1 ≠ 0 → gZ V (gtW V cL) A (zw 0 V tt.2.2 ++ lO cL o f0) s H1 locs1 → H1[q9]? = some ce → ce.vm = .none → s.vm.findClass (zXn tt.1) = some ce.cls → vx_W p l e R s m args below meth c H1 locs1 (cells + mc') (slots + ms') Q (F0 m pc ls rest) q9)
    (kk : ∀ (H1 : Heap) (locs1 : List Loc), tt.1 = 0 → gZ V (gtW V cL) A (zw 0 V tt.2.2 ++ lO cL o f0) s H1 locs1 → W p l e R s m args below meth c H1 locs1 (cells + mc') (slots + ms') Q (F0 m (pc + 3) ls (.int tt.2.1 :: rest))) : W p l e R s m args below meth c H locs cells slots Q (F0 m pc ls st0) := by
  have hz : zZ 0 V A σ s H locs := hZ.zz rfl [0] rfl
  have hF := zfree hz
  obtain ⟨hin, hse, hci, T, M, hcl⟩ := hv
  have hts := C0.2.2.2.2
  have hq : kd 0 0 = 7 := rfl
  have hqn : 0 < nC 0 := kd_lt (by omega)
  have he : (zw 0 V σ)[0]? = some (zad V 0, .inr (7, zfs V σ 0 (tp 7))) := by rw [zw_get hqn, zE_obj hq hci]
  have hp : PreV s H y.cls (zad V 0) (va_Pc (.ref (zad V 0) :: As) (zPre 0 V σ H.size)) As := ⟨zPre_blind, va_recv hz.2.1 hz.1 hcl he, fun U hU hW => ⟨rfl, zZ_pre hz hU hW⟩⟩
  refine vx_calli (vx_runV C0 (hM H.size) ⟨zcallX hts hl hw hR, hts _ hin, hts _ hse⟩ hp rfl hn hsz hst (lv_room hrest) hdg hf) hz.2.2.2.1 (fun q _ h => hF q h) hF (fun q _ h => hF q h) (fun E ce q9 u w H1 locs1 hw9 hvm hp9 hB hz9 hk hS hce hcv hcl9 => ?_) (fun r u w H1 locs1 hw9 hvm hp9 hB hz9 hk hS => ?_)
  · obtain ⟨hE, hB1, -⟩ := hB
    subst hE
    rw [hw9] at hB1
    exact kx ce q9 H1 locs1 hp9 (hZ.af hk hB1 (by rw [zw_fst, zw_fst]) hS) hce hcv hcl9
  · obtain ⟨h0, rfl⟩ := hp9
    have hB1 := hB.1
    rw [hw9] at hB1
    exact kk H1 locs1 h0 (hZ.af hk hB1 (by rw [zw_fst, zw_fst]) hS)
end GX9

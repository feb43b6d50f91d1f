section UNI
variable {g : EG} {xo an ac am mo N : Nat} {LN LT : List Nat} {xt mr : Nat → Nat} {S : SS} {w : va_W}
theorem ux_append (I : Inv N S) (hN : N ≤ 512) (x : Int32) (h : isX g xo an ac am LN LT xt S w) : Ret g mdX1_append [.ref xo, .int x] w (fun r w' => r = some (.int (oApp S x).1) ∧ isX g xo an ac am LN LT xt (oApp S x).2 w') := by
  obtain ⟨hd, xar, xnt, xln, xcu, xck, xcp, xcl, xmk, xtl, xnu, xti, xpa, xfa, xep, xel, xde, xtc, rfl, hR⟩ := h
  exact c_xappend hR I.cl x
theorem um_append (I : Inv N S) (hN : N ≤ 512) (x : Int32) (h : isM g mo mr S w) : Ret g mdX2_append [.ref mo, .int x] w (fun r w' => r = some (.int (oApp S x).1) ∧ isM g mo mr (oApp S x).2 w') := by
  obtain ⟨mnd, mgv, mcu, mck, mcl, msh, mhh, mnu, mpa, mfa, mti, mpo, mle, mde, msr, mtl, mtx, mcp, mmk, mns, rfl, hR⟩ := h
  exact c_mappend hR I.cl x
theorem ux_clearClip (I : Inv N S) (hN : N ≤ 512)  (h : isX g xo an ac am LN LT xt S w) : Ret g mdX1_clearClip [.ref xo] w (fun r w' => r = some (.int (oClr S).1) ∧ isX g xo an ac am LN LT xt (oClr S).2 w') := by
  obtain ⟨hd, xar, xnt, xln, xcu, xck, xcp, xcl, xmk, xtl, xnu, xti, xpa, xfa, xep, xel, xde, xtc, rfl, hR⟩ := h
  exact c_xclearClip hR
theorem um_clearClip (I : Inv N S) (hN : N ≤ 512)  (h : isM g mo mr S w) : Ret g mdX2_clearClip [.ref mo] w (fun r w' => r = some (.int (oClr S).1) ∧ isM g mo mr (oClr S).2 w') := by
  obtain ⟨mnd, mgv, mcu, mck, mcl, msh, mhh, mnu, mpa, mfa, mti, mpo, mle, mde, msr, mtl, mtx, mcp, mmk, mns, rfl, hR⟩ := h
  exact c_mclearClip hR
theorem ux_insert (I : Inv N S) (hN : N ≤ 512) (x : Int32) (h : isX g xo an ac am LN LT xt S w) : Ret g mdX1_insert [.ref xo, .int x] w (fun r w' => r = some (.int (oIns S x).1) ∧ isX g xo an ac am LN LT xt (oIns S x).2 w') := by
  obtain ⟨hd, xar, xnt, xln, xcu, xck, xcp, xcl, xmk, xtl, xnu, xti, xpa, xfa, xep, xel, xde, xtc, rfl, hR⟩ := h
  exact c_xinsert I hN hR x
theorem um_insert (I : Inv N S) (hN : N ≤ 512) (x : Int32) (h : isM g mo mr S w) : Ret g mdX2_insert [.ref mo, .int x] w (fun r w' => r = some (.int (oIns S x).1) ∧ isM g mo mr (oIns S x).2 w') := by
  obtain ⟨mnd, mgv, mcu, mck, mcl, msh, mhh, mnu, mpa, mfa, mti, mpo, mle, mde, msr, mtl, mtx, mcp, mmk, mns, rfl, hR⟩ := h
  exact c_minsert I hN hR x
theorem ux_delete (I : Inv N S) (hN : N ≤ 512) (x : Int32) (y : Int32) (h : isX g xo an ac am LN LT xt S w) : Ret g mdX1_delete [.ref xo, .int x, .int y] w (fun r w' => r = some (.int (oDel S x y).1) ∧ isX g xo an ac am LN LT xt (oDel S x y).2 w') := by
  obtain ⟨hd, xar, xnt, xln, xcu, xck, xcp, xcl, xmk, xtl, xnu, xti, xpa, xfa, xep, xel, xde, xtc, rfl, hR⟩ := h
  exact c_xdelete I hN hR x y
theorem um_delete (I : Inv N S) (hN : N ≤ 512) (x : Int32) (y : Int32) (h : isM g mo mr S w) : Ret g mdX2_delete [.ref mo, .int x, .int y] w (fun r w' => r = some (.int (oDel S x y).1) ∧ isM g mo mr (oDel S x y).2 w') := by
  obtain ⟨mnd, mgv, mcu, mck, mcl, msh, mhh, mnu, mpa, mfa, mti, mpo, mle, mde, msr, mtl, mtx, mcp, mmk, mns, rfl, hR⟩ := h
  exact c_mdelete I hN hR x y
theorem ux_undo (I : Inv N S) (hN : N ≤ 512)  (h : isX g xo an ac am LN LT xt S w) : Ret g mdX1_undo [.ref xo] w (fun r w' => r = some (.int (oUndo S).1) ∧ isX g xo an ac am LN LT xt (oUndo S).2 w') := by
  obtain ⟨hd, xar, xnt, xln, xcu, xck, xcp, xcl, xmk, xtl, xnu, xti, xpa, xfa, xep, xel, xde, xtc, rfl, hR⟩ := h
  exact c_xundo I.T hR I.cu
theorem um_undo (I : Inv N S) (hN : N ≤ 512)  (h : isM g mo mr S w) : Ret g mdX2_undo [.ref mo] w (fun r w' => r = some (.int (oUndo S).1) ∧ isM g mo mr (oUndo S).2 w') := by
  obtain ⟨mnd, mgv, mcu, mck, mcl, msh, mhh, mnu, mpa, mfa, mti, mpo, mle, mde, msr, mtl, mtx, mcp, mmk, mns, rfl, hR⟩ := h
  exact c_mundo I.T hR I.cu
theorem ux_redo (I : Inv N S) (hN : N ≤ 512)  (h : isX g xo an ac am LN LT xt S w) : Ret g mdX1_redo [.ref xo] w (fun r w' => r = some (.int (oRedo S).1) ∧ isX g xo an ac am LN LT xt (oRedo S).2 w') := by
  obtain ⟨hd, xar, xnt, xln, xcu, xck, xcp, xcl, xmk, xtl, xnu, xti, xpa, xfa, xep, xel, xde, xtc, rfl, hR⟩ := h
  exact c_xredo I.T hR I.cu (fun a ha c hc => (I.fa ha hc).1)
theorem um_redo (I : Inv N S) (hN : N ≤ 512)  (h : isM g mo mr S w) : Ret g mdX2_redo [.ref mo] w (fun r w' => r = some (.int (oRedo S).1) ∧ isM g mo mr (oRedo S).2 w') := by
  obtain ⟨mnd, mgv, mcu, mck, mcl, msh, mhh, mnu, mpa, mfa, mti, mpo, mle, mde, msr, mtl, mtx, mcp, mmk, mns, rfl, hR⟩ := h
  exact c_mredo I.T hR I.cu (fun a ha c hc => (I.fa ha hc).1)
theorem ux_jump (I : Inv N S) (hN : N ≤ 512) (x : Int32) (h : isX g xo an ac am LN LT xt S w) : Ret g mdX1_jump [.ref xo, .int x] w (fun r w' => r = some (.int (oJump S x).1) ∧ isX g xo an ac am LN LT xt (oJump S x).2 w') := by
  obtain ⟨hd, xar, xnt, xln, xcu, xck, xcp, xcl, xmk, xtl, xnu, xti, xpa, xfa, xep, xel, xde, xtc, rfl, hR⟩ := h
  exact c_xjump I.T hR I.cu x
theorem um_jump (I : Inv N S) (hN : N ≤ 512) (x : Int32) (h : isM g mo mr S w) : Ret g mdX2_jump [.ref mo, .int x] w (fun r w' => r = some (.int (oJump S x).1) ∧ isM g mo mr (oJump S x).2 w') := by
  obtain ⟨mnd, mgv, mcu, mck, mcl, msh, mhh, mnu, mpa, mfa, mti, mpo, mle, mde, msr, mtl, mtx, mcp, mmk, mns, rfl, hR⟩ := h
  exact c_mjump I.T hR I.cu x
theorem ux_undoEdit (I : Inv N S) (hN : N ≤ 512) (x : Int32) (h : isX g xo an ac am LN LT xt S w) : Ret g mdX1_undoEdit [.ref xo, .int x] w (fun r w' => r = some (.int (oUE S x).1) ∧ isX g xo an ac am LN LT xt (oUE S x).2 w') := by
  obtain ⟨hd, xar, xnt, xln, xcu, xck, xcp, xcl, xmk, xtl, xnu, xti, xpa, xfa, xep, xel, xde, xtc, rfl, hR⟩ := h
  exact c_xundoEdit I hN hR x
theorem um_undoEdit (I : Inv N S) (hN : N ≤ 512) (x : Int32) (h : isM g mo mr S w) : Ret g mdX2_undoEdit [.ref mo, .int x] w (fun r w' => r = some (.int (oUE S x).1) ∧ isM g mo mr (oUE S x).2 w') := by
  obtain ⟨mnd, mgv, mcu, mck, mcl, msh, mhh, mnu, mpa, mfa, mti, mpo, mle, mde, msr, mtl, mtx, mcp, mmk, mns, rfl, hR⟩ := h
  exact c_mundoEdit I hN hR x
theorem ux_conflictWith (I : Inv N S) (hN : N ≤ 512) (x : Int32) (h : isX g xo an ac am LN LT xt S w) : Ret g mdX1_conflictWith [.ref xo, .int x] w (fun r w' => r = some (.int (aCW S x)) ∧ isX g xo an ac am LN LT xt S w') := by
  obtain ⟨hd, xar, xnt, xln, xcu, xck, xcp, xcl, xmk, xtl, xnu, xti, xpa, xfa, xep, xel, xde, xtc, rfl, hR⟩ := h
  exact Ret.mono (c_xconflictWith I hR x) (fun r w h => ⟨h.1, h.2 ▸ isX.of hR⟩)
theorem um_conflictWith (I : Inv N S) (hN : N ≤ 512) (x : Int32) (h : isM g mo mr S w) : Ret g mdX2_conflictWith [.ref mo, .int x] w (fun r w' => r = some (.int (aCW S x)) ∧ isM g mo mr S w') := by
  obtain ⟨mnd, mgv, mcu, mck, mcl, msh, mhh, mnu, mpa, mfa, mti, mpo, mle, mde, msr, mtl, mtx, mcp, mmk, mns, rfl, hR⟩ := h
  exact c_mconflictWith I hR x
theorem ux_current (I : Inv N S) (hN : N ≤ 512)  (h : isX g xo an ac am LN LT xt S w) : Ret g mdX1_current [.ref xo] w (fun r w' => r = some (.int (nI (scu S))) ∧ isX g xo an ac am LN LT xt S w') := by
  obtain ⟨hd, xar, xnt, xln, xcu, xck, xcp, xcl, xmk, xtl, xnu, xti, xpa, xfa, xep, xel, xde, xtc, rfl, hR⟩ := h
  exact Ret.mono (c_xcurrent hR I.cu) (fun r w h => ⟨h.1, h.2 ▸ isX.of hR⟩)
theorem um_current (I : Inv N S) (hN : N ≤ 512)  (h : isM g mo mr S w) : Ret g mdX2_current [.ref mo] w (fun r w' => r = some (.int (nI (scu S))) ∧ isM g mo mr S w') := by
  obtain ⟨mnd, mgv, mcu, mck, mcl, msh, mhh, mnu, mpa, mfa, mti, mpo, mle, mde, msr, mtl, mtx, mcp, mmk, mns, rfl, hR⟩ := h
  exact Ret.mono (c_mcurrent I.T hR I.cu) (fun r w h => ⟨h.1, h.2 ▸ isM.of hR⟩)
theorem ux_nodeCount (I : Inv N S) (hN : N ≤ 512)  (h : isX g xo an ac am LN LT xt S w) : Ret g mdX1_nodeCount [.ref xo] w (fun r w' => r = some (.int (nI (sL S).length)) ∧ isX g xo an ac am LN LT xt S w') := by
  obtain ⟨hd, xar, xnt, xln, xcu, xck, xcp, xcl, xmk, xtl, xnu, xti, xpa, xfa, xep, xel, xde, xtc, rfl, hR⟩ := h
  exact Ret.mono (c_xnodeCount hR) (fun r w h => ⟨h.1, h.2 ▸ isX.of hR⟩)
theorem um_nodeCount (I : Inv N S) (hN : N ≤ 512)  (h : isM g mo mr S w) : Ret g mdX2_nodeCount [.ref mo] w (fun r w' => r = some (.int (nI (sL S).length)) ∧ isM g mo mr S w') := by
  obtain ⟨mnd, mgv, mcu, mck, mcl, msh, mhh, mnu, mpa, mfa, mti, mpo, mle, mde, msr, mtl, mtx, mcp, mmk, mns, rfl, hR⟩ := h
  exact Ret.mono (c_mnodeCount hR) (fun r w h => ⟨h.1, h.2 ▸ isM.of hR⟩)
theorem ux_lengthOf (I : Inv N S) (hN : N ≤ 512) (x : Int32) (h : isX g xo an ac am LN LT xt S w) : Ret g mdX1_lengthOf [.ref xo, .int x] w (fun r w' => r = some (.int (aLen S x)) ∧ isX g xo an ac am LN LT xt S w') := by
  obtain ⟨hd, xar, xnt, xln, xcu, xck, xcp, xcl, xmk, xtl, xnu, xti, xpa, xfa, xep, xel, xde, xtc, rfl, hR⟩ := h
  exact Ret.mono (c_xlengthOf I.T hR x) (fun r w h => ⟨h.1, h.2 ▸ isX.of hR⟩)
theorem um_lengthOf (I : Inv N S) (hN : N ≤ 512) (x : Int32) (h : isM g mo mr S w) : Ret g mdX2_lengthOf [.ref mo, .int x] w (fun r w' => r = some (.int (aLen S x)) ∧ isM g mo mr S w') := by
  obtain ⟨mnd, mgv, mcu, mck, mcl, msh, mhh, mnu, mpa, mfa, mti, mpo, mle, mde, msr, mtl, mtx, mcp, mmk, mns, rfl, hR⟩ := h
  exact Ret.mono (c_mlengthOf I.T hR x) (fun r w h => ⟨h.1, h.2 ▸ isM.of hR⟩)
theorem ux_characterOf (I : Inv N S) (hN : N ≤ 512) (x : Int32) (i : Int32) (h : isX g xo an ac am LN LT xt S w) : Ret g mdX1_characterOf [.ref xo, .int x, .int i] w (fun r w' => r = some (.int (aChr S x i)) ∧ isX g xo an ac am LN LT xt S w') := by
  obtain ⟨hd, xar, xnt, xln, xcu, xck, xcp, xcl, xmk, xtl, xnu, xti, xpa, xfa, xep, xel, xde, xtc, rfl, hR⟩ := h
  exact Ret.mono (c_xcharacterOf I hR x i) (fun r w h => ⟨h.1, h.2 ▸ isX.of hR⟩)
theorem um_characterOf (I : Inv N S) (hN : N ≤ 512) (x : Int32) (i : Int32) (h : isM g mo mr S w) : Ret g mdX2_characterOf [.ref mo, .int x, .int i] w (fun r w' => r = some (.int (aChr S x i)) ∧ isM g mo mr S w') := by
  obtain ⟨mnd, mgv, mcu, mck, mcl, msh, mhh, mnu, mpa, mfa, mti, mpo, mle, mde, msr, mtl, mtx, mcp, mmk, mns, rfl, hR⟩ := h
  exact Ret.mono (c_mcharacterOf I.T hR (fun a ha => I.tl ha) x i) (fun r w h => ⟨h.1, h.2 ▸ isM.of hR⟩)
theorem ux_editOf (I : Inv N S) (hN : N ≤ 512) (x : Int32) (h : isX g xo an ac am LN LT xt S w) : Ret g mdX1_editOf [.ref xo, .int x] w (fun r w' => r = some (.int (aEdit S x)) ∧ isX g xo an ac am LN LT xt S w') := by
  obtain ⟨hd, xar, xnt, xln, xcu, xck, xcp, xcl, xmk, xtl, xnu, xti, xpa, xfa, xep, xel, xde, xtc, rfl, hR⟩ := h
  exact Ret.mono (c_xeditOf I.T hR x) (fun r w h => ⟨h.1, h.2 ▸ isX.of hR⟩)
theorem um_editOf (I : Inv N S) (hN : N ≤ 512) (x : Int32) (h : isM g mo mr S w) : Ret g mdX2_editOf [.ref mo, .int x] w (fun r w' => r = some (.int (aEdit S x)) ∧ isM g mo mr S w') := by
  obtain ⟨mnd, mgv, mcu, mck, mcl, msh, mhh, mnu, mpa, mfa, mti, mpo, mle, mde, msr, mtl, mtx, mcp, mmk, mns, rfl, hR⟩ := h
  exact Ret.mono (c_meditOf I.T hR x) (fun r w h => ⟨h.1, h.2 ▸ isM.of hR⟩)
theorem ux_parentOf (I : Inv N S) (hN : N ≤ 512) (x : Int32) (h : isX g xo an ac am LN LT xt S w) : Ret g mdX1_parentOf [.ref xo, .int x] w (fun r w' => r = some (.int (aPar S x)) ∧ isX g xo an ac am LN LT xt S w') := by
  obtain ⟨hd, xar, xnt, xln, xcu, xck, xcp, xcl, xmk, xtl, xnu, xti, xpa, xfa, xep, xel, xde, xtc, rfl, hR⟩ := h
  exact Ret.mono (c_xparentOf I.T hR x) (fun r w h => ⟨h.1, h.2 ▸ isX.of hR⟩)
theorem um_parentOf (I : Inv N S) (hN : N ≤ 512) (x : Int32) (h : isM g mo mr S w) : Ret g mdX2_parentOf [.ref mo, .int x] w (fun r w' => r = some (.int (aPar S x)) ∧ isM g mo mr S w') := by
  obtain ⟨mnd, mgv, mcu, mck, mcl, msh, mhh, mnu, mpa, mfa, mti, mpo, mle, mde, msr, mtl, mtx, mcp, mmk, mns, rfl, hR⟩ := h
  exact Ret.mono (c_mparentOf I.T hR x) (fun r w h => ⟨h.1, h.2 ▸ isM.of hR⟩)
theorem ux_childOf (I : Inv N S) (hN : N ≤ 512) (x : Int32) (i : Int32) (h : isX g xo an ac am LN LT xt S w) : Ret g mdX1_childOf [.ref xo, .int x, .int i] w (fun r w' => r = some (.int (aChild S x i)) ∧ isX g xo an ac am LN LT xt S w') := by
  obtain ⟨hd, xar, xnt, xln, xcu, xck, xcp, xcl, xmk, xtl, xnu, xti, xpa, xfa, xep, xel, xde, xtc, rfl, hR⟩ := h
  exact Ret.mono (c_xchildOf I.T hR x i) (fun r w h => ⟨h.1, h.2 ▸ isX.of hR⟩)
theorem um_childOf (I : Inv N S) (hN : N ≤ 512) (x : Int32) (i : Int32) (h : isM g mo mr S w) : Ret g mdX2_childOf [.ref mo, .int x, .int i] w (fun r w' => r = some (.int (aChild S x i)) ∧ isM g mo mr S w') := by
  obtain ⟨mnd, mgv, mcu, mck, mcl, msh, mhh, mnu, mpa, mfa, mti, mpo, mle, mde, msr, mtl, mtx, mcp, mmk, mns, rfl, hR⟩ := h
  exact Ret.mono (c_mchildOf I.T hR x i) (fun r w h => ⟨h.1, h.2 ▸ isM.of hR⟩)
theorem ux_favouriteOf (I : Inv N S) (hN : N ≤ 512) (x : Int32) (h : isX g xo an ac am LN LT xt S w) : Ret g mdX1_favouriteOf [.ref xo, .int x] w (fun r w' => r = some (.int (aFav S x)) ∧ isX g xo an ac am LN LT xt S w') := by
  obtain ⟨hd, xar, xnt, xln, xcu, xck, xcp, xcl, xmk, xtl, xnu, xti, xpa, xfa, xep, xel, xde, xtc, rfl, hR⟩ := h
  exact Ret.mono (c_xfavouriteOf I hR x) (fun r w h => ⟨h.1, h.2 ▸ isX.of hR⟩)
theorem um_favouriteOf (I : Inv N S) (hN : N ≤ 512) (x : Int32) (h : isM g mo mr S w) : Ret g mdX2_favouriteOf [.ref mo, .int x] w (fun r w' => r = some (.int (aFav S x)) ∧ isM g mo mr S w') := by
  obtain ⟨mnd, mgv, mcu, mck, mcl, msh, mhh, mnu, mpa, mfa, mti, mpo, mle, mde, msr, mtl, mtx, mcp, mmk, mns, rfl, hR⟩ := h
  exact Ret.mono (c_mfavouriteOf I.T hR x) (fun r w h => ⟨h.1, h.2 ▸ isM.of hR⟩)
theorem ux_timeOf (I : Inv N S) (hN : N ≤ 512) (x : Int32) (h : isX g xo an ac am LN LT xt S w) : Ret g mdX1_timeOf [.ref xo, .int x] w (fun r w' => r = some (.int (aTim S x)) ∧ isX g xo an ac am LN LT xt S w') := by
  obtain ⟨hd, xar, xnt, xln, xcu, xck, xcp, xcl, xmk, xtl, xnu, xti, xpa, xfa, xep, xel, xde, xtc, rfl, hR⟩ := h
  exact Ret.mono (c_xtimeOf I.T hR x) (fun r w h => ⟨h.1, h.2 ▸ isX.of hR⟩)
theorem um_timeOf (I : Inv N S) (hN : N ≤ 512) (x : Int32) (h : isM g mo mr S w) : Ret g mdX2_timeOf [.ref mo, .int x] w (fun r w' => r = some (.int (aTim S x)) ∧ isM g mo mr S w') := by
  obtain ⟨mnd, mgv, mcu, mck, mcl, msh, mhh, mnu, mpa, mfa, mti, mpo, mle, mde, msr, mtl, mtx, mcp, mmk, mns, rfl, hR⟩ := h
  exact Ret.mono (c_mtimeOf I.T hR x) (fun r w h => ⟨h.1, h.2 ▸ isM.of hR⟩)
theorem ux_commonAncestor (I : Inv N S) (hN : N ≤ 512) (x : Int32) (y : Int32) (h : isX g xo an ac am LN LT xt S w) : Ret g mdX1_commonAncestor [.ref xo, .int x, .int y] w (fun r w' => r = some (.int (aLca S x y)) ∧ isX g xo an ac am LN LT xt S w') := by
  obtain ⟨hd, xar, xnt, xln, xcu, xck, xcp, xcl, xmk, xtl, xnu, xti, xpa, xfa, xep, xel, xde, xtc, rfl, hR⟩ := h
  exact Ret.mono (c_xcommonAncestor I.T hR x y) (fun r w h => ⟨h.1, h.2 ▸ isX.of hR⟩)
theorem um_commonAncestor (I : Inv N S) (hN : N ≤ 512) (x : Int32) (y : Int32) (h : isM g mo mr S w) : Ret g mdX2_commonAncestor [.ref mo, .int x, .int y] w (fun r w' => r = some (.int (aLca S x y)) ∧ isM g mo mr S w') := by
  obtain ⟨mnd, mgv, mcu, mck, mcl, msh, mhh, mnu, mpa, mfa, mti, mpo, mle, mde, msr, mtl, mtx, mcp, mmk, mns, rfl, hR⟩ := h
  exact Ret.mono (c_mcommonAncestor I.T hR x y) (fun r w h => ⟨h.1, h.2 ▸ isM.of hR⟩)
theorem ux_distance (I : Inv N S) (hN : N ≤ 512) (x : Int32) (y : Int32) (h : isX g xo an ac am LN LT xt S w) : Ret g mdX1_distance [.ref xo, .int x, .int y] w (fun r w' => r = some (.int (aDis S x y)) ∧ isX g xo an ac am LN LT xt S w') := by
  obtain ⟨hd, xar, xnt, xln, xcu, xck, xcp, xcl, xmk, xtl, xnu, xti, xpa, xfa, xep, xel, xde, xtc, rfl, hR⟩ := h
  exact Ret.mono (c_xdistance I.T hR x y) (fun r w h => ⟨h.1, h.2 ▸ isX.of hR⟩)
theorem um_distance (I : Inv N S) (hN : N ≤ 512) (x : Int32) (y : Int32) (h : isM g mo mr S w) : Ret g mdX2_distance [.ref mo, .int x, .int y] w (fun r w' => r = some (.int (aDis S x y)) ∧ isM g mo mr S w') := by
  obtain ⟨mnd, mgv, mcu, mck, mcl, msh, mhh, mnu, mpa, mfa, mti, mpo, mle, mde, msr, mtl, mtx, mcp, mmk, mns, rfl, hR⟩ := h
  exact Ret.mono (c_mdistance I.T hR x y) (fun r w h => ⟨h.1, h.2 ▸ isM.of hR⟩)
theorem ux_setMark (I : Inv N S) (hN : N ≤ 512) (m : Int32) (x : Int32) (h : isX g xo an ac am LN LT xt S w) : Ret g mdX1_setMark [.ref xo, .int m, .int x] w (fun r w' => r = some (.int (oSetM S m x).1) ∧ isX g xo an ac am LN LT xt (oSetM S m x).2 w') := by
  obtain ⟨hd, xar, xnt, xln, xcu, xck, xcp, xcl, xmk, xtl, xnu, xti, xpa, xfa, xep, xel, xde, xtc, rfl, hR⟩ := h
  exact c_xsetMark I.T hR (fun i hi b hb => I.mk hi hb) m x
theorem um_setMark (I : Inv N S) (hN : N ≤ 512) (m : Int32) (x : Int32) (h : isM g mo mr S w) : Ret g mdX2_setMark [.ref mo, .int m, .int x] w (fun r w' => r = some (.int (oSetM S m x).1) ∧ isM g mo mr (oSetM S m x).2 w') := by
  obtain ⟨mnd, mgv, mcu, mck, mcl, msh, mhh, mnu, mpa, mfa, mti, mpo, mle, mde, msr, mtl, mtx, mcp, mmk, mns, rfl, hR⟩ := h
  exact c_msetMark I.T hR I.mkb m x
theorem ux_clearMark (I : Inv N S) (hN : N ≤ 512) (m : Int32) (h : isX g xo an ac am LN LT xt S w) : Ret g mdX1_clearMark [.ref xo, .int m] w (fun r w' => r = some (.int (oClrM S m).1) ∧ isX g xo an ac am LN LT xt (oClrM S m).2 w') := by
  obtain ⟨hd, xar, xnt, xln, xcu, xck, xcp, xcl, xmk, xtl, xnu, xti, xpa, xfa, xep, xel, xde, xtc, rfl, hR⟩ := h
  exact c_xclearMark hR (fun i hi b hb => I.mk hi hb) m
theorem um_clearMark (I : Inv N S) (hN : N ≤ 512) (m : Int32) (h : isM g mo mr S w) : Ret g mdX2_clearMark [.ref mo, .int m] w (fun r w' => r = some (.int (oClrM S m).1) ∧ isM g mo mr (oClrM S m).2 w') := by
  obtain ⟨mnd, mgv, mcu, mck, mcl, msh, mhh, mnu, mpa, mfa, mti, mpo, mle, mde, msr, mtl, mtx, mcp, mmk, mns, rfl, hR⟩ := h
  exact c_mclearMark hR m
theorem ux_goToMark (I : Inv N S) (hN : N ≤ 512) (m : Int32) (h : isX g xo an ac am LN LT xt S w) : Ret g mdX1_goToMark [.ref xo, .int m] w (fun r w' => r = some (.int (oGoM S m).1) ∧ isX g xo an ac am LN LT xt (oGoM S m).2 w') := by
  obtain ⟨hd, xar, xnt, xln, xcu, xck, xcp, xcl, xmk, xtl, xnu, xti, xpa, xfa, xep, xel, xde, xtc, rfl, hR⟩ := h
  exact c_xgoToMark I.T hR (fun i hi b hb => I.mk hi hb) m
theorem um_goToMark (I : Inv N S) (hN : N ≤ 512) (m : Int32) (h : isM g mo mr S w) : Ret g mdX2_goToMark [.ref mo, .int m] w (fun r w' => r = some (.int (oGoM S m).1) ∧ isM g mo mr (oGoM S m).2 w') := by
  obtain ⟨mnd, mgv, mcu, mck, mcl, msh, mhh, mnu, mpa, mfa, mti, mpo, mle, mde, msr, mtl, mtx, mcp, mmk, mns, rfl, hR⟩ := h
  exact c_mgoToMark I.T hR (fun i hi b hb => I.mk hi hb) m
theorem ux_oldestLeaf (I : Inv N S) (hN : N ≤ 512)  (h : isX g xo an ac am LN LT xt S w) : Ret g mdX1_oldestLeaf [.ref xo] w (fun r w' => r = some (.int (aOld S)) ∧ isX g xo an ac am LN LT xt S w') := by
  obtain ⟨hd, xar, xnt, xln, xcu, xck, xcp, xcl, xmk, xtl, xnu, xti, xpa, xfa, xep, xel, xde, xtc, rfl, hR⟩ := h
  exact Ret.mono (c_xoldestLeaf I hR) (fun r w h => ⟨h.1, h.2 ▸ isX.of hR⟩)
theorem um_oldestLeaf (I : Inv N S) (hN : N ≤ 512)  (h : isM g mo mr S w) : Ret g mdX2_oldestLeaf [.ref mo] w (fun r w' => r = some (.int (aOld S)) ∧ isM g mo mr S w') := by
  obtain ⟨mnd, mgv, mcu, mck, mcl, msh, mhh, mnu, mpa, mfa, mti, mpo, mle, mde, msr, mtl, mtx, mcp, mmk, mns, rfl, hR⟩ := h
  exact Ret.mono (c_moldestLeaf I hR) (fun r w h => ⟨h.1, h.2 ▸ isM.of hR⟩)
theorem ux_forget (I : Inv N S) (hN : N ≤ 512) (x : Int32) (h : isX g xo an ac am LN LT xt S w) : Ret g mdX1_forget [.ref xo, .int x] w (fun r w' => r = some (.int (oFgt S x).1) ∧ isX g xo an ac am LN LT xt (oFgt S x).2 w') := by
  obtain ⟨hd, xar, xnt, xln, xcu, xck, xcp, xcl, xmk, xtl, xnu, xti, xpa, xfa, xep, xel, xde, xtc, rfl, hR⟩ := h
  exact c_xforget I hR x
theorem um_forget (I : Inv N S) (hN : N ≤ 512) (x : Int32) (h : isM g mo mr S w) : Ret g mdX2_forget [.ref mo, .int x] w (fun r w' => r = some (.int (oFgt S x).1) ∧ isM g mo mr (oFgt S x).2 w') := by
  obtain ⟨mnd, mgv, mcu, mck, mcl, msh, mhh, mnu, mpa, mfa, mti, mpo, mle, mde, msr, mtl, mtx, mcp, mmk, mns, rfl, hR⟩ := h
  exact c_mforget I hR x
theorem ux_digest (I : Inv N S) (hN : N ≤ 512)  (h : isX g xo an ac am LN LT xt S w) : Ret g mdX1_digest [.ref xo] w (fun r w' => r = some (.long (dig S)) ∧ isX g xo an ac am LN LT xt S w') := by
  obtain ⟨hd, xar, xnt, xln, xcu, xck, xcp, xcl, xmk, xtl, xnu, xti, xpa, xfa, xep, xel, xde, xtc, rfl, hR⟩ := h
  exact Ret.mono (c_xdigest I hR) (fun r w h => ⟨h.1, h.2 ▸ isX.of hR⟩)
theorem um_digest (I : Inv N S) (hN : N ≤ 512)  (h : isM g mo mr S w) : Ret g mdX2_digest [.ref mo] w (fun r w' => r = some (.long (dig S)) ∧ isM g mo mr S w') := by
  obtain ⟨mnd, mgv, mcu, mck, mcl, msh, mhh, mnu, mpa, mfa, mti, mpo, mle, mde, msr, mtl, mtx, mcp, mmk, mns, rfl, hR⟩ := h
  exact c_mdigest I hR
end UNI

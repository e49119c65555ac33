abbrev Ad : Type := (Nat) × (Nat) × (Nat) × (Nat) × (Nat) × (Nat) × (Nat) × (Nat) × (Nat) × (Nat) × (Nat) × (Nat) × (Nat) × (Nat) × (Nat) × (Nat) × (Nat) × (Nat) × (Nat) × (Nat) × (Nat) × (Nat) × (Nat) × (Nat) × (Nat) × (Nat) × (Nat) × (Nat) × (Nat) × (Nat) × (Nat) × (Nat) × (Nat) × (Nat) × (Nat) × (Nat) × (Nat) × (Nat) × (Nat) × (Nat) × (Nat) × (Nat) × (Nat) × (Nat) × (Nat) × (Nat) × (Nat) × (Nat) × (Nat) × (Nat) × (Nat) × (Nat) × (Nat → Int32) × (Nat → Int32) × (Nat → Int32)
def Ad.g (u : Ad) : Nat := u.1
def Ad.nk (u : Ad) : Nat := u.2.1
def Ad.sd (u : Ad) : Nat := u.2.2.1
def Ad.rc (u : Ad) : Nat := u.2.2.2.1
def Ad.wk (u : Ad) : Nat := u.2.2.2.2.1
def Ad.ph (u : Ad) : Nat := u.2.2.2.2.2.1
def Ad.wh (u : Ad) : Nat := u.2.2.2.2.2.2.1
def Ad.ch (u : Ad) : Nat := u.2.2.2.2.2.2.2.1
def Ad.oh (u : Ad) : Nat := u.2.2.2.2.2.2.2.2.1
def Ad.qh (u : Ad) : Nat := u.2.2.2.2.2.2.2.2.2.1
def Ad.cc (u : Ad) : Nat := u.2.2.2.2.2.2.2.2.2.2.1
def Ad.sl (u : Ad) : Nat := u.2.2.2.2.2.2.2.2.2.2.2.1
def Ad.nka (u : Ad) : Nat := u.2.2.2.2.2.2.2.2.2.2.2.2.1
def Ad.sk (u : Ad) : Nat := u.2.2.2.2.2.2.2.2.2.2.2.2.2.1
def Ad.ska (u : Ad) : Nat := u.2.2.2.2.2.2.2.2.2.2.2.2.2.2.1
def Ad.rk (u : Ad) : Nat := u.2.2.2.2.2.2.2.2.2.2.2.2.2.2.2.1
def Ad.rka (u : Ad) : Nat := u.2.2.2.2.2.2.2.2.2.2.2.2.2.2.2.2.1
def Ad.wka (u : Ad) : Nat := u.2.2.2.2.2.2.2.2.2.2.2.2.2.2.2.2.2.1
def Ad.pa (u : Ad) : Nat := u.2.2.2.2.2.2.2.2.2.2.2.2.2.2.2.2.2.2.1
def Ad.wa (u : Ad) : Nat := u.2.2.2.2.2.2.2.2.2.2.2.2.2.2.2.2.2.2.2.1
def Ad.ca (u : Ad) : Nat := u.2.2.2.2.2.2.2.2.2.2.2.2.2.2.2.2.2.2.2.2.1
def Ad.oa (u : Ad) : Nat := u.2.2.2.2.2.2.2.2.2.2.2.2.2.2.2.2.2.2.2.2.2.1
def Ad.qa (u : Ad) : Nat := u.2.2.2.2.2.2.2.2.2.2.2.2.2.2.2.2.2.2.2.2.2.2.1
def Ad.aw (u : Ad) : Nat := u.2.2.2.2.2.2.2.2.2.2.2.2.2.2.2.2.2.2.2.2.2.2.2.1
def Ad.ab (u : Ad) : Nat := u.2.2.2.2.2.2.2.2.2.2.2.2.2.2.2.2.2.2.2.2.2.2.2.2.1
def Ad.am (u : Ad) : Nat := u.2.2.2.2.2.2.2.2.2.2.2.2.2.2.2.2.2.2.2.2.2.2.2.2.2.1
def Ad.th (u : Ad) : Nat := u.2.2.2.2.2.2.2.2.2.2.2.2.2.2.2.2.2.2.2.2.2.2.2.2.2.2.1
def Ad.dh (u : Ad) : Nat := u.2.2.2.2.2.2.2.2.2.2.2.2.2.2.2.2.2.2.2.2.2.2.2.2.2.2.2.1
def Ad.ta (u : Ad) : Nat := u.2.2.2.2.2.2.2.2.2.2.2.2.2.2.2.2.2.2.2.2.2.2.2.2.2.2.2.2.1
def Ad.das (u : Ad) : Nat := u.2.2.2.2.2.2.2.2.2.2.2.2.2.2.2.2.2.2.2.2.2.2.2.2.2.2.2.2.2.1
def Ad.daw (u : Ad) : Nat := u.2.2.2.2.2.2.2.2.2.2.2.2.2.2.2.2.2.2.2.2.2.2.2.2.2.2.2.2.2.2.1
def Ad.Mh (u : Ad) : Nat := u.2.2.2.2.2.2.2.2.2.2.2.2.2.2.2.2.2.2.2.2.2.2.2.2.2.2.2.2.2.2.2.1
def Ad.Man (u : Ad) : Nat := u.2.2.2.2.2.2.2.2.2.2.2.2.2.2.2.2.2.2.2.2.2.2.2.2.2.2.2.2.2.2.2.2.1
def Ad.Mak (u : Ad) : Nat := u.2.2.2.2.2.2.2.2.2.2.2.2.2.2.2.2.2.2.2.2.2.2.2.2.2.2.2.2.2.2.2.2.2.1
def Ad.Mau (u : Ad) : Nat := u.2.2.2.2.2.2.2.2.2.2.2.2.2.2.2.2.2.2.2.2.2.2.2.2.2.2.2.2.2.2.2.2.2.2.1
def Ad.Map (u : Ad) : Nat := u.2.2.2.2.2.2.2.2.2.2.2.2.2.2.2.2.2.2.2.2.2.2.2.2.2.2.2.2.2.2.2.2.2.2.2.1
def Ad.Maw (u : Ad) : Nat := u.2.2.2.2.2.2.2.2.2.2.2.2.2.2.2.2.2.2.2.2.2.2.2.2.2.2.2.2.2.2.2.2.2.2.2.2.1
def Ad.Mac (u : Ad) : Nat := u.2.2.2.2.2.2.2.2.2.2.2.2.2.2.2.2.2.2.2.2.2.2.2.2.2.2.2.2.2.2.2.2.2.2.2.2.2.1
def Ad.Mag (u : Ad) : Nat := u.2.2.2.2.2.2.2.2.2.2.2.2.2.2.2.2.2.2.2.2.2.2.2.2.2.2.2.2.2.2.2.2.2.2.2.2.2.2.1
def Ad.Max (u : Ad) : Nat := u.2.2.2.2.2.2.2.2.2.2.2.2.2.2.2.2.2.2.2.2.2.2.2.2.2.2.2.2.2.2.2.2.2.2.2.2.2.2.2.1
def Ad.Mao (u : Ad) : Nat := u.2.2.2.2.2.2.2.2.2.2.2.2.2.2.2.2.2.2.2.2.2.2.2.2.2.2.2.2.2.2.2.2.2.2.2.2.2.2.2.2.1
def Ad.Mal (u : Ad) : Nat := u.2.2.2.2.2.2.2.2.2.2.2.2.2.2.2.2.2.2.2.2.2.2.2.2.2.2.2.2.2.2.2.2.2.2.2.2.2.2.2.2.2.1
def Ad.Mav (u : Ad) : Nat := u.2.2.2.2.2.2.2.2.2.2.2.2.2.2.2.2.2.2.2.2.2.2.2.2.2.2.2.2.2.2.2.2.2.2.2.2.2.2.2.2.2.2.1
def Ad.Mae (u : Ad) : Nat := u.2.2.2.2.2.2.2.2.2.2.2.2.2.2.2.2.2.2.2.2.2.2.2.2.2.2.2.2.2.2.2.2.2.2.2.2.2.2.2.2.2.2.2.1
def Ad.Mar (u : Ad) : Nat := u.2.2.2.2.2.2.2.2.2.2.2.2.2.2.2.2.2.2.2.2.2.2.2.2.2.2.2.2.2.2.2.2.2.2.2.2.2.2.2.2.2.2.2.2.1
def Ad.Mad (u : Ad) : Nat := u.2.2.2.2.2.2.2.2.2.2.2.2.2.2.2.2.2.2.2.2.2.2.2.2.2.2.2.2.2.2.2.2.2.2.2.2.2.2.2.2.2.2.2.2.2.1
def Ad.MaW (u : Ad) : Nat := u.2.2.2.2.2.2.2.2.2.2.2.2.2.2.2.2.2.2.2.2.2.2.2.2.2.2.2.2.2.2.2.2.2.2.2.2.2.2.2.2.2.2.2.2.2.2.1
def Ad.MaS (u : Ad) : Nat := u.2.2.2.2.2.2.2.2.2.2.2.2.2.2.2.2.2.2.2.2.2.2.2.2.2.2.2.2.2.2.2.2.2.2.2.2.2.2.2.2.2.2.2.2.2.2.2.1
def Ad.MaN (u : Ad) : Nat := u.2.2.2.2.2.2.2.2.2.2.2.2.2.2.2.2.2.2.2.2.2.2.2.2.2.2.2.2.2.2.2.2.2.2.2.2.2.2.2.2.2.2.2.2.2.2.2.2.1
def Ad.MaR (u : Ad) : Nat := u.2.2.2.2.2.2.2.2.2.2.2.2.2.2.2.2.2.2.2.2.2.2.2.2.2.2.2.2.2.2.2.2.2.2.2.2.2.2.2.2.2.2.2.2.2.2.2.2.2.1
def Ad.MaG (u : Ad) : Nat := u.2.2.2.2.2.2.2.2.2.2.2.2.2.2.2.2.2.2.2.2.2.2.2.2.2.2.2.2.2.2.2.2.2.2.2.2.2.2.2.2.2.2.2.2.2.2.2.2.2.2.1
def Ad.aj (u : Ad) : Nat := u.2.2.2.2.2.2.2.2.2.2.2.2.2.2.2.2.2.2.2.2.2.2.2.2.2.2.2.2.2.2.2.2.2.2.2.2.2.2.2.2.2.2.2.2.2.2.2.2.2.2.2.1
def Ad.Mfx (u : Ad) : Nat → Int32 := u.2.2.2.2.2.2.2.2.2.2.2.2.2.2.2.2.2.2.2.2.2.2.2.2.2.2.2.2.2.2.2.2.2.2.2.2.2.2.2.2.2.2.2.2.2.2.2.2.2.2.2.2.1
def Ad.MfR (u : Ad) : Nat → Int32 := u.2.2.2.2.2.2.2.2.2.2.2.2.2.2.2.2.2.2.2.2.2.2.2.2.2.2.2.2.2.2.2.2.2.2.2.2.2.2.2.2.2.2.2.2.2.2.2.2.2.2.2.2.2.1
def Ad.MfG (u : Ad) : Nat → Int32 := u.2.2.2.2.2.2.2.2.2.2.2.2.2.2.2.2.2.2.2.2.2.2.2.2.2.2.2.2.2.2.2.2.2.2.2.2.2.2.2.2.2.2.2.2.2.2.2.2.2.2.2.2.2.2
abbrev LSt : Type := (Int32) × (Nat) × (Int32) × (Nat → Int32) × (Nat → Int32) × (Int32) × (Nat → Int32) × (Int32) × (Nat → Int32) × (Nat) × (Nat) × (Nat → Int32) × (List Int32) × (Nat) × (Nat) × (Nat → Int32) × (List Int32) × (Nat) × (Nat) × (Nat → Int32) × (List Int32) × (Nat) × (Nat) × (Nat → Int32) × (List Int32) × (Nat) × (Nat) × (Nat → Int32) × (List Int32) × (Nat → Int32) × (Nat → Int32) × (Nat → Int32) × (Nat) × (Nat) × (Nat → Int32) × (List Int32) × (Nat → Int32) × (Nat → Int32) × (Int32) × (Int32) × (Int32) × (Int32) × (Nat → Int32) × (Nat → Int32) × (Nat → Int32) × (Nat → Int32) × (Nat → Int32) × (Nat → Int32) × (Nat → Int32) × (Nat → Int32) × (Nat → Int32) × (Nat → Int32) × (Nat → Int32) × (Nat → Int32) × (Nat → Int32) × (Nat → Int32) × (Nat → Int32) × (Nat → Int32) × (List Int32) × (Nat → Int64)
def LSt.kwt (u : LSt) : Int32 := u.1
def LSt.mk (u : LSt) : Nat := u.2.1
def LSt.ft (u : LSt) : Int32 := u.2.2.1
def LSt.fnk (u : LSt) : Nat → Int32 := u.2.2.2.1
def LSt.fsk (u : LSt) : Nat → Int32 := u.2.2.2.2.1
def LSt.sn (u : LSt) : Int32 := u.2.2.2.2.2.1
def LSt.frk (u : LSt) : Nat → Int32 := u.2.2.2.2.2.2.1
def LSt.rn (u : LSt) : Int32 := u.2.2.2.2.2.2.2.1
def LSt.fwk (u : LSt) : Nat → Int32 := u.2.2.2.2.2.2.2.2.1
def LSt.ps (u : LSt) : Nat := u.2.2.2.2.2.2.2.2.2.1
def LSt.pn (u : LSt) : Nat := u.2.2.2.2.2.2.2.2.2.2.1
def LSt.pf (u : LSt) : Nat → Int32 := u.2.2.2.2.2.2.2.2.2.2.2.1
def LSt.pL (u : LSt) : List Int32 := u.2.2.2.2.2.2.2.2.2.2.2.2.1
def LSt.ws (u : LSt) : Nat := u.2.2.2.2.2.2.2.2.2.2.2.2.2.1
def LSt.wn (u : LSt) : Nat := u.2.2.2.2.2.2.2.2.2.2.2.2.2.2.1
def LSt.wf (u : LSt) : Nat → Int32 := u.2.2.2.2.2.2.2.2.2.2.2.2.2.2.2.1
def LSt.wL (u : LSt) : List Int32 := u.2.2.2.2.2.2.2.2.2.2.2.2.2.2.2.2.1
def LSt.cs (u : LSt) : Nat := u.2.2.2.2.2.2.2.2.2.2.2.2.2.2.2.2.2.1
def LSt.cn (u : LSt) : Nat := u.2.2.2.2.2.2.2.2.2.2.2.2.2.2.2.2.2.2.1
def LSt.cf (u : LSt) : Nat → Int32 := u.2.2.2.2.2.2.2.2.2.2.2.2.2.2.2.2.2.2.2.1
def LSt.cL (u : LSt) : List Int32 := u.2.2.2.2.2.2.2.2.2.2.2.2.2.2.2.2.2.2.2.2.1
def LSt.os (u : LSt) : Nat := u.2.2.2.2.2.2.2.2.2.2.2.2.2.2.2.2.2.2.2.2.2.1
def LSt.on (u : LSt) : Nat := u.2.2.2.2.2.2.2.2.2.2.2.2.2.2.2.2.2.2.2.2.2.2.1
def LSt.of (u : LSt) : Nat → Int32 := u.2.2.2.2.2.2.2.2.2.2.2.2.2.2.2.2.2.2.2.2.2.2.2.1
def LSt.oL (u : LSt) : List Int32 := u.2.2.2.2.2.2.2.2.2.2.2.2.2.2.2.2.2.2.2.2.2.2.2.2.1
def LSt.qs (u : LSt) : Nat := u.2.2.2.2.2.2.2.2.2.2.2.2.2.2.2.2.2.2.2.2.2.2.2.2.2.1
def LSt.qn (u : LSt) : Nat := u.2.2.2.2.2.2.2.2.2.2.2.2.2.2.2.2.2.2.2.2.2.2.2.2.2.2.1
def LSt.qf (u : LSt) : Nat → Int32 := u.2.2.2.2.2.2.2.2.2.2.2.2.2.2.2.2.2.2.2.2.2.2.2.2.2.2.2.1
def LSt.qL (u : LSt) : List Int32 := u.2.2.2.2.2.2.2.2.2.2.2.2.2.2.2.2.2.2.2.2.2.2.2.2.2.2.2.2.1
def LSt.cw (u : LSt) : Nat → Int32 := u.2.2.2.2.2.2.2.2.2.2.2.2.2.2.2.2.2.2.2.2.2.2.2.2.2.2.2.2.2.1
def LSt.cb (u : LSt) : Nat → Int32 := u.2.2.2.2.2.2.2.2.2.2.2.2.2.2.2.2.2.2.2.2.2.2.2.2.2.2.2.2.2.2.1
def LSt.cm (u : LSt) : Nat → Int32 := u.2.2.2.2.2.2.2.2.2.2.2.2.2.2.2.2.2.2.2.2.2.2.2.2.2.2.2.2.2.2.2.1
def LSt.ts (u : LSt) : Nat := u.2.2.2.2.2.2.2.2.2.2.2.2.2.2.2.2.2.2.2.2.2.2.2.2.2.2.2.2.2.2.2.2.1
def LSt.tn (u : LSt) : Nat := u.2.2.2.2.2.2.2.2.2.2.2.2.2.2.2.2.2.2.2.2.2.2.2.2.2.2.2.2.2.2.2.2.2.1
def LSt.tf (u : LSt) : Nat → Int32 := u.2.2.2.2.2.2.2.2.2.2.2.2.2.2.2.2.2.2.2.2.2.2.2.2.2.2.2.2.2.2.2.2.2.2.1
def LSt.T (u : LSt) : List Int32 := u.2.2.2.2.2.2.2.2.2.2.2.2.2.2.2.2.2.2.2.2.2.2.2.2.2.2.2.2.2.2.2.2.2.2.2.1
def LSt.fs (u : LSt) : Nat → Int32 := u.2.2.2.2.2.2.2.2.2.2.2.2.2.2.2.2.2.2.2.2.2.2.2.2.2.2.2.2.2.2.2.2.2.2.2.2.1
def LSt.fw (u : LSt) : Nat → Int32 := u.2.2.2.2.2.2.2.2.2.2.2.2.2.2.2.2.2.2.2.2.2.2.2.2.2.2.2.2.2.2.2.2.2.2.2.2.2.1
def LSt.Mth (u : LSt) : Int32 := u.2.2.2.2.2.2.2.2.2.2.2.2.2.2.2.2.2.2.2.2.2.2.2.2.2.2.2.2.2.2.2.2.2.2.2.2.2.2.1
def LSt.Mlt (u : LSt) : Int32 := u.2.2.2.2.2.2.2.2.2.2.2.2.2.2.2.2.2.2.2.2.2.2.2.2.2.2.2.2.2.2.2.2.2.2.2.2.2.2.2.1
def LSt.Mse (u : LSt) : Int32 := u.2.2.2.2.2.2.2.2.2.2.2.2.2.2.2.2.2.2.2.2.2.2.2.2.2.2.2.2.2.2.2.2.2.2.2.2.2.2.2.2.1
def LSt.Mln (u : LSt) : Int32 := u.2.2.2.2.2.2.2.2.2.2.2.2.2.2.2.2.2.2.2.2.2.2.2.2.2.2.2.2.2.2.2.2.2.2.2.2.2.2.2.2.2.1
def LSt.Mfn (u : LSt) : Nat → Int32 := u.2.2.2.2.2.2.2.2.2.2.2.2.2.2.2.2.2.2.2.2.2.2.2.2.2.2.2.2.2.2.2.2.2.2.2.2.2.2.2.2.2.2.1
def LSt.Mfk (u : LSt) : Nat → Int32 := u.2.2.2.2.2.2.2.2.2.2.2.2.2.2.2.2.2.2.2.2.2.2.2.2.2.2.2.2.2.2.2.2.2.2.2.2.2.2.2.2.2.2.2.1
def LSt.Mfu (u : LSt) : Nat → Int32 := u.2.2.2.2.2.2.2.2.2.2.2.2.2.2.2.2.2.2.2.2.2.2.2.2.2.2.2.2.2.2.2.2.2.2.2.2.2.2.2.2.2.2.2.2.1
def LSt.Mfp (u : LSt) : Nat → Int32 := u.2.2.2.2.2.2.2.2.2.2.2.2.2.2.2.2.2.2.2.2.2.2.2.2.2.2.2.2.2.2.2.2.2.2.2.2.2.2.2.2.2.2.2.2.2.1
def LSt.Mfw (u : LSt) : Nat → Int32 := u.2.2.2.2.2.2.2.2.2.2.2.2.2.2.2.2.2.2.2.2.2.2.2.2.2.2.2.2.2.2.2.2.2.2.2.2.2.2.2.2.2.2.2.2.2.2.1
def LSt.Mfc (u : LSt) : Nat → Int32 := u.2.2.2.2.2.2.2.2.2.2.2.2.2.2.2.2.2.2.2.2.2.2.2.2.2.2.2.2.2.2.2.2.2.2.2.2.2.2.2.2.2.2.2.2.2.2.2.1
def LSt.Mfg (u : LSt) : Nat → Int32 := u.2.2.2.2.2.2.2.2.2.2.2.2.2.2.2.2.2.2.2.2.2.2.2.2.2.2.2.2.2.2.2.2.2.2.2.2.2.2.2.2.2.2.2.2.2.2.2.2.1
def LSt.Mfo (u : LSt) : Nat → Int32 := u.2.2.2.2.2.2.2.2.2.2.2.2.2.2.2.2.2.2.2.2.2.2.2.2.2.2.2.2.2.2.2.2.2.2.2.2.2.2.2.2.2.2.2.2.2.2.2.2.2.1
def LSt.Mfl (u : LSt) : Nat → Int32 := u.2.2.2.2.2.2.2.2.2.2.2.2.2.2.2.2.2.2.2.2.2.2.2.2.2.2.2.2.2.2.2.2.2.2.2.2.2.2.2.2.2.2.2.2.2.2.2.2.2.2.1
def LSt.Mfv (u : LSt) : Nat → Int32 := u.2.2.2.2.2.2.2.2.2.2.2.2.2.2.2.2.2.2.2.2.2.2.2.2.2.2.2.2.2.2.2.2.2.2.2.2.2.2.2.2.2.2.2.2.2.2.2.2.2.2.2.1
def LSt.Mfe (u : LSt) : Nat → Int32 := u.2.2.2.2.2.2.2.2.2.2.2.2.2.2.2.2.2.2.2.2.2.2.2.2.2.2.2.2.2.2.2.2.2.2.2.2.2.2.2.2.2.2.2.2.2.2.2.2.2.2.2.2.1
def LSt.Mfr9 (u : LSt) : Nat → Int32 := u.2.2.2.2.2.2.2.2.2.2.2.2.2.2.2.2.2.2.2.2.2.2.2.2.2.2.2.2.2.2.2.2.2.2.2.2.2.2.2.2.2.2.2.2.2.2.2.2.2.2.2.2.2.1
def LSt.Mfd (u : LSt) : Nat → Int32 := u.2.2.2.2.2.2.2.2.2.2.2.2.2.2.2.2.2.2.2.2.2.2.2.2.2.2.2.2.2.2.2.2.2.2.2.2.2.2.2.2.2.2.2.2.2.2.2.2.2.2.2.2.2.2.1
def LSt.MfW (u : LSt) : Nat → Int32 := u.2.2.2.2.2.2.2.2.2.2.2.2.2.2.2.2.2.2.2.2.2.2.2.2.2.2.2.2.2.2.2.2.2.2.2.2.2.2.2.2.2.2.2.2.2.2.2.2.2.2.2.2.2.2.2.1
def LSt.MfS (u : LSt) : Nat → Int32 := u.2.2.2.2.2.2.2.2.2.2.2.2.2.2.2.2.2.2.2.2.2.2.2.2.2.2.2.2.2.2.2.2.2.2.2.2.2.2.2.2.2.2.2.2.2.2.2.2.2.2.2.2.2.2.2.2.1
def LSt.MfN (u : LSt) : Nat → Int32 := u.2.2.2.2.2.2.2.2.2.2.2.2.2.2.2.2.2.2.2.2.2.2.2.2.2.2.2.2.2.2.2.2.2.2.2.2.2.2.2.2.2.2.2.2.2.2.2.2.2.2.2.2.2.2.2.2.2.1
def LSt.CM (u : LSt) : List Int32 := u.2.2.2.2.2.2.2.2.2.2.2.2.2.2.2.2.2.2.2.2.2.2.2.2.2.2.2.2.2.2.2.2.2.2.2.2.2.2.2.2.2.2.2.2.2.2.2.2.2.2.2.2.2.2.2.2.2.2.1
def LSt.fj (u : LSt) : Nat → Int64 := u.2.2.2.2.2.2.2.2.2.2.2.2.2.2.2.2.2.2.2.2.2.2.2.2.2.2.2.2.2.2.2.2.2.2.2.2.2.2.2.2.2.2.2.2.2.2.2.2.2.2.2.2.2.2.2.2.2.2.2
def Rel (u : LSt) : Prop := (BQ 500 u.pf u.ps u.pn u.pL) ∧ (BQ 6000 u.wf u.ws u.wn u.wL) ∧ (BQ 2000 u.cf u.cs u.cn u.cL) ∧ (BQ 540 u.of u.os u.on u.oL) ∧ (BQ 544 u.qf u.qs u.qn u.qL) ∧ (BQ 640 u.tf u.ts u.tn u.T) ∧ (BA u.Mfp u.pL) ∧ (BA u.Mfw u.wL) ∧ (BA u.Mfc u.CM) ∧ (BA u.Mfg u.oL) ∧ (u.CM.length = u.cn) ∧ (K16 u.Mfn u.fnk) ∧ (K16 u.Mfk u.fsk) ∧ (u.Mfu 0 = u.sn) ∧ (u.Mfu 1 = u.rn) ∧ (u.mk = 0 ∨ okm u.mk) ∧ (u.Mlt = nI 0 ∨ u.Mlt = nI 1) ∧ (FT u.ft) ∧ (u.ft = 0 → RK u.frk u.fwk u.Mfk u.cL u.CM u.mk u.Mse u.kwt u.Mlt u.Mln)
theorem Rel.Bp {u : LSt} (h : Rel u) : BQ 500 u.pf u.ps u.pn u.pL := h.1
theorem Rel.Bw {u : LSt} (h : Rel u) : BQ 6000 u.wf u.ws u.wn u.wL := h.2.1
theorem Rel.Bc {u : LSt} (h : Rel u) : BQ 2000 u.cf u.cs u.cn u.cL := h.2.2.1
theorem Rel.Bo {u : LSt} (h : Rel u) : BQ 540 u.of u.os u.on u.oL := h.2.2.2.1
theorem Rel.Bq {u : LSt} (h : Rel u) : BQ 544 u.qf u.qs u.qn u.qL := h.2.2.2.2.1
theorem Rel.BT {u : LSt} (h : Rel u) : BQ 640 u.tf u.ts u.tn u.T := h.2.2.2.2.2.1
theorem Rel.Mp {u : LSt} (h : Rel u) : BA u.Mfp u.pL := h.2.2.2.2.2.2.1
theorem Rel.Mw {u : LSt} (h : Rel u) : BA u.Mfw u.wL := h.2.2.2.2.2.2.2.1
theorem Rel.Mc {u : LSt} (h : Rel u) : BA u.Mfc u.CM := h.2.2.2.2.2.2.2.2.1
theorem Rel.Mg {u : LSt} (h : Rel u) : BA u.Mfg u.oL := h.2.2.2.2.2.2.2.2.2.1
theorem Rel.cl {u : LSt} (h : Rel u) : u.CM.length = u.cn := h.2.2.2.2.2.2.2.2.2.2.1
theorem Rel.kn {u : LSt} (h : Rel u) : K16 u.Mfn u.fnk := h.2.2.2.2.2.2.2.2.2.2.2.1
theorem Rel.ks {u : LSt} (h : Rel u) : K16 u.Mfk u.fsk := h.2.2.2.2.2.2.2.2.2.2.2.2.1
theorem Rel.n0 {u : LSt} (h : Rel u) : u.Mfu 0 = u.sn := h.2.2.2.2.2.2.2.2.2.2.2.2.2.1
theorem Rel.n1 {u : LSt} (h : Rel u) : u.Mfu 1 = u.rn := h.2.2.2.2.2.2.2.2.2.2.2.2.2.2.1
theorem Rel.hm {u : LSt} (h : Rel u) : u.mk = 0 ∨ okm u.mk := h.2.2.2.2.2.2.2.2.2.2.2.2.2.2.2.1
theorem Rel.hlt {u : LSt} (h : Rel u) : u.Mlt = nI 0 ∨ u.Mlt = nI 1 := h.2.2.2.2.2.2.2.2.2.2.2.2.2.2.2.2.1
theorem Rel.hf {u : LSt} (h : Rel u) : FT u.ft := h.2.2.2.2.2.2.2.2.2.2.2.2.2.2.2.2.2.1
theorem Rel.rk {u : LSt} (h : Rel u) : u.ft = 0 → RK u.frk u.fwk u.Mfk u.cL u.CM u.mk u.Mse u.kwt u.Mlt u.Mln := h.2.2.2.2.2.2.2.2.2.2.2.2.2.2.2.2.2.2
theorem Rel.mk {u : LSt} (h0 : BQ 500 u.pf u.ps u.pn u.pL) (h1 : BQ 6000 u.wf u.ws u.wn u.wL) (h2 : BQ 2000 u.cf u.cs u.cn u.cL) (h3 : BQ 540 u.of u.os u.on u.oL) (h4 : BQ 544 u.qf u.qs u.qn u.qL) (h5 : BQ 640 u.tf u.ts u.tn u.T) (h6 : BA u.Mfp u.pL) (h7 : BA u.Mfw u.wL) (h8 : BA u.Mfc u.CM) (h9 : BA u.Mfg u.oL) (h10 : u.CM.length = u.cn) (h11 : K16 u.Mfn u.fnk) (h12 : K16 u.Mfk u.fsk) (h13 : u.Mfu 0 = u.sn) (h14 : u.Mfu 1 = u.rn) (h15 : u.mk = 0 ∨ okm u.mk) (h16 : u.Mlt = nI 0 ∨ u.Mlt = nI 1) (h17 : FT u.ft) (h18 : u.ft = 0 → RK u.frk u.fwk u.Mfk u.cL u.CM u.mk u.Mse u.kwt u.Mlt u.Mln) : Rel u := ⟨h0, h1, h2, h3, h4, h5, h6, h7, h8, h9, h10, h11, h12, h13, h14, h15, h16, h17, h18⟩
def Ad.ok (a : Ad) : Prop := (∀ j, j < 256 → a.Mfx j = sbx j) ∧ (∀ t, t < 64 → a.MfR t = dgr t) ∧ (∀ j, j < 8 → a.MfG j = dgs j)
theorem Ad.ok.bx {a : Ad} (h : Ad.ok a) : ∀ j, j < 256 → a.Mfx j = sbx j := h.1
theorem Ad.ok.R {a : Ad} (h : Ad.ok a) : ∀ t, t < 64 → a.MfR t = dgr t := h.2.1
theorem Ad.ok.G {a : Ad} (h : Ad.ok a) : ∀ j, j < 8 → a.MfG j = dgs j := h.2.2
theorem Ad.ok.mk {a : Ad} (h0 : ∀ j, j < 256 → a.Mfx j = sbx j) (h1 : ∀ t, t < 64 → a.MfR t = dgr t) (h2 : ∀ j, j < 8 → a.MfG j = dgs j) : Ad.ok a := ⟨h0, h1, h2⟩
abbrev WL (d : DD) (a : Ad) (u : LSt) : va_W := [(a.g, ob 0 [.ref a.nk, .ref a.sd, .ref a.rc, .ref a.wk, .int u.kwt, .ref a.ph, .ref a.wh, .ref a.ch, .ref a.oh, .ref a.qh, .ref a.cc, .ref a.sl, .int (nI u.mk), .int u.ft]), (a.nk, ob 5 [.ref a.nka]), (a.nka, aI d 16 u.fnk), (a.sd, ob 7 [.ref a.sk, .int u.sn]), (a.sk, ob 5 [.ref a.ska]), (a.ska, aI d 16 u.fsk), (a.rc, ob 7 [.ref a.rk, .int u.rn]), (a.rk, ob 5 [.ref a.rka]), (a.rka, aI d 16 u.frk), (a.wk, ob 5 [.ref a.wka]), (a.wka, aI d 16 u.fwk), (a.ph, ob 2 [.ref a.pa, .int (nI u.ps), .int (nI u.pn)]), (a.pa, aB d 500 u.pf), (a.wh, ob 2 [.ref a.wa, .int (nI u.ws), .int (nI u.wn)]), (a.wa, aB d 6000 u.wf), (a.ch, ob 2 [.ref a.ca, .int (nI u.cs), .int (nI u.cn)]), (a.ca, aB d 2000 u.cf), (a.oh, ob 2 [.ref a.oa, .int (nI u.os), .int (nI u.on)]), (a.oa, aB d 540 u.of), (a.qh, ob 2 [.ref a.qa, .int (nI u.qs), .int (nI u.qn)]), (a.qa, aB d 544 u.qf), (a.cc, ob 3 [.ref a.aw, .ref a.ab, .ref a.am]), (a.aw, aI d 44 u.cw), (a.ab, aI d 16 u.cb), (a.am, aI d 16 u.cm), (a.sl, ob 6 [.ref a.th, .ref a.dh]), (a.th, ob 2 [.ref a.ta, .int (nI u.ts), .int (nI u.tn)]), (a.ta, aB d 640 u.tf), (a.dh, ob 4 [.ref a.das, .ref a.daw]), (a.das, aI d 8 u.fs), (a.daw, aI d 64 u.fw), (a.Mh, ob 1 [.int u.Mth, .ref a.Man, .ref a.Mak, .int u.Mlt, .int u.Mse, .ref a.Mau, .int (nI u.pn), .ref a.Map, .int (nI u.wn), .ref a.Maw, .int (nI u.cn), .ref a.Mac, .int u.Mln, .int u.ft, .int (nI u.on), .ref a.Mag, .ref a.Max, .ref a.Mao, .ref a.Mal, .ref a.Mav, .ref a.Mae, .ref a.Mar, .ref a.Mad, .ref a.MaW, .ref a.MaS, .ref a.MaN, .ref a.MaR, .ref a.MaG]), (a.Man, aI d 16 u.Mfn), (a.Mak, aI d 48 u.Mfk), (a.Mau, aI d 2 u.Mfu), (a.Map, aB d 500 u.Mfp), (a.Maw, aB d 6000 u.Mfw), (a.Mac, aB d 2000 u.Mfc), (a.Mag, aB d 600 u.Mfg), (a.Max, aI d 256 a.Mfx), (a.Mao, aI d 44 u.Mfo), (a.Mal, aI d 16 u.Mfl), (a.Mav, aI d 16 u.Mfv), (a.Mae, aB d 600 u.Mfe), (a.Mar, aB d 800 u.Mfr9), (a.Mad, aB d 32 u.Mfd), (a.MaW, aI d 64 u.MfW), (a.MaS, aI d 8 u.MfS), (a.MaN, aI d 8 u.MfN), (a.MaR, aI d 64 a.MfR), (a.MaG, aI d 8 a.MfG), (a.aj, aJ d 1 u.fj)]
abbrev RL : Room := Rm 16 622 601024 7293034
/-- at this place of the law, whatever the state, the rest goes well -/
def Jn (p : Program) (l : Launch) (e : Env) (s : State) (m : MethodId) (args : Array Value) (below : List Frame) (meth : Method) (c : Code) (Q : State → Prop) (d : DD) (A : Nat → Prop) (b : Nat) (a : Ad) (t cells slots pc : Nat) : Prop :=
  ∀ (u : LSt), Rel u → ∀ (H : Heap) (locs : List Loc) (ls : Array Slot), va_P d.1 clz (WL d a u) H → va_D A (WL d a u) → va_S A s.heap H locs → lv_has ls 7 [(0, .ref b), (1, .ref a.g), (2, .ref a.Mh), (3, .ref a.aj), (4, .int (nI (3 * t)))] → W p l e RL s m args below meth c H locs cells slots Q (F0 m pc ls [])
theorem sp_ix (v : Int32) {n : Nat} (hn : n < 2 ^ 31) : (∃ i, i < n ∧ v = nI i) ∨ (v < 0 ∨ nI n ≤ v) := by
  rcases pk_ix v hn with h | h | h
  · exact Or.inr (Or.inl h)
  · exact Or.inr (Or.inr h)
  · exact Or.inl h
theorem sp_hi {v : Int32} {n : Nat} (hn : n + 1 < 2 ^ 31) (h : v < 0 ∨ nI (n + 1) ≤ v) : v < 0 ∨ nI n < v := by
  rcases h with h | h
  · exact Or.inl h
  · exact Or.inr (Int32.lt_of_lt_of_le (nI_lt (Nat.lt_succ_self n) hn) h)
theorem sp_01 (v : Int32) : v = nI 0 ∨ v = nI 1 ∨ ((¬ v = nI 0 ∧ ¬ v = nI 1) ∧ (v < 0 ∨ nI 1 < v)) := by
  rcases sp_ix v (n := 2) (by decide) with ⟨i, hi, e⟩ | h
  · rcases (show i = 0 ∨ i = 1 by omega) with rfl | rfl
    · exact Or.inl e
    · exact Or.inr (Or.inl e)
  · refine Or.inr (Or.inr ⟨⟨fun q => ?_, fun q => ?_⟩, sp_hi (n := 1) (by decide) h⟩)
    · rw [q] at h; exact absurd h (by decide)
    · rw [q] at h; exact absurd h (by decide)
theorem sp_14 (v : Int32) : (∃ n, (1 ≤ n ∧ n ≤ 4) ∧ v = nI n) ∨ (v < nI 1 ∨ nI 4 < v) := by
  rcases sp_ix v (n := 5) (by decide) with ⟨i, hi, e⟩ | h
  · rcases (show i = 0 ∨ 1 ≤ i by omega) with rfl | h1
    · exact Or.inr (Or.inl (by rw [e]; decide))
    · exact Or.inl ⟨i, ⟨h1, by omega⟩, e⟩
  · rcases h with h | h
    · exact Or.inr (Or.inl (Int32.lt_trans h (by decide)))
    · exact Or.inr (Or.inr (Int32.lt_of_lt_of_le (by decide) h))
theorem sp_nn (v : Int32) : (∃ n, n < 2 ^ 31 ∧ v = nI n) ∨ v < 0 := by
  by_cases h : v < 0
  · exact Or.inr h
  · exact Or.inl (nI_of h)
theorem upd_k16 {f g : Nat → Int32} (h : K16 f g) (i : Nat) (x : Int32) : K16 (upd f i x) (upd g i x) := by
  intro j hj
  by_cases e : j = i
  · rw [e, pk_us, pk_us]
  · rw [pk_un e, pk_un e]; exact h j hj
theorem K16.tr {f g h : Nat → Int32} (h1 : K16 f g) (h2 : K16 g h) : K16 f h := fun j hj => (h1 j hj).trans (h2 j hj)
theorem K16.sy {f g : Nat → Int32} (h1 : K16 f g) : K16 g f := fun j hj => (h1 j hj).symm
/-- the sender's keys change only -/
theorem rk_hi {frk fwk fk k2 : Nat → Int32} {cL CM : List Int32} {mk : Nat} {se kwt lt ln : Int32} (h : RK frk fwk fk cL CM mk se kwt lt ln) (hk : ∀ j, 16 ≤ j → k2 j = fk j) : RK frk fwk k2 cL CM mk se kwt lt ln := by
  have e : shf 16 k2 = shf 16 fk := by funext j; exact hk _ (by omega)
  rcases h with ⟨r1, r2, r3, r4, r5, r6⟩ | ⟨r1, r2, r3, r4, r5, r6, r7, r8⟩
  · exact Or.inl ⟨r1, r2, r3, r4, r5, by rw [e]; exact r6⟩
  · exact Or.inr ⟨r1, r2, r3, r4, r5, by rw [e]; exact r6, r7, fun q j hj => (hk _ (by omega)).trans (r8 q j hj)⟩
theorem rk_link {frk fwk fk : Nat → Int32} {cL CM X : List Int32} {mk : Nat} {se kwt lt ln : Int32} (h : RK frk fwk fk cL CM mk se kwt lt ln) : RK frk fwk fk (cL ++ X) (CM ++ X) mk se kwt lt ln := by
  rcases h with ⟨r1, r2, r3, r4, r5, r6⟩ | ⟨r1, r2, r3, r4, r5, r6, r7, r8⟩
  · exact Or.inl ⟨r1, r2, r3, r4, by rw [r5], r6⟩
  · refine Or.inr ⟨r1, r2, r3, by rw [List.length_append]; omega, ?_, r6, r7, r8⟩
    rw [r5, List.take_append_of_le_length r4, List.drop_append_of_le_length r4, List.append_assoc]
theorem rk_t1 {frk fwk fk k2 f2 fn fnk : Nat → Int32} {cL CM : List Int32} {mk : Nat} {se kwt lt ln : Int32} (h : RK frk fwk fk cL CM mk se kwt lt ln) (hse : se = 0) (h1 : ∀ j, j < 16 → k2 (16 + j) = fn j) (h2 : ∀ j, j < 16 → f2 j = fnk j) (hn : K16 fn fnk) : RK f2 fwk k2 cL CM mk se kwt (nI 0) ln := by
  rcases h with ⟨r1, r2, r3, r4, r5, r6⟩ | ⟨r1, -⟩
  · exact Or.inl ⟨r1, r2, r3, by decide, r5, fun j hj => (h1 j hj).trans ((hn j hj).trans (h2 j hj).symm)⟩
  · exact absurd hse r1
theorem rk_t2 {frk fwk fk k2 f2 fn fnk : Nat → Int32} {cL CM : List Int32} {mk : Nat} {se kwt lt ln : Int32} (h : RK frk fwk fk cL CM mk se kwt lt ln) (hse : ¬ se = 0) (h1 : ∀ j, j < 16 → k2 (32 + j) = fn j) (h0 : ∀ j, (j < 32 ∨ 32 + 16 ≤ j) → k2 j = fk j) (h2 : ∀ j, j < 16 → f2 j = fnk j) (hn : K16 fn fnk) : RK frk f2 k2 cL CM mk se (nI 1) (nI 1) ln := by
  rcases h with ⟨r1, -⟩ | ⟨r1, r2, r3, r4, r5, r6, r7, r8⟩
  · exact absurd r1 hse
  · refine Or.inr ⟨r1, r2, r3, r4, r5, fun j hj => (h0 _ (Or.inl (by omega))).trans (r6 j hj), Iff.rfl, fun _ j hj => (h1 j hj).trans ((hn j hj).trans (h2 j hj).symm)⟩
theorem rk_no {frk fwk fk : Nat → Int32} {cL CM : List Int32} {mk : Nat} {se kwt lt ln : Int32} (h : RK frk fwk fk cL CM mk se kwt lt ln) (hx : ¬ (mk = 0 ↔ se = 0)) : False := by
  rcases h with ⟨r1, r2, -⟩ | ⟨r1, r2, -⟩
  · exact hx ⟨fun _ => r1, fun _ => r2⟩
  · exact hx ⟨fun q => absurd q (okm_0 r2), fun q => absurd q r1⟩
theorem nI_n0 {m : Nat} (hm : m = 0 ∨ okm m) (h : ¬ m = 0) : ¬ nI m = 0 := by
  rw [← nI_0]
  intro q
  have := mk_le hm
  exact h (nI_inj (by omega) (by omega) q)
theorem nil_BA {f : Nat → Int32} : BA f [] := ⟨fun i hi => absurd hi (Nat.not_lt_zero _), fun x hx => absurd hx List.not_mem_nil⟩
theorem ks_ship {fk k2 fsk : Nat → Int32} {pn : Nat} (h : K16 fk fsk) (hk : shf 0 k2 = ctrN (shf 0 fk) ((5 + pn + padn pn) / 16)) : K16 k2 (ctrN fsk ((5 + pn + padn pn + 15) / 16)) := by
  have h16 := padn_16 pn
  have e : (5 + pn + padn pn + 15) / 16 = (5 + pn + padn pn) / 16 := by omega
  rw [e]
  refine (shf0 k2).sy.tr ?_
  rw [hk]
  exact ctrN_cg ((shf0 fk).tr h) _
theorem shp_eq {fk fsk : Nat → Int32} (h : K16 fk fsk) {n0 sn : Int32} (hn : n0 = sn) (told pads : Int32) (L : List Int32) (fp : Int32) : shp (shf 0 fk) n0 told pads L fp = shp fsk sn told pads L fp := by
  rw [hn]; exact shp_cg ((shf0 fk).tr h) _ _ _ _ _

abbrev TXc : Type := Nat × Nat × Int32 × Nat × Int32 × Nat × Int32 × Nat × (Nat → Int32)
def tB (t : TXc) : Nat := t.1
def tN (t : TXc) : Nat := t.2.1
def tA (t : TXc) : Int32 := t.2.2.1
def tC (t : TXc) : Nat := t.2.2.2.1
def tL (t : TXc) : Int32 := t.2.2.2.2.1
def tS (t : TXc) : Nat := t.2.2.2.2.2.1
def tF (t : TXc) : Int32 := t.2.2.2.2.2.2.1
def tZ (t : TXc) : Nat := t.2.2.2.2.2.2.2.1
def tK (t : TXc) : Nat → Int32 := t.2.2.2.2.2.2.2.2
def wTW (cA : Nat → ClassId) (a : Nat) (t : TXc) (stk : Nat → Int32) : va_W := [(a, .inr (9, [.ref (tB t), .ref (tN t), .int (tA t), .ref (tC t), .int (tL t), .ref (tS t), .int (tF t)])), (tC t, .inl (cA 0, tZ t, .inl (tK t))), (tS t, .inl (cA 0, tZ t, .inl stk))]
def wTx (cA : Nat → ClassId) (L : List Nat) (tx : Nat → TXc) (tst : Nat → Nat → Int32) : va_W := L.flatMap (fun a => wTW cA a (tx a) (tst a))
def wHc (cA : Nat → ClassId) (ad : Nat → Nat) (kd : Nat → Nat) (weight : Nat → Int32) (known : Int32) (hour : Int32) (swS : Nat → Int32) (swW : Nat → Int32) (waS : Nat → Int32) (spoons : Int32) (kind : Nat → Int32) (mark : Nat → Int32) (silver : Nat → Int32) (fresh : Nat → Int64) (texts : Nat → Option Nat) (tape : Nat → Int32) (tapeCount : Int32) (z : Int32) (waiting : Nat → Int32) (waitingCount : Int32) : va_W :=
  [(ad 0, .inr (3, [.ref (kd 0), .ref (ad 2), .int known, .int hour, .ref (ad 5), .ref (ad 6), .ref (ad 7), .int spoons, .ref (ad 9), .ref (ad 10), .ref (ad 11), .ref (ad 12), .ref (ad 13), .ref (ad 14), .int tapeCount, .int z, .ref (ad 17), .int waitingCount])),
   (ad 2, .inl (cA 0, 12, .inl weight)),
   (ad 5, .inl (cA 0, 6, .inl swS)),
   (ad 6, .inl (cA 0, 6, .inl swW)),
   (ad 7, .inl (cA 0, 4, .inl waS)),
   (ad 9, .inl (cA 0, 8, .inl kind)),
   (ad 10, .inl (cA 0, 8, .inl mark)),
   (ad 11, .inl (cA 0, 8, .inl silver)),
   (ad 12, .inl (cA 1, 8, .inr (.inl fresh))),
   (ad 13, .inl (cA 3, 2, .inr (.inr (.inr (.inr texts))))),
   (ad 14, .inl (cA 0, 50, .inl tape)),
   (ad 17, .inl (cA 0, 20, .inl waiting))]
def wK (cA : Nat → ClassId) (kd : Nat → Nat)  : va_W :=
  [(kd 0, .inl (cA 2, 7, .inr (.inr (.inr (.inr (fun j => some (kd (j + 1)))))))),
   (kd 1, .inr (8, [])),
   (kd 2, .inr (2, [])),
   (kd 3, .inr (0, [])),
   (kd 4, .inr (5, [])),
   (kd 5, .inr (6, [])),
   (kd 6, .inr (4, [])),
   (kd 7, .inr (1, []))]
def wHl (cA : Nat → ClassId) (ad : Nat → Nat) (kd : Nat → Nat) (weight : Nat → Int32) (known : Int32) (hour : Int32) (swS : Nat → Int32) (swW : Nat → Int32) (waS : Nat → Int32) (spoons : Int32) (kind : Nat → Int32) (mark : Nat → Int32) (silver : Nat → Int32) (fresh : Nat → Int64) (texts : Nat → Option Nat) (tape : Nat → Int32) (tapeCount : Int32) (z : Int32) (waiting : Nat → Int32) (waitingCount : Int32) : va_W :=
  wHc cA ad kd weight known hour swS swW waS spoons kind mark silver fresh texts tape tapeCount z waiting waitingCount ++ wK cA kd
def wH (cA : Nat → ClassId) (ad : Nat → Nat) (kd : Nat → Nat) (weight : Nat → Int32) (known : Int32) (hour : Int32) (swS : Nat → Int32) (swW : Nat → Int32) (waS : Nat → Int32) (spoons : Int32) (kind : Nat → Int32) (mark : Nat → Int32) (silver : Nat → Int32) (fresh : Nat → Int64) (texts : Nat → Option Nat) (tape : Nat → Int32) (tapeCount : Int32) (z : Int32) (waiting : Nat → Int32) (waitingCount : Int32) (L : List Nat) (tx : Nat → TXc) (tst : Nat → Nat → Int32) : va_W := wHl cA ad kd weight known hour swS swW waS spoons kind mark silver fresh texts tape tapeCount z waiting waitingCount ++ wTx cA L tx tst
def wHHl (cA : Nat → ClassId) (ad : Nat → Nat) (bd : Nat → Nat) (kd : Nat → Nat) (weight : Nat → Int32) (known : Int32) (hour : Int32) (swS : Nat → Int32) (swW : Nat → Int32) (waS : Nat → Int32) (spoons : Int32) (kind : Nat → Int32) (mark : Nat → Int32) (silver : Nat → Int32) (fresh : Nat → Int64) (texts : Nat → Option Nat) (tape : Nat → Int32) (tapeCount : Int32) (z : Int32) (waiting : Nat → Int32) (waitingCount : Int32) (o_weight : Nat → Int32) (o_known : Int32) (o_hour : Int32) (o_swS : Nat → Int32) (o_swW : Nat → Int32) (o_waS : Nat → Int32) (o_spoons : Int32) (o_kind : Nat → Int32) (o_mark : Nat → Int32) (o_silver : Nat → Int32) (o_fresh : Nat → Int64) (o_texts : Nat → Option Nat) (o_tape : Nat → Int32) (o_tapeCount : Int32) (o_z : Int32) (o_waiting : Nat → Int32) (o_waitingCount : Int32) : va_W :=
  wHc cA ad kd weight known hour swS swW waS spoons kind mark silver fresh texts tape tapeCount z waiting waitingCount ++ wHc cA bd kd o_weight o_known o_hour o_swS o_swW o_waS o_spoons o_kind o_mark o_silver o_fresh o_texts o_tape o_tapeCount o_z o_waiting o_waitingCount
def wHH (cA : Nat → ClassId) (ad : Nat → Nat) (bd : Nat → Nat) (kd : Nat → Nat) (weight : Nat → Int32) (known : Int32) (hour : Int32) (swS : Nat → Int32) (swW : Nat → Int32) (waS : Nat → Int32) (spoons : Int32) (kind : Nat → Int32) (mark : Nat → Int32) (silver : Nat → Int32) (fresh : Nat → Int64) (texts : Nat → Option Nat) (tape : Nat → Int32) (tapeCount : Int32) (z : Int32) (waiting : Nat → Int32) (waitingCount : Int32) (o_weight : Nat → Int32) (o_known : Int32) (o_hour : Int32) (o_swS : Nat → Int32) (o_swW : Nat → Int32) (o_waS : Nat → Int32) (o_spoons : Int32) (o_kind : Nat → Int32) (o_mark : Nat → Int32) (o_silver : Nat → Int32) (o_fresh : Nat → Int64) (o_texts : Nat → Option Nat) (o_tape : Nat → Int32) (o_tapeCount : Int32) (o_z : Int32) (o_waiting : Nat → Int32) (o_waitingCount : Int32) (L : List Nat) (tx : Nat → TXc) (tst : Nat → Nat → Int32) : va_W := wHHl cA ad bd kd weight known hour swS swW waS spoons kind mark silver fresh texts tape tapeCount z waiting waitingCount o_weight o_known o_hour o_swS o_swW o_waS o_spoons o_kind o_mark o_silver o_fresh o_texts o_tape o_tapeCount o_z o_waiting o_waitingCount ++ wTx cA L tx tst
def wHAl (cA : Nat → ClassId) (ad : Nat → Nat) (kd : Nat → Nat) (na : Nat) (nn : Nat) (weight : Nat → Int32) (known : Int32) (hour : Int32) (swS : Nat → Int32) (swW : Nat → Int32) (waS : Nat → Int32) (spoons : Int32) (kind : Nat → Int32) (mark : Nat → Int32) (silver : Nat → Int32) (fresh : Nat → Int64) (texts : Nat → Option Nat) (tape : Nat → Int32) (tapeCount : Int32) (z : Int32) (waiting : Nat → Int32) (waitingCount : Int32) (nums : Nat → Int32) : va_W :=
  (wHc cA ad kd weight known hour swS swW waS spoons kind mark silver fresh texts tape tapeCount z waiting waitingCount ++ wK cA kd) ++ [(na, .inl (cA 0, nn, .inl nums))]
def wHA (cA : Nat → ClassId) (ad : Nat → Nat) (kd : Nat → Nat) (na : Nat) (nn : Nat) (weight : Nat → Int32) (known : Int32) (hour : Int32) (swS : Nat → Int32) (swW : Nat → Int32) (waS : Nat → Int32) (spoons : Int32) (kind : Nat → Int32) (mark : Nat → Int32) (silver : Nat → Int32) (fresh : Nat → Int64) (texts : Nat → Option Nat) (tape : Nat → Int32) (tapeCount : Int32) (z : Int32) (waiting : Nat → Int32) (waitingCount : Int32) (nums : Nat → Int32) (L : List Nat) (tx : Nat → TXc) (tst : Nat → Nat → Int32) : va_W := wHAl cA ad kd na nn weight known hour swS swW waS spoons kind mark silver fresh texts tape tapeCount z waiting waitingCount nums ++ wTx cA L tx tst
def wX0 (cA : Nat → ClassId) (xd : Nat → Nat) (vd : Nat → Nat) (sd : Nat → Nat) (nd : Nat → Nat) (hd : Nat → Nat) (td : Nat → Nat) (ed : Nat → Nat) (kd : Nat → Nat) (images : Int32) (errors : Nat → Int32) (fewest : Nat → Int32) (vspoon : Int32) (vmark : Int32) (vcount : Int32) (vbodies : Nat → Int32) (sbits : Nat → Int32) (slens : Nat → Int32) (snum : Nat → Nat → Int32) : va_W :=
  [(xd 0, .inr (11, [.ref (hd 0), .ref (td 0), .ref (ed 0), .int images, .ref (kd 0), .ref (vd 0), .ref (xd 1), .ref (xd 2), .ref (xd 3)])),
   (xd 1, .inl (cA 4, 4, .inr (.inr (.inr (.inr (fun j => some (sd j))))))),
   (xd 2, .inl (cA 0, 6, .inl errors)),
   (xd 3, .inl (cA 0, 256, .inl fewest)),
   (vd 0, .inr (10, [.int vspoon, .int vmark, .int vcount, .ref (vd 1)])),
   (vd 1, .inl (cA 0, 40, .inl vbodies)),
   (sd 0, .inr (7, [.int (sbits 0), .int (slens 0), .ref (nd 0)])),
   (sd 1, .inr (7, [.int (sbits 1), .int (slens 1), .ref (nd 1)])),
   (sd 2, .inr (7, [.int (sbits 2), .int (slens 2), .ref (nd 2)])),
   (sd 3, .inr (7, [.int (sbits 3), .int (slens 3), .ref (nd 3)])),
   (nd 0, .inl (cA 0, 40, .inl (snum 0))),
   (nd 1, .inl (cA 0, 40, .inl (snum 1))),
   (nd 2, .inl (cA 0, 40, .inl (snum 2))),
   (nd 3, .inl (cA 0, 40, .inl (snum 3)))]
def wXl (cA : Nat → ClassId) (xd : Nat → Nat) (vd : Nat → Nat) (sd : Nat → Nat) (nd : Nat → Nat) (hd : Nat → Nat) (td : Nat → Nat) (ed : Nat → Nat) (kd : Nat → Nat) (images : Int32) (errors : Nat → Int32) (fewest : Nat → Int32) (vspoon : Int32) (vmark : Int32) (vcount : Int32) (vbodies : Nat → Int32) (sbits : Nat → Int32) (slens : Nat → Int32) (snum : Nat → Nat → Int32) (h_weight : Nat → Int32) (h_known : Int32) (h_hour : Int32) (h_swS : Nat → Int32) (h_swW : Nat → Int32) (h_waS : Nat → Int32) (h_spoons : Int32) (h_kind : Nat → Int32) (h_mark : Nat → Int32) (h_silver : Nat → Int32) (h_fresh : Nat → Int64) (h_texts : Nat → Option Nat) (h_tape : Nat → Int32) (h_tapeCount : Int32) (h_z : Int32) (h_waiting : Nat → Int32) (h_waitingCount : Int32) (t_weight : Nat → Int32) (t_known : Int32) (t_hour : Int32) (t_swS : Nat → Int32) (t_swW : Nat → Int32) (t_waS : Nat → Int32) (t_spoons : Int32) (t_kind : Nat → Int32) (t_mark : Nat → Int32) (t_silver : Nat → Int32) (t_fresh : Nat → Int64) (t_texts : Nat → Option Nat) (t_tape : Nat → Int32) (t_tapeCount : Int32) (t_z : Int32) (t_waiting : Nat → Int32) (t_waitingCount : Int32) (e_weight : Nat → Int32) (e_known : Int32) (e_hour : Int32) (e_swS : Nat → Int32) (e_swW : Nat → Int32) (e_waS : Nat → Int32) (e_spoons : Int32) (e_kind : Nat → Int32) (e_mark : Nat → Int32) (e_silver : Nat → Int32) (e_fresh : Nat → Int64) (e_texts : Nat → Option Nat) (e_tape : Nat → Int32) (e_tapeCount : Int32) (e_z : Int32) (e_waiting : Nat → Int32) (e_waitingCount : Int32) : va_W :=
  wX0 cA xd vd sd nd hd td ed kd images errors fewest vspoon vmark vcount vbodies sbits slens snum ++ (wHc cA hd kd h_weight h_known h_hour h_swS h_swW h_waS h_spoons h_kind h_mark h_silver h_fresh h_texts h_tape h_tapeCount h_z h_waiting h_waitingCount ++ (wHc cA td kd t_weight t_known t_hour t_swS t_swW t_waS t_spoons t_kind t_mark t_silver t_fresh t_texts t_tape t_tapeCount t_z t_waiting t_waitingCount ++ (wHc cA ed kd e_weight e_known e_hour e_swS e_swW e_waS e_spoons e_kind e_mark e_silver e_fresh e_texts e_tape e_tapeCount e_z e_waiting e_waitingCount ++ wK cA kd)))
def wX (cA : Nat → ClassId) (xd : Nat → Nat) (vd : Nat → Nat) (sd : Nat → Nat) (nd : Nat → Nat) (hd : Nat → Nat) (td : Nat → Nat) (ed : Nat → Nat) (kd : Nat → Nat) (images : Int32) (errors : Nat → Int32) (fewest : Nat → Int32) (vspoon : Int32) (vmark : Int32) (vcount : Int32) (vbodies : Nat → Int32) (sbits : Nat → Int32) (slens : Nat → Int32) (snum : Nat → Nat → Int32) (h_weight : Nat → Int32) (h_known : Int32) (h_hour : Int32) (h_swS : Nat → Int32) (h_swW : Nat → Int32) (h_waS : Nat → Int32) (h_spoons : Int32) (h_kind : Nat → Int32) (h_mark : Nat → Int32) (h_silver : Nat → Int32) (h_fresh : Nat → Int64) (h_texts : Nat → Option Nat) (h_tape : Nat → Int32) (h_tapeCount : Int32) (h_z : Int32) (h_waiting : Nat → Int32) (h_waitingCount : Int32) (t_weight : Nat → Int32) (t_known : Int32) (t_hour : Int32) (t_swS : Nat → Int32) (t_swW : Nat → Int32) (t_waS : Nat → Int32) (t_spoons : Int32) (t_kind : Nat → Int32) (t_mark : Nat → Int32) (t_silver : Nat → Int32) (t_fresh : Nat → Int64) (t_texts : Nat → Option Nat) (t_tape : Nat → Int32) (t_tapeCount : Int32) (t_z : Int32) (t_waiting : Nat → Int32) (t_waitingCount : Int32) (e_weight : Nat → Int32) (e_known : Int32) (e_hour : Int32) (e_swS : Nat → Int32) (e_swW : Nat → Int32) (e_waS : Nat → Int32) (e_spoons : Int32) (e_kind : Nat → Int32) (e_mark : Nat → Int32) (e_silver : Nat → Int32) (e_fresh : Nat → Int64) (e_texts : Nat → Option Nat) (e_tape : Nat → Int32) (e_tapeCount : Int32) (e_z : Int32) (e_waiting : Nat → Int32) (e_waitingCount : Int32) (L : List Nat) (tx : Nat → TXc) (tst : Nat → Nat → Int32) : va_W := wXl cA xd vd sd nd hd td ed kd images errors fewest vspoon vmark vcount vbodies sbits slens snum h_weight h_known h_hour h_swS h_swW h_waS h_spoons h_kind h_mark h_silver h_fresh h_texts h_tape h_tapeCount h_z h_waiting h_waitingCount t_weight t_known t_hour t_swS t_swW t_waS t_spoons t_kind t_mark t_silver t_fresh t_texts t_tape t_tapeCount t_z t_waiting t_waitingCount e_weight e_known e_hour e_swS e_swW e_waS e_spoons e_kind e_mark e_silver e_fresh e_texts e_tape e_tapeCount e_z e_waiting e_waitingCount ++ wTx cA L tx tst
def wT (cA : Nat → ClassId) (G : Nat → Nat) (to : Nat) (tb : Nat) (tc : Nat) (ts : Nat) (nmi : Nat) (tn : Nat) (byt : Nat → Int32) (stk : Nat → Int32) (tat : Int32) (tlen : Int32) (tfault : Int32) (codes : Nat → Int32) : va_W :=
  [(to, .inr (9, [.ref tb, .ref (G nmi), .int tat, .ref tc, .int tlen, .ref ts, .int tfault])),
   (tb, .inl (cA 0, tn, .inl byt)),
   (tc, .inl (cA 0, tn, .inl codes)),
   (ts, .inl (cA 0, tn, .inl stk))]
def wO (ci : Nat) (o : Nat) : va_W := [(o, .inr (ci, []))]
def wVO (cA : Nat → ClassId) (ci : Nat) (o : Nat) (vd : Nat → Nat) (vspoon : Int32) (vmark : Int32) (vcount : Int32) (vbodies : Nat → Int32) : va_W :=
  [(o, .inr (ci, [])),
   (vd 0, .inr (10, [.int vspoon, .int vmark, .int vcount, .ref (vd 1)])),
   (vd 1, .inl (cA 0, 40, .inl vbodies))]
def wV (cA : Nat → ClassId) (vd : Nat → Nat) (vspoon : Int32) (vmark : Int32) (vcount : Int32) (vbodies : Nat → Int32) : va_W :=
  [(vd 0, .inr (10, [.int vspoon, .int vmark, .int vcount, .ref (vd 1)])),
   (vd 1, .inl (cA 0, 40, .inl vbodies))]
def wS (cA : Nat → ClassId) (sd : Nat) (nd : Nat) (sbits : Int32) (slen0 : Int32) (snum : Nat → Int32) : va_W :=
  [(sd, .inr (7, [.int sbits, .int slen0, .ref nd])),
   (nd, .inl (cA 0, 40, .inl snum))]
def wA (cA : Nat → ClassId) (a : Nat) (n : Nat) (arr : Nat → Int32) : va_W :=
  [(a, .inl (cA 0, n, .inl arr))]

/-- worlds by their leaves -/
def qxn (x0 : Nat) (x1 x2 x3 x4 x5 x6 x7 x8 x9 x10 x11 x12 x13 x14 x15 x16 x17 x18 : Value) (x19 : Int32) : va_W := [(x0, .inr (10, [x1, x2, x3, x4, x5, x6, x7, x8, x9, x10, x11, x12, x13, x14, x15, x16, x17, x18, .int x19]))]
def qayo (x0 x1 : Nat) (x2 x3 x4 : Value) (x5 x6 : Nat) (x7 : Value) (x8 x9 x10 : Nat) (x11 : ClassId) (x12 : NI) (x13 : Nat) (x14 : ClassId) (x15 : NI) : va_W := [(x0, .inr (1, [.ref x1, x2, x3, x4])), (x5, .inr (1, [.ref x6, x7, .ref x8, .ref x9])), (x10, .inl (x11, 64, .inl x12)), (x13, .inl (x14, 64, .inl x15))]
def qaLZ (x0 x1 : Nat) (x2 : Value) (x3 x4 x5 x6 : Nat) (x7 : Value) (x8 x9 x10 : Nat) (x11 : ClassId) (x12 : NI) (x13 : Nat) (x14 : ClassId) (x15 : NI) : va_W := [(x0, .inr (1, [.ref x1, x2, .ref x3, .ref x4])), (x5, .inr (1, [.ref x6, x7, .ref x8, .ref x9])), (x10, .inl (x11, 64, .inl x12)), (x13, .inl (x14, 64, .inl x15))]
def qbcU (x0 x1 : Nat) (x2 : Value) (x3 : Nat) (x4 : Value) (x5 x6 : Nat) (x7 : Value) (x8 x9 x10 : Nat) (x11 : ClassId) (x12 : NI) (x13 : Nat) (x14 : ClassId) (x15 : NI) : va_W := [(x0, .inr (1, [.ref x1, x2, .ref x3, x4])), (x5, .inr (1, [.ref x6, x7, .ref x8, .ref x9])), (x10, .inl (x11, 64, .inl x12)), (x13, .inl (x14, 64, .inl x15))]
def qaH (x0 x1 : Nat) (x2 x3 x4 : Value) (x5 : Nat) (x6 : ClassId) (x7 : NI) : va_W := [(x0, .inr (1, [.ref x1, x2, x3, x4])), (x5, .inl (x6, 64, .inl x7))]
def qad4 (x0 : Nat) (x1 x2 x3 x4 x5 x6 x7 x8 x9 x10 x11 : Value) (x12 : Int32) : va_W := [(x0, .inr (2, [x1, x2, x3, x4, x5, x6, x7, x8, x9, x10, x11, .int x12]))]
def qGf (x0 x1 : Nat) (x2 : Value) (x3 : Nat) (x4 : Value) (x5 : Nat) (x6 x7 x8 x9 x10 x11 x12 x13 x14 : Value) (x15 : Int32) (x16 : Value) (x17 : Int32) (x18 : Nat) (x19 : ClassId) (x20 : NI) : va_W := [(x0, .inr (1, [.ref x1, x2, .ref x3, x4])), (x5, .inr (2, [x6, x7, x8, x9, x10, x11, x12, x13, x14, .int x15, x16, .int x17])), (x18, .inl (x19, 64, .inl x20))]
def qafK (x0 x1 : Nat) (x2 : Value) (x3 : Nat) (x4 : Value) (x5 : Nat) (x6 : ClassId) (x7 : NI) : va_W := [(x0, .inr (1, [.ref x1, x2, .ref x3, x4])), (x5, .inl (x6, 64, .inl x7))]
def qaT4 (x0 : Nat) (x1 x2 x3 x4 x5 x6 x7 x8 x9 : Value) (x10 : Int32) (x11 : Value) (x12 : Int32) : va_W := [(x0, .inr (2, [x1, x2, x3, x4, x5, x6, x7, x8, x9, .int x10, x11, .int x12]))]
def qpO (x0 x1 : Nat) (x2 : Value) (x3 : Nat) (x4 : Value) (x5 : Nat) (x6 x7 x8 x9 x10 x11 x12 x13 x14 : Value) (x15 : Int32) (x16 x17 : Value) (x18 : Nat) (x19 : ClassId) (x20 : NI) : va_W := [(x0, .inr (1, [.ref x1, x2, .ref x3, x4])), (x5, .inr (2, [x6, x7, x8, x9, x10, x11, x12, x13, x14, .int x15, x16, x17])), (x18, .inl (x19, 64, .inl x20))]
def qeT (x0 x1 : Nat) (x2 : Value) (x3 : Nat) (x4 : Value) (x5 : Nat) (x6 x7 x8 x9 x10 : Value) (x11 : Nat) (x12 x13 x14 : Value) (x15 : Int32) (x16 : Value) (x17 : Int32) (x18 : Nat) (x19 : ClassId) (x20 : NI) (x21 : Nat) (x22 : ClassId) (x23 : NI) : va_W := [(x0, .inr (1, [.ref x1, x2, .ref x3, x4])), (x5, .inr (2, [x6, x7, x8, x9, x10, .ref x11, x12, x13, x14, .int x15, x16, .int x17])), (x18, .inl (x19, 64, .inl x20)), (x21, .inl (x22, 6, .inl x23))]
def qaSh (x0 x1 : Nat) (x2 : Value) (x3 : Nat) (x4 : Value) (x5 : Nat) (x6 x7 x8 x9 x10 : Value) (x11 : Nat) (x12 x13 x14 : Value) (x15 : Int32) (x16 : Value) (x17 : Int32) (x18 : Nat) (x19 : ClassId) (x20 : NI) : va_W := [(x0, .inr (1, [.ref x1, x2, .ref x3, x4])), (x5, .inr (2, [x6, x7, x8, x9, x10, .ref x11, x12, x13, x14, .int x15, x16, .int x17])), (x18, .inl (x19, 64, .inl x20))]
def qa8L (x0 : Nat) (x1 : ClassId) (x2 : NI) : va_W := [(x0, .inl (x1, 6, .inl x2))]
def qaaa (x0 : Nat) (x1 x2 x3 x4 x5 x6 x7 x8 : Value) (x9 x10 : Nat) (x11 x12 x13 x14 x15 x16 x17 x18 : Value) (x19 : Int32) (x20 x21 : Nat) (x22 : Value) (x23 x24 x25 x26 : Nat) (x27 : Value) (x28 x29 x30 : Nat) (x31 : ClassId) (x32 : NI) (x33 : Nat) (x34 : ClassId) (x35 : NI) (x36 : Nat) (x37 x38 x39 x40 x41 : Value) (x42 : Nat) (x43 x44 x45 : Value) (x46 : Int32) (x47 : Value) (x48 : Int32) (x49 : Nat) (x50 : ClassId) (x51 : NI) : va_W := [(x0, .inr (10, [x1, x2, x3, x4, x5, x6, x7, x8, .ref x9, .ref x10, x11, x12, x13, x14, x15, x16, x17, x18, .int x19])), (x20, .inr (1, [.ref x21, x22, .ref x23, .ref x24])), (x25, .inr (1, [.ref x26, x27, .ref x28, .ref x29])), (x30, .inl (x31, 64, .inl x32)), (x33, .inl (x34, 64, .inl x35)), (x36, .inr (2, [x37, x38, x39, x40, x41, .ref x42, x43, x44, x45, .int x46, x47, .int x48])), (x49, .inl (x50, 6, .inl x51))]
def qDw (x0 : Nat) (x1 x2 x3 x4 x5 x6 x7 x8 : Value) (x9 x10 : Nat) (x11 x12 x13 x14 x15 x16 x17 x18 : Value) (x19 : Int32) (x20 x21 : Nat) (x22 x23 x24 : Value) (x25 x26 : Nat) (x27 : Value) (x28 x29 x30 : Nat) (x31 : ClassId) (x32 : NI) (x33 : Nat) (x34 : ClassId) (x35 : NI) (x36 : Nat) (x37 x38 x39 x40 x41 : Value) (x42 : Nat) (x43 x44 x45 : Value) (x46 : Int32) (x47 : Value) (x48 : Int32) (x49 : Nat) (x50 : ClassId) (x51 : NI) : va_W := [(x0, .inr (10, [x1, x2, x3, x4, x5, x6, x7, x8, .ref x9, .ref x10, x11, x12, x13, x14, x15, x16, x17, x18, .int x19])), (x20, .inr (1, [.ref x21, x22, x23, x24])), (x25, .inr (1, [.ref x26, x27, .ref x28, .ref x29])), (x30, .inl (x31, 64, .inl x32)), (x33, .inl (x34, 64, .inl x35)), (x36, .inr (2, [x37, x38, x39, x40, x41, .ref x42, x43, x44, x45, .int x46, x47, .int x48])), (x49, .inl (x50, 6, .inl x51))]
def qaPm (x0 x1 : Nat) (x2 : Value) (x3 x4 x5 : Nat) (x6 : ClassId) (x7 : NI) : va_W := [(x0, .inr (1, [.ref x1, x2, .ref x3, .ref x4])), (x5, .inl (x6, 64, .inl x7))]
def qa9p (x0 : Nat) (x1 x2 x3 x4 x5 x6 x7 x8 : Value) (x9 x10 : Nat) (x11 x12 x13 x14 x15 x16 x17 x18 : Value) (x19 : Int32) (x20 x21 : Nat) (x22 : Value) (x23 x24 x25 : Nat) (x26 : ClassId) (x27 : NI) (x28 : Nat) (x29 x30 x31 x32 x33 : Value) (x34 : Nat) (x35 x36 x37 : Value) (x38 : Int32) (x39 : Value) (x40 : Int32) (x41 : Nat) (x42 : ClassId) (x43 : NI) : va_W := [(x0, .inr (10, [x1, x2, x3, x4, x5, x6, x7, x8, .ref x9, .ref x10, x11, x12, x13, x14, x15, x16, x17, x18, .int x19])), (x20, .inr (1, [.ref x21, x22, .ref x23, .ref x24])), (x25, .inl (x26, 64, .inl x27)), (x28, .inr (2, [x29, x30, x31, x32, x33, .ref x34, x35, x36, x37, .int x38, x39, .int x40])), (x41, .inl (x42, 6, .inl x43))]
def qa5v (x0 x1 : Nat) (x2 : Value) (x3 x4 x5 : Nat) (x6 x7 x8 x9 x10 : Value) (x11 : Nat) (x12 x13 x14 : Value) (x15 : Int32) (x16 : Value) (x17 : Int32) (x18 : Nat) (x19 : ClassId) (x20 : NI) : va_W := [(x0, .inr (1, [.ref x1, x2, .ref x3, .ref x4])), (x5, .inr (2, [x6, x7, x8, x9, x10, .ref x11, x12, x13, x14, .int x15, x16, .int x17])), (x18, .inl (x19, 64, .inl x20))]
def qa3R (x0 x1 : Nat) (x2 : Value) (x3 x4 x5 : Nat) (x6 x7 x8 x9 x10 : Value) (x11 : Nat) (x12 x13 x14 : Value) (x15 : Int32) (x16 : Value) (x17 : Int32) (x18 : Nat) (x19 : ClassId) (x20 : NI) (x21 : Nat) (x22 : ClassId) (x23 : NI) : va_W := [(x0, .inr (1, [.ref x1, x2, .ref x3, .ref x4])), (x5, .inr (2, [x6, x7, x8, x9, x10, .ref x11, x12, x13, x14, .int x15, x16, .int x17])), (x18, .inl (x19, 64, .inl x20)), (x21, .inl (x22, 6, .inl x23))]
def qak6 (x0 : Nat) (x1 x2 x3 x4 x5 x6 x7 x8 : Value) (x9 x10 : Nat) (x11 x12 x13 x14 x15 x16 x17 x18 : Value) (x19 : Int32) : va_W := [(x0, .inr (10, [x1, x2, x3, x4, x5, x6, x7, x8, .ref x9, .ref x10, x11, x12, x13, x14, x15, x16, x17, x18, .int x19]))]
def qaPQ (x0 x1 : Nat) (x2 x3 x4 : Value) (x5 x6 : Nat) (x7 : Value) (x8 x9 x10 : Nat) (x11 : ClassId) (x12 : NI) (x13 : Nat) (x14 : ClassId) (x15 : NI) (x16 : Nat) (x17 x18 x19 x20 x21 : Value) (x22 : Nat) (x23 x24 x25 : Value) (x26 : Int32) (x27 : Value) (x28 : Int32) (x29 : Nat) (x30 : ClassId) (x31 : NI) : va_W := [(x0, .inr (1, [.ref x1, x2, x3, x4])), (x5, .inr (1, [.ref x6, x7, .ref x8, .ref x9])), (x10, .inl (x11, 64, .inl x12)), (x13, .inl (x14, 64, .inl x15)), (x16, .inr (2, [x17, x18, x19, x20, x21, .ref x22, x23, x24, x25, .int x26, x27, .int x28])), (x29, .inl (x30, 6, .inl x31))]
def qMM (x0 : Nat) (x1 : Value) (x2 : Nat) (x3 : Value) (x4 : Nat) (x5 x6 x7 x8 : Value) (x9 x10 : Nat) (x11 x12 x13 x14 x15 x16 x17 x18 : Value) (x19 : Int32) (x20 x21 : Nat) (x22 x23 x24 : Value) (x25 x26 : Nat) (x27 : Value) (x28 x29 x30 : Nat) (x31 : ClassId) (x32 : NI) (x33 : Nat) (x34 : ClassId) (x35 : NI) (x36 : Nat) (x37 x38 x39 x40 x41 : Value) (x42 : Nat) (x43 x44 x45 : Value) (x46 : Int32) (x47 : Value) (x48 : Int32) (x49 : Nat) (x50 : ClassId) (x51 : NI) (x52 : Nat) (x53 : ClassId) (x54 : Nat) (x55 : Nat → Int64) : va_W := [(x0, .inr (10, [x1, .ref x2, x3, .ref x4, x5, x6, x7, x8, .ref x9, .ref x10, x11, x12, x13, x14, x15, x16, x17, x18, .int x19])), (x20, .inr (1, [.ref x21, x22, x23, x24])), (x25, .inr (1, [.ref x26, x27, .ref x28, .ref x29])), (x30, .inl (x31, 64, .inl x32)), (x33, .inl (x34, 64, .inl x35)), (x36, .inr (2, [x37, x38, x39, x40, x41, .ref x42, x43, x44, x45, .int x46, x47, .int x48])), (x49, .inl (x50, 6, .inl x51)), (x52, .inl (x53, x54, .inr (.inl x55)))]
def qaXm (x0 : Nat) (x1 : Value) (x2 : Nat) (x3 : Value) (x4 : Nat) (x5 x6 x7 x8 : Value) (x9 x10 : Nat) (x11 x12 x13 x14 x15 x16 x17 x18 : Value) (x19 : Int32) (x20 x21 : Nat) (x22 x23 x24 : Value) (x25 x26 : Nat) (x27 : Value) (x28 x29 x30 : Nat) (x31 : ClassId) (x32 : NI) (x33 : Nat) (x34 : ClassId) (x35 : NI) (x36 : Nat) (x37 x38 x39 x40 x41 : Value) (x42 : Nat) (x43 x44 x45 : Value) (x46 : Int32) (x47 : Value) (x48 : Int32) (x49 : Nat) (x50 : ClassId) (x51 : NI) : va_W := [(x0, .inr (10, [x1, .ref x2, x3, .ref x4, x5, x6, x7, x8, .ref x9, .ref x10, x11, x12, x13, x14, x15, x16, x17, x18, .int x19])), (x20, .inr (1, [.ref x21, x22, x23, x24])), (x25, .inr (1, [.ref x26, x27, .ref x28, .ref x29])), (x30, .inl (x31, 64, .inl x32)), (x33, .inl (x34, 64, .inl x35)), (x36, .inr (2, [x37, x38, x39, x40, x41, .ref x42, x43, x44, x45, .int x46, x47, .int x48])), (x49, .inl (x50, 6, .inl x51))]
def qvU (x0 : Nat) (x1 : Value) (x2 x3 x4 x5 x6 x7 : Int32) : va_W := [(x0, .inr (8, [x1, .int x2, .int x3, .int x4, .int x5, .int x6, .int x7]))]
def qJJ (x0 x1 : Nat) (x2 x3 x4 x5 x6 x7 x8 x9 x10 x11 x12 x13 x14 x15 x16 x17 x18 : Value) (x19 : Int32) (x20 : Nat) (x21 : Value) (x22 x23 x24 x25 x26 x27 : Int32) : va_W := [(x0, .inr (10, [.ref x1, x2, x3, x4, x5, x6, x7, x8, x9, x10, x11, x12, x13, x14, x15, x16, x17, x18, .int x19])), (x20, .inr (8, [x21, .int x22, .int x23, .int x24, .int x25, .int x26, .int x27]))]
def qaNM (x0 x1 : Nat) (x2 x3 x4 x5 x6 x7 x8 x9 x10 x11 x12 x13 x14 x15 x16 x17 x18 : Value) (x19 : Int32) : va_W := [(x0, .inr (10, [.ref x1, x2, x3, x4, x5, x6, x7, x8, x9, x10, x11, x12, x13, x14, x15, x16, x17, x18, .int x19]))]
def qwj (x0 x1 : Nat) (x2 : Int32) (x3 : Nat) (x4 : ClassId) (x5 : NI) : va_W := [(x0, .inr (0, [.ref x1, .int x2])), (x3, .inl (x4, 8, .inl x5))]
def qabN (x0 : Nat) (x1 x2 x3 x4 x5 : Value) (x6 : Int32) (x7 : Value) : va_W := [(x0, .inr (8, [x1, x2, x3, x4, x5, .int x6, x7]))]
def qwl (x0 x1 : Nat) (x2 x3 : Int32) (x4 x5 x6 x7 : Value) (x8 : Nat) (x9 : ClassId) (x10 : NI) : va_W := [(x0, .inr (8, [.ref x1, .int x2, .int x3, x4, x5, x6, x7])), (x8, .inl (x9, 600, .inl x10))]
def qabG (x0 x1 : Nat) (x2 : Int32) (x3 x4 x5 x6 x7 : Value) (x8 : Nat) (x9 : ClassId) (x10 : NI) : va_W := [(x0, .inr (8, [.ref x1, .int x2, x3, x4, x5, x6, x7])), (x8, .inl (x9, 600, .inl x10))]
def qPr (x0 : Nat) (x1 x2 x3 x4 x5 : Value) (x6 x7 : Int32) : va_W := [(x0, .inr (8, [x1, x2, x3, x4, x5, .int x6, .int x7]))]
def qdK (x0 x1 : Nat) (x2 x3 x4 : Int32) (x5 : Value) (x6 x7 : Int32) (x8 : Nat) (x9 : ClassId) (x10 : NI) : va_W := [(x0, .inr (8, [.ref x1, .int x2, .int x3, .int x4, x5, .int x6, .int x7])), (x8, .inl (x9, 600, .inl x10))]
def qM7 (x0 x1 : Nat) (x2 x3 x4 : Int32) (x5 : Value) (x6 x7 : Int32) : va_W := [(x0, .inr (8, [.ref x1, .int x2, .int x3, .int x4, x5, .int x6, .int x7]))]
def qaxB (x0 : Nat) (x1 : ClassId) (x2 : NI) : va_W := [(x0, .inl (x1, 600, .inl x2))]
def qaal (x0 x1 : Nat) (x2 : Value) (x3 : Nat) (x4 : ClassId) (x5 : NI) : va_W := [(x0, .inr (0, [.ref x1, x2])), (x3, .inl (x4, 8, .inl x5))]
def qUp (x0 : Nat) (x1 x2 x3 : Value) (x4 : Int32) (x5 : Value) (x6 x7 : Int32) : va_W := [(x0, .inr (8, [x1, x2, x3, .int x4, x5, .int x6, .int x7]))]
def qFe (x0 x1 : Nat) (x2 x3 x4 : Int32) (x5 : Value) (x6 : Int32) (x7 : Value) (x8 : Nat) (x9 : ClassId) (x10 : NI) : va_W := [(x0, .inr (8, [.ref x1, .int x2, .int x3, .int x4, x5, .int x6, x7])), (x8, .inl (x9, 600, .inl x10))]
def qa6o (x0 x1 : Nat) (x2 x3 x4 : Int32) (x5 : Value) (x6 : Int32) (x7 : Value) : va_W := [(x0, .inr (8, [.ref x1, .int x2, .int x3, .int x4, x5, .int x6, x7]))]
def qPM (x0 x1 : Nat) (x2 x3 : Int32) (x4 x5 : Value) (x6 x7 : Int32) (x8 : Nat) (x9 : ClassId) (x10 : NI) : va_W := [(x0, .inr (8, [.ref x1, .int x2, .int x3, x4, x5, .int x6, .int x7])), (x8, .inl (x9, 600, .inl x10))]
def qa8E (x0 x1 : Nat) (x2 x3 : Int32) (x4 x5 : Value) (x6 x7 : Int32) : va_W := [(x0, .inr (8, [.ref x1, .int x2, .int x3, x4, x5, .int x6, .int x7]))]
def qu8 (x0 x1 : Nat) (x2 : Int32) (x3 x4 : Nat) (x5 x6 x7 : Int32) (x8 : Value) (x9 x10 : Int32) (x11 : Nat) (x12 : ClassId) (x13 : NI) (x14 : Nat) (x15 : ClassId) (x16 : NI) : va_W := [(x0, .inr (0, [.ref x1, .int x2])), (x3, .inr (8, [.ref x4, .int x5, .int x6, .int x7, x8, .int x9, .int x10])), (x11, .inl (x12, 600, .inl x13)), (x14, .inl (x15, 8, .inl x16))]
def qa6n (x0 x1 : Nat) (x2 : Int32) (x3 : Nat) (x4 : ClassId) (x5 : NI) (x6 : Nat) (x7 : ClassId) (x8 : NI) : va_W := [(x0, .inr (0, [.ref x1, .int x2])), (x3, .inl (x4, 600, .inl x5)), (x6, .inl (x7, 8, .inl x8))]
def qGR (x0 x1 : Nat) (x2 : Int32) (x3 : Nat) (x4 : ClassId) (x5 : NI) (x6 x7 : Nat) (x8 x9 x10 : Int32) (x11 : Value) (x12 x13 : Int32) (x14 : Nat) (x15 : ClassId) (x16 : NI) : va_W := [(x0, .inr (0, [.ref x1, .int x2])), (x3, .inl (x4, 8, .inl x5)), (x6, .inr (8, [.ref x7, .int x8, .int x9, .int x10, x11, .int x12, .int x13])), (x14, .inl (x15, 600, .inl x16))]
def qBY (x0 x1 x2 : Nat) (x3 x4 x5 : Value) (x6 x7 : Nat) (x8 x9 x10 x11 x12 x13 x14 x15 x16 x17 x18 : Value) (x19 : Int32) (x20 x21 : Nat) (x22 x23 x24 x25 x26 x27 : Int32) (x28 : Nat) (x29 x30 x31 x32 x33 x34 x35 x36 : Value) (x37 : Int32) (x38 x39 x40 : Value) (x41 x42 : Nat) (x43 : Int32) (x44 : Nat) (x45 : ClassId) (x46 : NI) (x47 : Nat) (x48 : ClassId) (x49 : NI) : va_W := [(x0, .inr (10, [.ref x1, .ref x2, x3, x4, x5, .ref x6, .ref x7, x8, x9, x10, x11, x12, x13, x14, x15, x16, x17, x18, .int x19])), (x20, .inr (8, [.ref x21, .int x22, .int x23, .int x24, .int x25, .int x26, .int x27])), (x28, .inr (2, [x29, x30, x31, x32, x33, x34, x35, x36, .int x37, x38, x39, x40])), (x41, .inr (0, [.ref x42, .int x43])), (x44, .inl (x45, 8, .inl x46)), (x47, .inl (x48, 600, .inl x49))]
def qaMT (x0 x1 x2 : Nat) (x3 x4 x5 x6 x7 x8 x9 x10 x11 x12 x13 x14 x15 x16 x17 x18 : Value) (x19 : Int32) (x20 x21 : Nat) (x22 x23 x24 x25 x26 x27 : Int32) (x28 : Nat) (x29 x30 x31 x32 x33 x34 x35 x36 : Value) (x37 : Int32) (x38 x39 x40 : Value) (x41 x42 : Nat) (x43 : Int32) (x44 : Nat) (x45 : ClassId) (x46 : NI) (x47 : Nat) (x48 : ClassId) (x49 : NI) : va_W := [(x0, .inr (10, [.ref x1, .ref x2, x3, x4, x5, x6, x7, x8, x9, x10, x11, x12, x13, x14, x15, x16, x17, x18, .int x19])), (x20, .inr (8, [.ref x21, .int x22, .int x23, .int x24, .int x25, .int x26, .int x27])), (x28, .inr (2, [x29, x30, x31, x32, x33, x34, x35, x36, .int x37, x38, x39, x40])), (x41, .inr (0, [.ref x42, .int x43])), (x44, .inl (x45, 8, .inl x46)), (x47, .inl (x48, 600, .inl x49))]
def qaW9 (x0 x1 x2 : Nat) (x3 x4 x5 : Value) (x6 x7 : Nat) (x8 x9 x10 x11 x12 x13 x14 x15 x16 x17 x18 : Value) (x19 : Int32) (x20 x21 : Nat) (x22 x23 x24 x25 x26 x27 : Int32) : va_W := [(x0, .inr (10, [.ref x1, .ref x2, x3, x4, x5, .ref x6, .ref x7, x8, x9, x10, x11, x12, x13, x14, x15, x16, x17, x18, .int x19])), (x20, .inr (8, [.ref x21, .int x22, .int x23, .int x24, .int x25, .int x26, .int x27]))]
def qa3h (x0 : Nat) (x1 x2 x3 x4 x5 x6 x7 x8 : Value) (x9 : Int32) (x10 x11 x12 : Value) (x13 x14 : Nat) (x15 : Int32) (x16 : Nat) (x17 : ClassId) (x18 : NI) (x19 : Nat) (x20 : ClassId) (x21 : NI) : va_W := [(x0, .inr (2, [x1, x2, x3, x4, x5, x6, x7, x8, .int x9, x10, x11, x12])), (x13, .inr (0, [.ref x14, .int x15])), (x16, .inl (x17, 8, .inl x18)), (x19, .inl (x20, 600, .inl x21))]
def qa5E (x0 x1 : Nat) (x2 : Int32) (x3 : Nat) (x4 : ClassId) (x5 : NI) (x6 x7 : Nat) (x8 x9 x10 x11 x12 x13 : Int32) (x14 : Nat) (x15 : ClassId) (x16 : NI) : va_W := [(x0, .inr (0, [.ref x1, .int x2])), (x3, .inl (x4, 8, .inl x5)), (x6, .inr (8, [.ref x7, .int x8, .int x9, .int x10, .int x11, .int x12, .int x13])), (x14, .inl (x15, 600, .inl x16))]
def qa6f (x0 x1 : Nat) (x2 x3 x4 x5 x6 x7 : Int32) : va_W := [(x0, .inr (8, [.ref x1, .int x2, .int x3, .int x4, .int x5, .int x6, .int x7]))]
def qanj (x0 x1 x2 : Nat) (x3 x4 x5 : Value) (x6 x7 : Nat) (x8 x9 x10 x11 x12 x13 x14 x15 x16 x17 x18 : Value) (x19 : Int32) (x20 x21 : Nat) (x22 x23 x24 x25 x26 x27 : Int32) (x28 : Nat) (x29 x30 x31 x32 x33 x34 x35 x36 : Value) (x37 : Int32) (x38 x39 x40 : Value) (x41 x42 : Nat) (x43 : Int32) (x44 : Nat) (x45 : ClassId) (x46 : NI) (x47 : Nat) (x48 : ClassId) (x49 : NI) (x50 : Nat) (x51 : ClassId) (x52 : Nat) (x53 : Nat → Int64) : va_W := [(x0, .inr (10, [.ref x1, .ref x2, x3, x4, x5, .ref x6, .ref x7, x8, x9, x10, x11, x12, x13, x14, x15, x16, x17, x18, .int x19])), (x20, .inr (8, [.ref x21, .int x22, .int x23, .int x24, .int x25, .int x26, .int x27])), (x28, .inr (2, [x29, x30, x31, x32, x33, x34, x35, x36, .int x37, x38, x39, x40])), (x41, .inr (0, [.ref x42, .int x43])), (x44, .inl (x45, 8, .inl x46)), (x47, .inl (x48, 600, .inl x49)), (x50, .inl (x51, x52, .inr (.inl x53)))]
def qajT (x0 x1 x2 : Nat) (x3 x4 x5 x6 x7 x8 x9 x10 x11 x12 x13 x14 x15 x16 x17 x18 : Value) (x19 : Int32) (x20 x21 : Nat) (x22 x23 x24 x25 x26 x27 : Int32) (x28 : Nat) (x29 x30 x31 x32 x33 x34 x35 x36 : Value) (x37 : Int32) (x38 x39 x40 : Value) (x41 x42 : Nat) (x43 : Int32) (x44 : Nat) (x45 : ClassId) (x46 : NI) (x47 : Nat) (x48 : ClassId) (x49 : NI) (x50 : Nat) (x51 : ClassId) (x52 : Nat) (x53 : Nat → Int64) : va_W := [(x0, .inr (10, [.ref x1, .ref x2, x3, x4, x5, x6, x7, x8, x9, x10, x11, x12, x13, x14, x15, x16, x17, x18, .int x19])), (x20, .inr (8, [.ref x21, .int x22, .int x23, .int x24, .int x25, .int x26, .int x27])), (x28, .inr (2, [x29, x30, x31, x32, x33, x34, x35, x36, .int x37, x38, x39, x40])), (x41, .inr (0, [.ref x42, .int x43])), (x44, .inl (x45, 8, .inl x46)), (x47, .inl (x48, 600, .inl x49)), (x50, .inl (x51, x52, .inr (.inl x53)))]
def qHt (x0 : Nat) (x1 : Value) (x2 : Nat) (x3 x4 x5 x6 x7 x8 x9 x10 x11 x12 x13 x14 x15 x16 x17 : Value) (x18 : Int32) (x19 : Value) (x20 : Nat) (x21 x22 x23 x24 x25 x26 x27 x28 x29 : Value) (x30 : Int32) (x31 x32 : Value) : va_W := [(x0, .inr (10, [x1, .ref x2, x3, x4, x5, x6, x7, x8, x9, x10, x11, x12, x13, x14, x15, x16, x17, .int x18, x19])), (x20, .inr (2, [x21, x22, x23, x24, x25, x26, x27, x28, x29, .int x30, x31, x32]))]
theorem qTU : (.constant RJ6 265 (1431655765) : Cond) ∈ wsJ6_bitCount_0f7a4 := qFO 1805 (by decide +kernel)
theorem qD3 : (.constant RJ6 266 (858993459) : Cond) ∈ wsJ6_bitCount_0f7a4 := qFO 1806 (by decide +kernel)
theorem qUi : (.constant RJ6 267 (252645135) : Cond) ∈ wsJ6_bitCount_0f7a4 := qFO 1807 (by decide +kernel)
set_option maxHeartbeats 4000000 in
set_option maxRecDepth 100000 in
theorem qxT (l : Launch) (dC : Nat → ClassId) (dI : Nat → Nat → Nat) (cyB cyI cyJ cyP : ClassId) (sz : Nat) (p0 : Int32) {Q : Int32 → Prop} (hw : qos p0 Q) : Met l yJ6_bitCount_0f7a4 wsJ6_bitCount_0f7a4 ({ frames := 0, cells := 0, slots := 0, locals := 0 }) (va_Pc [.int p0] (cPc (dC, dI) (kT cyB cyI cyJ cyP) [] sz)) (va_Qi (fun (r : Int32) (_ : Unit) => Q r ) (cB (dC, dI) (kT cyB cyI cyJ cyP) (va_A [] sz) (fun u : Unit => ([] : va_W))) (va_A [] sz)) 0 0 (va_A [] sz) := by
  refine Met.ofW (cc := cJ6_bitCount_0f7a4) (maxL := 1) (ret := (some .int)) (by decide) rfl ?_
  intro p e s m args below meth c s₁ B hml hv
  obtain ⟨rfl, hsz, hP, hK, hD0, hNw⟩ := hv
  have hx := B.exec
  have hb := B.bytes
  have hr := B.returns
  have hts := atoms_spec (ws := wsJ6_bitCount_0f7a4) B.pre
  have hown : s.vm.findClass RJ6 = some m.cls := findClass_of_methodNamed B.named
  have hlocks := B.notSynchronized
  subst hsz
  have hD := hD0.self (sz := s.heap.size)
  generalize hAe : va_A [] s.heap.size = A at hD ⊢
  have hA : ∀ q : Nat, s.heap.size ≤ q → A q := fun q h => by rw [← hAe]; exact Or.inr h
  have hS : va_S A s.heap s.heap [] := va_S.rf
  have hP : va_P (dC, dI) vwCl [] s.heap := hP
  have hl := lv_entry ([.int p0]) (n := 1) (nbq rfl)
  rw [lg_entry_eq]
  generalize (lg_sl ([.int p0]) ++ List.replicate (1 - (lg_sl ([.int p0])).length) Slot.unset).toArray = ls at hl ⊢
  have hl : lv_has ls 1 [(0, .int p0)] := hl
  have C0 : cfx p s m _ meth c cJ6_bitCount_0f7a4 (some .int) wsJ6_bitCount_0f7a4 RJ6 1 A (dC, dI) (kT cyB cyI cyJ cyP) := ⟨hx, hb, hr, hts, hown, hlocks, hml, hA, hK, hNw⟩
  clear hAe
  obtain ⟨H, hH⟩ : ∃ H, H = s.heap := ⟨_, rfl⟩
  rw [← hH] at hP ⊢
  have hS : va_S A s.heap H [] := by rw [hH]; exact va_S.rf
  have hS := hS
  refine lv_iload_n hx hb (qaa qbY 0 rfl) rfl (lv_at hl 0 rfl) ?_
  refine lv_iload_n hx hb (qaa qbY 1 rfl) rfl (lv_at hl 0 rfl) ?_
  refine lv_iconst (v := 1) hx hb (qaa qbY 2 rfl) (by decide) ?_
  refine lv_iushr (v := (p0.toUInt32 >>> ((1 : Int32).toUInt32 &&& Int32.toUInt32 31)).toInt32) hx hb (qaa qbY 3 rfl) rfl ?_
  refine lv_topi (fun x1 ex1 => ?_)
  have hw := hw x1 ex1
  refine lv_ldcw (v := 1431655765) hx hb hown (hts _ qTU) (qaa qbY 4 rfl) ?_
  refine lv_iand hx hb (qaa qbY 5 rfl) ?_
  refine lv_isub hx hb (qaa qbY 6 rfl) ?_
  refine lv_topi (fun x2 ex2 => ?_)
  have hw := hw x2 ex2
  refine lv_istore_n (lv' := [(0, .int x2)]) hx hb (qaa qbY 7 rfl) rfl hl (by decide) rfl (fun ls hl => ?_)
  refine lv_iload_n hx hb (qaa qbY 8 rfl) rfl (lv_at hl 0 rfl) ?_
  refine lv_ldcw (v := 858993459) hx hb hown (hts _ qD3) (qaa qbY 9 rfl) ?_
  refine lv_iand hx hb (qaa qbY 10 rfl) ?_
  refine lv_iload_n hx hb (qaa qbY 11 rfl) rfl (lv_at hl 0 rfl) ?_
  refine lv_iconst (v := 2) hx hb (qaa qbY 12 rfl) (by decide) ?_
  refine lv_iushr (v := (x2.toUInt32 >>> ((2 : Int32).toUInt32 &&& Int32.toUInt32 31)).toInt32) hx hb (qaa qbY 13 rfl) rfl ?_
  refine lv_topi (fun x3 ex3 => ?_)
  have hw := hw x3 ex3
  refine lv_ldcw (v := 858993459) hx hb hown (hts _ qD3) (qaa qbY 14 rfl) ?_
  refine lv_iand hx hb (qaa qbY 15 rfl) ?_
  refine lv_iadd hx hb (qaa qbS 0 rfl) ?_
  refine lv_topi (fun x4 ex4 => ?_)
  have hw := hw x4 ex4
  refine lv_istore_n (lv' := [(0, .int x4)]) hx hb (qaa qbS 1 rfl) rfl hl (by decide) rfl (fun ls hl => ?_)
  refine lv_iload_n hx hb (qaa qbS 2 rfl) rfl (lv_at hl 0 rfl) ?_
  refine lv_iload_n hx hb (qaa qbS 3 rfl) rfl (lv_at hl 0 rfl) ?_
  refine lv_iconst (v := 4) hx hb (qaa qbS 4 rfl) (by decide) ?_
  refine lv_iushr (v := (x4.toUInt32 >>> ((4 : Int32).toUInt32 &&& Int32.toUInt32 31)).toInt32) hx hb (qaa qbS 5 rfl) rfl ?_
  refine lv_topi (fun x5 ex5 => ?_)
  have hw := hw x5 ex5
  refine lv_iadd hx hb (qaa qbS 6 rfl) ?_
  refine lv_ldcw (v := 252645135) hx hb hown (hts _ qUi) (qaa qbS 7 rfl) ?_
  refine lv_iand hx hb (qaa qbS 8 rfl) ?_
  refine lv_topi (fun x6 ex6 => ?_)
  have hw := hw x6 ex6
  refine lv_istore_n (lv' := [(0, .int x6)]) hx hb (qaa qbS 9 rfl) rfl hl (by decide) rfl (fun ls hl => ?_)
  refine lv_iload_n hx hb (qaa qbS 10 rfl) rfl (lv_at hl 0 rfl) ?_
  refine lv_iload_n hx hb (qaa qbS 11 rfl) rfl (lv_at hl 0 rfl) ?_
  refine lv_bipush (v := 8) hx hb (qaa qbS 12 rfl) (by decide) ?_
  refine lv_iushr (v := (x6.toUInt32 >>> ((8 : Int32).toUInt32 &&& Int32.toUInt32 31)).toInt32) hx hb (qaa qbS 13 rfl) rfl ?_
  refine lv_topi (fun x7 ex7 => ?_)
  have hw := hw x7 ex7
  refine lv_iadd hx hb (qaa qbS 14 rfl) ?_
  refine lv_topi (fun x8 ex8 => ?_)
  have hw := hw x8 ex8
  refine lv_istore_n (lv' := [(0, .int x8)]) hx hb (qaa qbS 15 rfl) rfl hl (by decide) rfl (fun ls hl => ?_)
  refine lv_iload_n hx hb (qaa qgb 0 rfl) rfl (lv_at hl 0 rfl) ?_
  refine lv_iload_n hx hb (qaa qgb 1 rfl) rfl (lv_at hl 0 rfl) ?_
  refine lv_bipush (v := 16) hx hb (qaa qgb 2 rfl) (by decide) ?_
  refine lv_iushr (v := (x8.toUInt32 >>> ((16 : Int32).toUInt32 &&& Int32.toUInt32 31)).toInt32) hx hb (qaa qgb 3 rfl) rfl ?_
  refine lv_topi (fun x9 ex9 => ?_)
  have hw := hw x9 ex9
  refine lv_iadd hx hb (qaa qgb 4 rfl) ?_
  refine lv_topi (fun x10 ex10 => ?_)
  have hw := hw x10 ex10
  refine lv_istore_n (lv' := [(0, .int x10)]) hx hb (qaa qgb 5 rfl) rfl hl (by decide) rfl (fun ls hl => ?_)
  refine lv_iload_n hx hb (qaa qgb 6 rfl) rfl (lv_at hl 0 rfl) ?_
  refine lv_bipush (v := 63) hx hb (qaa qgb 7 rfl) (by decide) ?_
  refine lv_iand hx hb (qaa qgb 8 rfl) ?_
  exact ((W.iret (v := (x10 &&& 63)) hx hb hr (fun t ht hW => ⟨⟨(x10 &&& 63), (), rfl, hw, by rw [ht]; exact hP, va_K.moved hW.alike hK, hD⟩, hS.F ht⟩) hS.2.2 (qaa qgb 9 rfl)))
set_option maxHeartbeats 4000000 in
set_option maxRecDepth 100000 in
theorem qzJ (l : Launch) (dC : Nat → ClassId) (dI : Nat → Nat → Nat) (cyB cyI cyJ cyP : ClassId) (sz : Nat) (p0 p1 p2 : Int32) {Q : Int32 → Prop} (hw : qqR p0 p1 p2 Q) : Met l yX10_within wsX10_within ({ frames := 0, cells := 0, slots := 0, locals := 0 }) (va_Pc [.int p0, .int p1, .int p2] (cPc (dC, dI) (kT cyB cyI cyJ cyP) [] sz)) (va_Qi (fun (r : Int32) (_ : Unit) => Q r ) (cB (dC, dI) (kT cyB cyI cyJ cyP) (va_A [] sz) (fun u : Unit => ([] : va_W))) (va_A [] sz)) 0 0 (va_A [] sz) := by
  refine Met.ofW (cc := cX10_within) (maxL := 3) (ret := (some .boolean)) (by decide) rfl ?_
  intro p e s m args below meth c s₁ B hml hv
  obtain ⟨rfl, hsz, hP, hK, hD0, hNw⟩ := hv
  have hx := B.exec
  have hb := B.bytes
  have hr := B.returns
  have hts := atoms_spec (ws := wsX10_within) B.pre
  have hown : s.vm.findClass RX10 = some m.cls := findClass_of_methodNamed B.named
  have hlocks := B.notSynchronized
  subst hsz
  have hD := hD0.self (sz := s.heap.size)
  generalize hAe : va_A [] s.heap.size = A at hD ⊢
  have hA : ∀ q : Nat, s.heap.size ≤ q → A q := fun q h => by rw [← hAe]; exact Or.inr h
  have hS : va_S A s.heap s.heap [] := va_S.rf
  have hP : va_P (dC, dI) vwCl [] s.heap := hP
  have hl := lv_entry ([.int p0, .int p1, .int p2]) (n := 3) (nbq rfl)
  rw [lg_entry_eq]
  generalize (lg_sl ([.int p0, .int p1, .int p2]) ++ List.replicate (3 - (lg_sl ([.int p0, .int p1, .int p2])).length) Slot.unset).toArray = ls at hl ⊢
  have hl : lv_has ls 3 [(0, .int p0), (1, .int p1), (2, .int p2)] := hl
  have C0 : cfx p s m _ meth c cX10_within (some .boolean) wsX10_within RX10 3 A (dC, dI) (kT cyB cyI cyJ cyP) := ⟨hx, hb, hr, hts, hown, hlocks, hml, hA, hK, hNw⟩
  clear hAe
  obtain ⟨H, hH⟩ : ∃ H, H = s.heap := ⟨_, rfl⟩
  rw [← hH] at hP ⊢
  have hS : va_S A s.heap H [] := by rw [hH]; exact va_S.rf
  have hS := hS
  refine lv_iload_n hx hb (qaa qm7 0 rfl) rfl (lv_at hl 0 rfl) ?_
  refine lv_iload_n hx hb (qaa qm7 1 rfl) rfl (lv_at hl 1 rfl) ?_
  refine lv_icmp_lt (tgt := 14) hx hb (qaa qm7 2 rfl) (by decide) (fun c1 => ?_) (fun c1 => ?_)
  · have hw := hw.1 c1
    refine lv_iconst (v := 0) hx hb (qaa qm7 8 rfl) (by decide) ?_
    exact ((W.zret (v := 0) hx hb hr rfl (fun t ht hW => ⟨⟨0, (), rfl, hw, by rw [ht]; exact hP, va_K.moved hW.alike hK, hD⟩, hS.F ht⟩) hS.2.2 (qaa qm7 9 rfl)))
  · have hw := hw.2 c1
    refine lv_iload_n hx hb (qaa qm7 3 rfl) rfl (lv_at hl 0 rfl) ?_
    refine lv_iload_n hx hb (qaa qm7 4 rfl) rfl (lv_at hl 2 rfl) ?_
    refine lv_icmp_gt (tgt := 14) hx hb (qaa qm7 5 rfl) (by decide) (fun c2 => ?_) (fun c2 => ?_)
    · have hw := hw.1 c2
      refine lv_iconst (v := 0) hx hb (qaa qm7 8 rfl) (by decide) ?_
      exact ((W.zret (v := 0) hx hb hr rfl (fun t ht hW => ⟨⟨0, (), rfl, hw, by rw [ht]; exact hP, va_K.moved hW.alike hK, hD⟩, hS.F ht⟩) hS.2.2 (qaa qm7 9 rfl)))
    · have hw := hw.2 c2
      refine lv_iconst (v := 1) hx hb (qaa qm7 6 rfl) (by decide) ?_
      refine lv_goto (tgt := 15) hx hb (qaa qm7 7 rfl) (by decide) ?_
      exact ((W.zret (v := 1) hx hb hr rfl (fun t ht hW => ⟨⟨1, (), rfl, hw, by rw [ht]; exact hP, va_K.moved hW.alike hK, hD⟩, hS.F ht⟩) hS.2.2 (qaa qm7 9 rfl)))
theorem q6D : ∀ w ∈ (vx_atS RX10 409 "java/lang/IllegalArgumentException" ["java/lang/RuntimeException", "java/lang/Exception"]).filter (fun w => !goodWord w), w ∈ xB := by decide +kernel
theorem q5Q : ∀ w ∈ Cond.classLink RX10 405 "java/lang/IllegalArgumentException" :: Cond.initialized "java/lang/IllegalArgumentException" :: vx_atS RX10 409 "java/lang/IllegalArgumentException" ["java/lang/RuntimeException", "java/lang/Exception"], vx_ot w = true := by decide +kernel
theorem q6A : ∀ w ∈ (vx_atS RX10 409 "java/lang/IllegalArgumentException" ["java/lang/RuntimeException", "java/lang/Exception"]).filter goodWord, w ∈ wsX10_needLegal := by decide +kernel
theorem qNw : ∀ w ∈ u_ws RX10 TX10 19, w ∈ wsX10_needLegal := uiM qHD qyE (by decide +kernel)
theorem q0p : (.classLink RX10 405 "java/lang/IllegalArgumentException" : Cond) ∈ wsX10_needLegal := qHD 704 (by decide +kernel)
theorem qLL : (.fieldLink RX10 395 "MarchHares" "callsIllegal" "I" : Cond) ∈ wsX10_needLegal := qHD 706 (by decide +kernel)
theorem qX9 : (.initialized "java/lang/IllegalArgumentException" : Cond) ∈ wsX10_needLegal := qHD 705 (by decide +kernel)
set_option maxHeartbeats 4000000 in
set_option maxRecDepth 100000 in
theorem qZb (l : Launch) (dC : Nat → ClassId) (dI : Nat → Nat → Nat) (cyB cyI cyJ cyP : ClassId) (a0 sz : Nat) (jaK jfP ja1 jcp jbc jbV ja3 jbH ja2 jbO jaq jac jbI jbl jbn jba jaa jbA : Value) (jbz p1 : Int32) {E : String → Int32 → Prop} {Q : Int32 → Prop} (hw : qMh jbz p1 E Q) : vx_Met l yX10_needLegal wsX10_needLegal ({ frames := 6, cells := 1, slots := 6, locals := 120 }) (va_Pc [.ref a0, .int p1] (cPx l (dC, dI) (kT cyB cyI cyJ cyP) (qxn a0 jaK jfP ja1 jcp jbc jbV ja3 jbH ja2 jbO jaq jac jbI jbl jbn jba jaa jbA jbz) sz)) (va_Qv (fun (u : Int32) => Q u) (cB (dC, dI) (kT cyB cyI cyJ cyP) (va_A (qxn a0 jaK jfP ja1 jcp jbc jbV ja3 jbH ja2 jbO jaq jac jbI jbl jbn jba jaa jbA jbz) sz) (fun u : Int32 => ((qxn a0 jaK jfP ja1 jcp jbc jbV ja3 jbH ja2 jbO jaq jac jbI jbl jbn jba jaa jbA u) : va_W))) (va_A (qxn a0 jaK jfP ja1 jcp jbc jbV ja3 jbH ja2 jbO jaq jac jbI jbl jbn jba jaa jbA jbz) sz)) (vx_X (fun _ => True) (fun (en : String) (u : Int32) (t : State) => E en u ∧ cB (dC, dI) (kT cyB cyI cyJ cyP) (va_A (qxn a0 jaK jfP ja1 jcp jbc jbV ja3 jbH ja2 jbO jaq jac jbI jbl jbn jba jaa jbA jbz) sz) (fun u : Int32 => ((qxn a0 jaK jfP ja1 jcp jbc jbV ja3 jbH ja2 jbO jaq jac jbI jbl jbn jba jaa jbA u) : va_W)) u t) (va_A (qxn a0 jaK jfP ja1 jcp jbc jbV ja3 jbH ja2 jbO jaq jac jbI jbl jbn jba jaa jbA jbz) sz)) 1 6 (va_A (qxn a0 jaK jfP ja1 jcp jbc jbV ja3 jbH ja2 jbO jaq jac jbI jbl jbn jba jaa jbA jbz) sz) := by
  refine vx_ofW (cc := cX10_needLegal) (maxL := 2) (ret := none) (by decide) rfl ?_
  intro p e s m args below meth c s₁ B hml hnt hv
  obtain ⟨rfl, hsz, hP, hK, hD0, hNw, hXl, hXu, hXn, hXt⟩ := hv
  have hx := B.exec
  have hb := B.bytes
  have hr := B.returns
  have hts := atoms_spec (ws := wsX10_needLegal) B.pre
  have hown : s.vm.findClass RX10 = some m.cls := findClass_of_methodNamed B.named
  have hlocks := B.notSynchronized
  subst hsz
  have hD := hD0.self (sz := s.heap.size)
  generalize hAe : va_A (qxn a0 jaK jfP ja1 jcp jbc jbV ja3 jbH ja2 jbO jaq jac jbI jbl jbn jba jaa jbA jbz) s.heap.size = A at hD hXu hXn ⊢
  have hA : ∀ q : Nat, s.heap.size ≤ q → A q := fun q h => by rw [← hAe]; exact Or.inr h
  have hS : va_S A s.heap s.heap [] := va_S.rf
  have hP : va_P (dC, dI) vwCl (qxn a0 jaK jfP ja1 jcp jbc jbV ja3 jbH ja2 jbO jaq jac jbI jbl jbn jba jaa jbA jbz) s.heap := hP
  have hl := lv_entry ([.ref a0, .int p1]) (n := 2) (nbq rfl)
  rw [lg_entry_eq]
  generalize (lg_sl ([.ref a0, .int p1]) ++ List.replicate (2 - (lg_sl ([.ref a0, .int p1])).length) Slot.unset).toArray = ls at hl ⊢
  have hl : lv_has ls 2 [(0, .ref a0), (1, .int p1)] := hl
  have hY : cfY l s A := ⟨hXl, hXu, hXn, hXt⟩
  have hXs : cfX l s c A := ⟨hnt, hY⟩
  have C0 : cfx p s m _ meth c cX10_needLegal none wsX10_needLegal RX10 2 A (dC, dI) (kT cyB cyI cyJ cyP) ∧ cfX l s c A := ⟨⟨hx, hb, hr, hts, hown, hlocks, hml, hA, hK, hNw⟩, hXs⟩
  clear hAe
  obtain ⟨H, hH⟩ : ∃ H, H = s.heap := ⟨_, rfl⟩
  rw [← hH] at hP ⊢
  have hS : va_S A s.heap H [] := by rw [hH]; exact va_S.rf
  have hS := hS
  refine lv_iload_n hx hb (qaa qe4 0 rfl) rfl (lv_at hl 1 rfl) ?_
  refine lv_if_ne (tgt := 25) hx hb (qaa qe4 1 rfl) (by decide) (fun c1 => ?_) (fun c1 => ?_)
  · have hw := hw.1 c1
    exact vx_ret (W.widen (k := 1) (n := 6) (nbq rfl) (nbq rfl) (W.vret hx hb hr (fun t ht hW => ⟨⟨(jbz), rfl, hw, by rw [ht]; exact hP, va_K.moved hW.alike hK, hD⟩, hS.F ht⟩) hS.2.2 (qaa qe4 13 rfl)))
  · have hw := hw.2 c1
    refine lv_aload_n hx hb (qaa qe4 2 rfl) rfl (lv_at hl 0 rfl) ?_
    refine lv_dup hx hb (qaa qe4 3 rfl) rfl ?_
    refine va_get (D := (dC, dI)) (ci := 10) (v := .int jbz) (C := RX10) (T := TX10) (N := 19) hx hb hts qNw hown hK hP 0 rfl rfl 18 (by decide) (hts _ qLL) (fun _ h9 => h9) rfl (qaa qe4 4 rfl) ?_
    refine lv_iconst (v := 1) hx hb (qaa qe4 5 rfl) (by decide) ?_
    refine lv_iadd hx hb (qaa qe4 6 rfl) ?_
    refine lv_topi (fun x2 ex2 => ?_)
    have hw := hw x2 ex2
    refine va_put (D := (dC, dI)) (ci := 10) (v := .int x2) (ty := .int) (C := RX10) (T := TX10) (N := 19) hx hb hts qNw tyX10 tyX10_ok nmX10 hown hK hP hD hS 0 rfl rfl 18 (by decide) (hts _ qLL) (fun _ h9 => h9) rfl (by decide +kernel) rfl rfl (nbq rfl) (qaa qe4 7 rfl) (fun H locs hP hD hS => ?_)
    have hP : va_P (dC, dI) vwCl (qxn a0 jaK jfP ja1 jcp jbc jbV ja3 jbH ja2 jbO jaq jac jbI jbl jbn jba jaa jbA x2) H := hP
    have hD : va_D A (qxn a0 jaK jfP ja1 jcp jbc jbV ja3 jbH ja2 jbO jaq jac jbI jbl jbn jba jaa jbA x2) := hD
    obtain ⟨sa9, hsa9⟩ := hY.2.2.2.2.1 _ (List.mem_of_getElem? (i := 3) rfl)
    exact vx_throwSW hx hb hY.1 (own := RX10) (cls := "java/lang/IllegalArgumentException") (names := ["java/lang/RuntimeException", "java/lang/Exception"]) (ik := 405) (is := 407) (ic := 409) hown (by decide +kernel) (by decide +kernel) (hts _ q0p) (hts _ qX9) hsa9 (vx_hat (fun w hw9 => hts w (q6A w hw9)) q6D (qa0g hY.2.2.2.1)) q5Q hY.2.1 hY.2.2.1 hS (by rw [hml]; exact hl.1) (qaa qe4 8 rfl) (qaa qe4 9 rfl) (qaa qe4 10 rfl) (qaa qe4 11 rfl) (qaa qe4 12 rfl) (fun x hx9 => (hXs.1 x hx9).elim) (nbq rfl) (nbq rfl) (nbq rfl) (nbq rfl) hlocks (fun t hal hsz9 hq9 => ⟨(x2), trivial, ⟨hw, hP.kept (fun k q hk9 => hq9 _ ((hP k q hk9).lt)), va_K.moved hal hK, hD⟩, qau2 hS hsz9 hq9⟩) hS.2.2 (nbq rfl) (nbq rfl)
set_option maxHeartbeats 4000000 in
set_option maxRecDepth 100000 in
theorem qaV (l : Launch) (dC : Nat → ClassId) (dI : Nat → Nat → Nat) (cyB cyI cyJ cyP : ClassId) (a0 sz : Nat) (jaK jfP ja1 jcp jbc jbV ja3 jbH ja2 jbO jaq jac jbI jbl jbn jba jaa jbA : Value) (jbz p1 p2 p3 : Int32) {E : String → Int32 → Prop} {Q : Int32 → Prop} (hw : qaC jbz p1 p2 p3 E Q) : vx_Met l yX10_needWithin wsX10_needWithin ({ frames := 7, cells := 1, slots := 6, locals := 141 }) (va_Pc [.ref a0, .int p1, .int p2, .int p3] (cPx l (dC, dI) (kT cyB cyI cyJ cyP) (qxn a0 jaK jfP ja1 jcp jbc jbV ja3 jbH ja2 jbO jaq jac jbI jbl jbn jba jaa jbA jbz) sz)) (va_Qv (fun (u : Int32) => Q u) (cB (dC, dI) (kT cyB cyI cyJ cyP) (va_A (qxn a0 jaK jfP ja1 jcp jbc jbV ja3 jbH ja2 jbO jaq jac jbI jbl jbn jba jaa jbA jbz) sz) (fun u : Int32 => ((qxn a0 jaK jfP ja1 jcp jbc jbV ja3 jbH ja2 jbO jaq jac jbI jbl jbn jba jaa jbA u) : va_W))) (va_A (qxn a0 jaK jfP ja1 jcp jbc jbV ja3 jbH ja2 jbO jaq jac jbI jbl jbn jba jaa jbA jbz) sz)) (vx_X (fun _ => True) (fun (en : String) (u : Int32) (t : State) => E en u ∧ cB (dC, dI) (kT cyB cyI cyJ cyP) (va_A (qxn a0 jaK jfP ja1 jcp jbc jbV ja3 jbH ja2 jbO jaq jac jbI jbl jbn jba jaa jbA jbz) sz) (fun u : Int32 => ((qxn a0 jaK jfP ja1 jcp jbc jbV ja3 jbH ja2 jbO jaq jac jbI jbl jbn jba jaa jbA u) : va_W)) u t) (va_A (qxn a0 jaK jfP ja1 jcp jbc jbV ja3 jbH ja2 jbO jaq jac jbI jbl jbn jba jaa jbA jbz) sz)) 1 6 (va_A (qxn a0 jaK jfP ja1 jcp jbc jbV ja3 jbH ja2 jbO jaq jac jbI jbl jbn jba jaa jbA jbz) sz) := by
  refine vx_ofW (cc := cX10_needWithin) (maxL := 4) (ret := none) (by decide) rfl ?_
  intro p e s m args below meth c s₁ B hml hnt hv
  obtain ⟨rfl, hsz, hP, hK, hD0, hNw, hXl, hXu, hXn, hXt⟩ := hv
  have hx := B.exec
  have hb := B.bytes
  have hr := B.returns
  have hts := atoms_spec (ws := wsX10_needWithin) B.pre
  have hown : s.vm.findClass RX10 = some m.cls := findClass_of_methodNamed B.named
  have hlocks := B.notSynchronized
  subst hsz
  have hD := hD0.self (sz := s.heap.size)
  generalize hAe : va_A (qxn a0 jaK jfP ja1 jcp jbc jbV ja3 jbH ja2 jbO jaq jac jbI jbl jbn jba jaa jbA jbz) s.heap.size = A at hD hXu hXn ⊢
  have hA : ∀ q : Nat, s.heap.size ≤ q → A q := fun q h => by rw [← hAe]; exact Or.inr h
  have hS : va_S A s.heap s.heap [] := va_S.rf
  have hP : va_P (dC, dI) vwCl (qxn a0 jaK jfP ja1 jcp jbc jbV ja3 jbH ja2 jbO jaq jac jbI jbl jbn jba jaa jbA jbz) s.heap := hP
  have hl := lv_entry ([.ref a0, .int p1, .int p2, .int p3]) (n := 4) (nbq rfl)
  rw [lg_entry_eq]
  generalize (lg_sl ([.ref a0, .int p1, .int p2, .int p3]) ++ List.replicate (4 - (lg_sl ([.ref a0, .int p1, .int p2, .int p3])).length) Slot.unset).toArray = ls at hl ⊢
  have hl : lv_has ls 4 [(0, .ref a0), (1, .int p1), (2, .int p2), (3, .int p3)] := hl
  have hY : cfY l s A := ⟨hXl, hXu, hXn, hXt⟩
  have hXs : cfX l s c A := ⟨hnt, hY⟩
  have C0 : cfx p s m _ meth c cX10_needWithin none wsX10_needWithin RX10 4 A (dC, dI) (kT cyB cyI cyJ cyP) ∧ cfX l s c A := ⟨⟨hx, hb, hr, hts, hown, hlocks, hml, hA, hK, hNw⟩, hXs⟩
  clear hAe
  obtain ⟨H, hH⟩ : ∃ H, H = s.heap := ⟨_, rfl⟩
  rw [← hH] at hP ⊢
  have hS : va_S A s.heap H [] := by rw [hH]; exact va_S.rf
  have hS := hS
  refine lv_aload_n hx hb (qaa qq4 0 rfl) rfl (lv_at hl 0 rfl) ?_
  refine lv_iload_n hx hb (qaa qq4 1 rfl) rfl (lv_at hl 1 rfl) ?_
  refine lv_iload_n hx hb (qaa qq4 2 rfl) rfl (lv_at hl 2 rfl) ?_
  refine lv_iload_n hx hb (qaa qq4 3 rfl) rfl (lv_at hl 3 rfl) ?_
  obtain ⟨hCc, hPc, hDc, hFc⟩ := qac (ws' := []) hP hD hS hA [] (by decide +kernel) rfl
  refine va_calli (va_runS (As := [.int p1, .int p2, .int p3]) (rest := [.ref a0]) ⟨hx, hb, hml, hown, hts⟩ (qzJ l dC dI cyB cyI cyJ cyP H.size p1 p2 p3 hw) (va_cwS 3 hts gX10_needWithin_X10_within rfl rfl rfl (by decide +kernel) ⟨nbq rfl, nbq rfl⟩) ⟨qab, qae hPc hK hDc hNw⟩ rfl rfl hl.1 rfl (lv_room (nbq rfl)) (qaa qq4 4 rfl) ⟨nbq rfl, nbq rfl⟩) hS (fun q _ h => hFc q h) hFc (fun r1 u t H1 locs ht hvm hw hB hz1 hk1 hS => ?_)
  obtain ⟨hP1, hK1, hD1⟩ := hB
  rw [ht] at hP1
  obtain ⟨hP, hD⟩ := qah (wr := (qxn a0 jaK jfP ja1 jcp jbc jbV ja3 jbH ja2 jbO jaq jac jbI jbl jbn jba jaa jbA jbz)) (w1 := []) (wn := (qxn a0 jaK jfP ja1 jcp jbc jbV ja3 jbH ja2 jbO jaq jac jbI jbl jbn jba jaa jbA jbz)) hP hD [] [0] hCc rfl (by decide +kernel) (by decide +kernel) rfl hk1 hFc hP1 hD1
  generalize H1 = H at hP hS ⊢
  obtain ⟨hCc, hPc, hDc, hFc⟩ := qac (ws' := (qxn a0 jaK jfP ja1 jcp jbc jbV ja3 jbH ja2 jbO jaq jac jbI jbl jbn jba jaa jbA jbz)) hP hD hS hA [0] (by decide +kernel) rfl
  refine vx_callv (vx_runV (As := [.int r1]) (rest := []) ⟨hx, hb, hml, hown, hts⟩ (qZb l dC dI cyB cyI cyJ cyP a0 H.size (jaK) (jfP) (ja1) (jcp) (jbc) (jbV) (ja3) (jbH) (ja2) (jbO) (jaq) (jac) (jbI) (jbl) (jbn) (jba) (jaa) (jbA) jbz r1 hw) (cwV 1 hts gX10_needWithin_X10_needLegal rfl rfl rfl (by decide +kernel) ⟨nbq rfl, nbq rfl⟩) ⟨qau, va_recv (q := (RX10, TX10, 19)) hK hPc (ci := 10) (q0 := 0) rfl rfl, qbk hPc hK hDc hNw hY hS hFc⟩ rfl rfl hl.1 rfl (lv_room (nbq rfl)) (qaa qq4 5 rfl) ⟨nbq rfl, nbq rfl⟩) hS (fun q _ h => hFc q h) hFc (fun q _ h => hFc q h) (fun en ce q9 u t H1 locs ht hvm hpx hB hz1 hk1 hS hc9 hv9 hcl9 => ?_) (fun u t H1 locs ht hvm hw hB hz1 hk1 hS => ?_)
  · obtain ⟨x2, rfl⟩ : ∃ z, z = u := ⟨_, rfl⟩
    obtain ⟨hw, hP1, hK1, hD1⟩ := hB
    rw [ht] at hP1
    obtain ⟨hP, hD⟩ := qah (wr := []) (w1 := (qxn a0 jaK jfP ja1 jcp jbc jbV ja3 jbH ja2 jbO jaq jac jbI jbl jbn jba jaa jbA x2)) (wn := (qxn a0 jaK jfP ja1 jcp jbc jbV ja3 jbH ja2 jbO jaq jac jbI jbl jbn jba jaa jbA x2)) hP hD [0] [] hCc rfl (by decide +kernel) (by decide +kernel) rfl hk1 hFc hP1 hD1
    generalize H1 = H at hP hS hc9 ⊢
    exact vx_out (fun x hx9 => (hXs.1 x hx9).elim) hlocks hc9 hv9 hcl9 (fun t2 ht2 hal2 => ⟨(x2), trivial, ⟨hw, by rw [ht2]; exact hP, va_K.moved hal2 hK, hD⟩, hS.F ht2⟩) hS.2.2 (nbq rfl) (nbq rfl)
  obtain ⟨x2, rfl⟩ : ∃ z, z = u := ⟨_, rfl⟩
  obtain ⟨hP1, hK1, hD1⟩ := hB
  rw [ht] at hP1
  obtain ⟨hP, hD⟩ := qah (wr := []) (w1 := (qxn a0 jaK jfP ja1 jcp jbc jbV ja3 jbH ja2 jbO jaq jac jbI jbl jbn jba jaa jbA x2)) (wn := (qxn a0 jaK jfP ja1 jcp jbc jbV ja3 jbH ja2 jbO jaq jac jbI jbl jbn jba jaa jbA x2)) hP hD [0] [] hCc rfl (by decide +kernel) (by decide +kernel) rfl hk1 hFc hP1 hD1
  generalize H1 = H at hP hS ⊢
  exact vx_ret (W.widen (k := 1) (n := 6) (nbq rfl) (nbq rfl) (W.vret hx hb hr (fun t ht hW => ⟨⟨(x2), rfl, hw, by rw [ht]; exact hP, va_K.moved hW.alike hK, hD⟩, hS.F ht⟩) hS.2.2 (qaa qq4 6 rfl)))
theorem qvu : ∀ w ∈ u_ws RX1 TX1 4, w ∈ wsX1_copyFrom := uiM qxg qV8 (by decide +kernel)
theorem qadx : (.initialized "java/lang/System" : Cond) ∈ wsX1_copyFrom := qxg 331 (by decide +kernel)
theorem qagV : (.native arraycopyName : Cond) ∈ wsX1_copyFrom := qxg 329 (by decide +kernel)
theorem qad3 : (.static arraycopyName : Cond) ∈ wsX1_copyFrom := qxg 330 (by decide +kernel)
theorem qSz : (.fieldLink RX1 13 "MarchHares$Days" "row" "[I" : Cond) ∈ wsX1_copyFrom := qxg 276 (by decide +kernel)
theorem qSi : (.fieldLink RX1 24 "MarchHares$Days" "down" "LMarchHares$Down;" : Cond) ∈ wsX1_copyFrom := qxg 322 (by decide +kernel)
theorem qRA : (.fieldLink RX1 28 "MarchHares$Days" "law" "LMarchHares$Law;" : Cond) ∈ wsX1_copyFrom := qxg 323 (by decide +kernel)
theorem qahM : (.methodLink RX1 45 arraycopyName : Cond) ∈ wsX1_copyFrom := qxg 328 (by decide +kernel)
set_option maxHeartbeats 4000000 in
set_option maxRecDepth 100000 in
theorem qT7 (l : Launch) (dC : Nat → ClassId) (dI : Nat → Nat → Nat) (cyB cyI cyJ cyP : ClassId) (a0 a1 jjN jlL jjO jch sz : Nat) (jcD jpf jo9 jjP : Value) (jkO jdE : NI) {Q : NI → Prop} (hw : qEm jkO jdE Q) : Met l yX1_copyFrom wsX1_copyFrom ({ frames := 1, cells := 0, slots := 0, locals := 40 }) (va_Pc [.ref a0, .ref a1] (cPc (dC, dI) (kT cyB cyI cyJ cyP) (qayo a0 jch jcD jpf jo9 a1 jjO jjP jjN jlL jjO cyI jkO jch cyI jdE) sz)) (va_Qv (fun (u : NI) => Q u) (cB (dC, dI) (kT cyB cyI cyJ cyP) (va_A (qayo a0 jch jcD jpf jo9 a1 jjO jjP jjN jlL jjO cyI jkO jch cyI jdE) sz) (fun u : NI => ((qaLZ a0 jch jcD jjN jlL a1 jjO jjP jjN jlL jjO cyI jkO jch cyI u) : va_W))) (va_A (qayo a0 jch jcD jpf jo9 a1 jjO jjP jjN jlL jjO cyI jkO jch cyI jdE) sz)) 0 0 (va_A (qayo a0 jch jcD jpf jo9 a1 jjO jjP jjN jlL jjO cyI jkO jch cyI jdE) sz) := by
  refine Met.ofW (cc := cX1_copyFrom) (maxL := 2) (ret := none) (by decide) rfl ?_
  intro p e s m args below meth c s₁ B hml hv
  obtain ⟨rfl, hsz, hP, hK, hD0, hNw⟩ := hv
  have hx := B.exec
  have hb := B.bytes
  have hr := B.returns
  have hts := atoms_spec (ws := wsX1_copyFrom) B.pre
  have hown : s.vm.findClass RX1 = some m.cls := findClass_of_methodNamed B.named
  have hlocks := B.notSynchronized
  subst hsz
  have hD := hD0.self (sz := s.heap.size)
  generalize hAe : va_A (qayo a0 jch jcD jpf jo9 a1 jjO jjP jjN jlL jjO cyI jkO jch cyI jdE) s.heap.size = A at hD ⊢
  have hA : ∀ q : Nat, s.heap.size ≤ q → A q := fun q h => by rw [← hAe]; exact Or.inr h
  have hS : va_S A s.heap s.heap [] := va_S.rf
  have hP : va_P (dC, dI) vwCl (qayo a0 jch jcD jpf jo9 a1 jjO jjP jjN jlL jjO cyI jkO jch cyI jdE) s.heap := hP
  have hl := lv_entry ([.ref a0, .ref a1]) (n := 2) (nbq rfl)
  rw [lg_entry_eq]
  generalize (lg_sl ([.ref a0, .ref a1]) ++ List.replicate (2 - (lg_sl ([.ref a0, .ref a1])).length) Slot.unset).toArray = ls at hl ⊢
  have hl : lv_has ls 2 [(0, .ref a0), (1, .ref a1)] := hl
  have C0 : cfx p s m _ meth c cX1_copyFrom none wsX1_copyFrom RX1 2 A (dC, dI) (kT cyB cyI cyJ cyP) := ⟨hx, hb, hr, hts, hown, hlocks, hml, hA, hK, hNw⟩
  clear hAe
  obtain ⟨H, hH⟩ : ∃ H, H = s.heap := ⟨_, rfl⟩
  rw [← hH] at hP ⊢
  have hS : va_S A s.heap H [] := by rw [hH]; exact va_S.rf
  have hS := hS
  refine lv_aload_n hx hb (qaa qfX 0 rfl) rfl (lv_at hl 0 rfl) ?_
  refine lv_aload_n hx hb (qaa qfX 1 rfl) rfl (lv_at hl 1 rfl) ?_
  refine va_get (D := (dC, dI)) (ci := 1) (v := .ref jjN) (C := RX1) (T := TX1) (N := 4) hx hb hts qvu hown hK hP 1 rfl rfl 2 (by decide) (hts _ qSi) (fun _ h9 => h9) rfl (qaa qfX 2 rfl) ?_
  refine va_put (D := (dC, dI)) (ci := 1) (v := .ref jjN) (ty := .object "MarchHares$Down") (C := RX1) (T := TX1) (N := 4) hx hb hts qvu tyX1 tyX1_ok nmX1 hown hK hP hD hS 0 rfl rfl 2 (by decide) (hts _ qSi) (fun _ h9 => h9) rfl (by decide +kernel) rfl rfl (nbq rfl) (qaa qfX 3 rfl) (fun H locs hP hD hS => ?_)
  have hP : va_P (dC, dI) vwCl (qbcU a0 jch jcD jjN jo9 a1 jjO jjP jjN jlL jjO cyI jkO jch cyI jdE) H := hP
  have hD : va_D A (qbcU a0 jch jcD jjN jo9 a1 jjO jjP jjN jlL jjO cyI jkO jch cyI jdE) := hD
  refine lv_aload_n hx hb (qaa qfX 4 rfl) rfl (lv_at hl 0 rfl) ?_
  refine lv_aload_n hx hb (qaa qfX 5 rfl) rfl (lv_at hl 1 rfl) ?_
  refine va_get (D := (dC, dI)) (ci := 1) (v := .ref jlL) (C := RX1) (T := TX1) (N := 4) hx hb hts qvu hown hK hP 1 rfl rfl 3 (by decide) (hts _ qRA) (fun _ h9 => h9) rfl (qaa qfX 6 rfl) ?_
  refine va_put (D := (dC, dI)) (ci := 1) (v := .ref jlL) (ty := .object "MarchHares$Law") (C := RX1) (T := TX1) (N := 4) hx hb hts qvu tyX1 tyX1_ok nmX1 hown hK hP hD hS 0 rfl rfl 3 (by decide) (hts _ qRA) (fun _ h9 => h9) rfl (by decide +kernel) rfl rfl (nbq rfl) (qaa qfX 7 rfl) (fun H locs hP hD hS => ?_)
  have hP : va_P (dC, dI) vwCl (qaLZ a0 jch jcD jjN jlL a1 jjO jjP jjN jlL jjO cyI jkO jch cyI jdE) H := hP
  have hD : va_D A (qaLZ a0 jch jcD jjN jlL a1 jjO jjP jjN jlL jjO cyI jkO jch cyI jdE) := hD
  refine lv_aload_n hx hb (qaa qfX 8 rfl) rfl (lv_at hl 1 rfl) ?_
  refine va_get (D := (dC, dI)) (ci := 1) (v := .ref jjO) (C := RX1) (T := TX1) (N := 4) hx hb hts qvu hown hK hP 1 rfl rfl 0 (by decide) (hts _ qSz) (fun _ h9 => h9) rfl (qaa qfX 9 rfl) ?_
  refine lv_iconst (v := 0) hx hb (qaa qfX 10 rfl) (by decide) ?_
  refine lv_aload_n hx hb (qaa qfX 11 rfl) rfl (lv_at hl 0 rfl) ?_
  refine va_get (D := (dC, dI)) (ci := 1) (v := .ref jch) (C := RX1) (T := TX1) (N := 4) hx hb hts qvu hown hK hP 0 rfl rfl 0 (by decide) (hts _ qSz) (fun _ h9 => h9) rfl (qaa qfX 12 rfl) ?_
  refine lv_iconst (v := 0) hx hb (qaa qfX 13 rfl) (by decide) ?_
  refine lv_bipush (v := 64) hx hb (qaa qfX 14 rfl) (by decide) ?_
  refine va_copyi hx hb (by rw [hml]; exact hl.1.symm) hown (hts _ qahM) (hts _ qagV) (hts _ qad3) (hts _ qadx) hK hP hD hS 2 3 1 1 rfl rfl rfl rfl rfl (by decide) (by decide) (by decide) (by decide) (by decide) (fun _ _ => rfl) (nbq rfl) (nbq rfl) (qaa qfX 15 rfl) (fun H locs hP hD hS => ?_)
  obtain ⟨f1, ef1⟩ : ∃ y : NI, y = va_cpy jkO jdE (0 : Int32).toNatClampNeg (0 : Int32).toNatClampNeg (64 : Int32).toNatClampNeg := ⟨_, rfl⟩
  have hw := hw f1 ef1
  have hP : va_P (dC, dI) vwCl (qaLZ a0 jch jcD jjN jlL a1 jjO jjP jjN jlL jjO cyI jkO jch cyI f1) H := by rw [ef1]; exact hP
  have hD : va_D A (qaLZ a0 jch jcD jjN jlL a1 jjO jjP jjN jlL jjO cyI jkO jch cyI f1) := by rw [ef1]; exact hD
  exact ((W.vret hx hb hr (fun t ht hW => ⟨⟨(f1), rfl, hw, by rw [ht]; exact hP, va_K.moved hW.alike hK, hD⟩, hS.F ht⟩) hS.2.2 (qaa qalv 0 rfl)))
set_option maxHeartbeats 4000000 in
set_option maxRecDepth 100000 in
theorem qnt (l : Launch) (dC : Nat → ClassId) (dI : Nat → Nat → Nat) (cyB cyI cyJ cyP : ClassId) (sz : Nat) (p0 p1 : Int32) {Q : Int32 → Prop} (hw : qib p0 p1 Q) : Met l yX10_holds wsX10_holds ({ frames := 0, cells := 0, slots := 0, locals := 0 }) (va_Pc [.int p0, .int p1] (cPc (dC, dI) (kT cyB cyI cyJ cyP) [] sz)) (va_Qi (fun (r : Int32) (_ : Unit) => Q r ) (cB (dC, dI) (kT cyB cyI cyJ cyP) (va_A [] sz) (fun u : Unit => ([] : va_W))) (va_A [] sz)) 0 0 (va_A [] sz) := by
  refine Met.ofW (cc := cX10_holds) (maxL := 2) (ret := (some .boolean)) (by decide) rfl ?_
  intro p e s m args below meth c s₁ B hml hv
  obtain ⟨rfl, hsz, hP, hK, hD0, hNw⟩ := hv
  have hx := B.exec
  have hb := B.bytes
  have hr := B.returns
  have hts := atoms_spec (ws := wsX10_holds) B.pre
  have hown : s.vm.findClass RX10 = some m.cls := findClass_of_methodNamed B.named
  have hlocks := B.notSynchronized
  subst hsz
  have hD := hD0.self (sz := s.heap.size)
  generalize hAe : va_A [] s.heap.size = A at hD ⊢
  have hA : ∀ q : Nat, s.heap.size ≤ q → A q := fun q h => by rw [← hAe]; exact Or.inr h
  have hS : va_S A s.heap s.heap [] := va_S.rf
  have hP : va_P (dC, dI) vwCl [] s.heap := hP
  have hl := lv_entry ([.int p0, .int p1]) (n := 2) (nbq rfl)
  rw [lg_entry_eq]
  generalize (lg_sl ([.int p0, .int p1]) ++ List.replicate (2 - (lg_sl ([.int p0, .int p1])).length) Slot.unset).toArray = ls at hl ⊢
  have hl : lv_has ls 2 [(0, .int p0), (1, .int p1)] := hl
  have C0 : cfx p s m _ meth c cX10_holds (some .boolean) wsX10_holds RX10 2 A (dC, dI) (kT cyB cyI cyJ cyP) := ⟨hx, hb, hr, hts, hown, hlocks, hml, hA, hK, hNw⟩
  clear hAe
  obtain ⟨H, hH⟩ : ∃ H, H = s.heap := ⟨_, rfl⟩
  rw [← hH] at hP ⊢
  have hS : va_S A s.heap H [] := by rw [hH]; exact va_S.rf
  have hS := hS
  refine lv_iload_n hx hb (qaa qpu 0 rfl) rfl (lv_at hl 0 rfl) ?_
  refine lv_iload_n hx hb (qaa qpu 1 rfl) rfl (lv_at hl 1 rfl) ?_
  refine lv_ishr hx hb (qaa qpu 2 rfl) ?_
  refine lv_iconst (v := 1) hx hb (qaa qpu 3 rfl) (by decide) ?_
  refine lv_iand hx hb (qaa qpu 4 rfl) ?_
  refine lv_iconst (v := 1) hx hb (qaa qpu 5 rfl) (by decide) ?_
  refine lv_icmp_ne (tgt := 13) hx hb (qaa qpu 6 rfl) (by decide) (fun c1 => ?_) (fun c1 => ?_)
  · have hw := hw.1 c1
    refine lv_iconst (v := 0) hx hb (qaa qpu 9 rfl) (by decide) ?_
    exact ((W.zret (v := 0) hx hb hr rfl (fun t ht hW => ⟨⟨0, (), rfl, hw, by rw [ht]; exact hP, va_K.moved hW.alike hK, hD⟩, hS.F ht⟩) hS.2.2 (qaa qpu 10 rfl)))
  · have hw := hw.2 c1
    refine lv_iconst (v := 1) hx hb (qaa qpu 7 rfl) (by decide) ?_
    refine lv_goto (tgt := 14) hx hb (qaa qpu 8 rfl) (by decide) ?_
    exact ((W.zret (v := 1) hx hb hr rfl (fun t ht hW => ⟨⟨1, (), rfl, hw, by rw [ht]; exact hP, va_K.moved hW.alike hK, hD⟩, hS.F ht⟩) hS.2.2 (qaa qpu 10 rfl)))
theorem qalG : ∀ w ∈ u_ws RX1 TX1 4, w ∈ wsX1_isCaught := uiM qagq qV8 (by decide +kernel)
theorem qac2 : (.fieldLink RX1 13 "MarchHares$Days" "row" "[I" : Cond) ∈ wsX1_isCaught := qagq 276 (by decide +kernel)
set_option maxHeartbeats 4000000 in
set_option maxRecDepth 100000 in
theorem qh8 (l : Launch) (dC : Nat → ClassId) (dI : Nat → Nat → Nat) (cyB cyI cyJ cyP : ClassId) (a0 jch sz : Nat) (jcD ji6 jhx : Value) (jdE : NI) (p1 : Int32) {Q : Int32 → Prop} (hw : qdO jdE p1 Q) : Met l yX1_isCaught wsX1_isCaught ({ frames := 0, cells := 0, slots := 0, locals := 0 }) (va_Pc [.ref a0, .int p1] (cPc (dC, dI) (kT cyB cyI cyJ cyP) (qaH a0 jch jcD ji6 jhx jch cyI jdE) sz)) (va_Qi (fun (r : Int32) (_ : Unit) => Q r ) (cB (dC, dI) (kT cyB cyI cyJ cyP) (va_A (qaH a0 jch jcD ji6 jhx jch cyI jdE) sz) (fun u : Unit => ((qaH a0 jch jcD ji6 jhx jch cyI jdE) : va_W))) (va_A (qaH a0 jch jcD ji6 jhx jch cyI jdE) sz)) 0 0 (va_A (qaH a0 jch jcD ji6 jhx jch cyI jdE) sz) := by
  refine Met.ofW (cc := cX1_isCaught) (maxL := 2) (ret := (some .boolean)) (by decide) rfl ?_
  intro p e s m args below meth c s₁ B hml hv
  obtain ⟨rfl, hsz, hP, hK, hD0, hNw⟩ := hv
  have hx := B.exec
  have hb := B.bytes
  have hr := B.returns
  have hts := atoms_spec (ws := wsX1_isCaught) B.pre
  have hown : s.vm.findClass RX1 = some m.cls := findClass_of_methodNamed B.named
  have hlocks := B.notSynchronized
  subst hsz
  have hD := hD0.self (sz := s.heap.size)
  generalize hAe : va_A (qaH a0 jch jcD ji6 jhx jch cyI jdE) s.heap.size = A at hD ⊢
  have hA : ∀ q : Nat, s.heap.size ≤ q → A q := fun q h => by rw [← hAe]; exact Or.inr h
  have hS : va_S A s.heap s.heap [] := va_S.rf
  have hP : va_P (dC, dI) vwCl (qaH a0 jch jcD ji6 jhx jch cyI jdE) s.heap := hP
  have hl := lv_entry ([.ref a0, .int p1]) (n := 2) (nbq rfl)
  rw [lg_entry_eq]
  generalize (lg_sl ([.ref a0, .int p1]) ++ List.replicate (2 - (lg_sl ([.ref a0, .int p1])).length) Slot.unset).toArray = ls at hl ⊢
  have hl : lv_has ls 2 [(0, .ref a0), (1, .int p1)] := hl
  have C0 : cfx p s m _ meth c cX1_isCaught (some .boolean) wsX1_isCaught RX1 2 A (dC, dI) (kT cyB cyI cyJ cyP) := ⟨hx, hb, hr, hts, hown, hlocks, hml, hA, hK, hNw⟩
  clear hAe
  obtain ⟨H, hH⟩ : ∃ H, H = s.heap := ⟨_, rfl⟩
  rw [← hH] at hP ⊢
  have hS : va_S A s.heap H [] := by rw [hH]; exact va_S.rf
  have hS := hS
  refine lv_aload_n hx hb (qaa qgx 0 rfl) rfl (lv_at hl 0 rfl) ?_
  refine va_get (D := (dC, dI)) (ci := 1) (v := .ref jch) (C := RX1) (T := TX1) (N := 4) hx hb hts qalG hown hK hP 0 rfl rfl 0 (by decide) (hts _ qac2) (fun _ h9 => h9) rfl (qaa qgx 1 rfl) ?_
  refine lv_iconst (v := 2) hx hb (qaa qgx 2 rfl) (by decide) ?_
  refine va_iald hx hb hK hP 1 1 rfl rfl (vin (by decide)) (qaa qgx 3 rfl) ?_
  refine lv_topi (fun x1 ex1 => ?_)
  have hw := hw x1 ex1
  refine lv_iload_n hx hb (qaa qgx 4 rfl) rfl (lv_at hl 1 rfl) ?_
  refine lv_ishr hx hb (qaa qgx 5 rfl) ?_
  refine lv_iconst (v := 1) hx hb (qaa qgx 6 rfl) (by decide) ?_
  refine lv_iand hx hb (qaa qgx 7 rfl) ?_
  refine lv_iconst (v := 1) hx hb (qaa qgx 8 rfl) (by decide) ?_
  refine lv_icmp_ne (tgt := 18) hx hb (qaa qgx 9 rfl) (by decide) (fun c2 => ?_) (fun c2 => ?_)
  · have hw := hw.1 c2
    refine lv_iconst (v := 0) hx hb (qaa qgx 12 rfl) (by decide) ?_
    exact ((W.zret (v := 0) hx hb hr rfl (fun t ht hW => ⟨⟨0, (), rfl, hw, by rw [ht]; exact hP, va_K.moved hW.alike hK, hD⟩, hS.F ht⟩) hS.2.2 (qaa qgx 13 rfl)))
  · have hw := hw.2 c2
    refine lv_iconst (v := 1) hx hb (qaa qgx 10 rfl) (by decide) ?_
    refine lv_goto (tgt := 19) hx hb (qaa qgx 11 rfl) (by decide) ?_
    exact ((W.zret (v := 1) hx hb hr rfl (fun t ht hW => ⟨⟨1, (), rfl, hw, by rw [ht]; exact hP, va_K.moved hW.alike hK, hD⟩, hS.F ht⟩) hS.2.2 (qaa qgx 13 rfl)))
theorem qaMh : ∀ w ∈ u_ws RX1 TX1 4, w ∈ wsX1_sits := uiM qaTB qV8 (by decide +kernel)
theorem qaHO : (.fieldLink RX1 13 "MarchHares$Days" "row" "[I" : Cond) ∈ wsX1_sits := qaTB 276 (by decide +kernel)
set_option maxHeartbeats 4000000 in
set_option maxRecDepth 100000 in
theorem qvC (l : Launch) (dC : Nat → ClassId) (dI : Nat → Nat → Nat) (cyB cyI cyJ cyP : ClassId) (a0 jch sz : Nat) (jcD ji6 jhx : Value) (jdE : NI) (p1 : Int32) {Q : Int32 → Prop} (hw : qrz jdE p1 Q) : Met l yX1_sits wsX1_sits ({ frames := 0, cells := 0, slots := 0, locals := 0 }) (va_Pc [.ref a0, .int p1] (cPc (dC, dI) (kT cyB cyI cyJ cyP) (qaH a0 jch jcD ji6 jhx jch cyI jdE) sz)) (va_Qi (fun (r : Int32) (_ : Unit) => Q r ) (cB (dC, dI) (kT cyB cyI cyJ cyP) (va_A (qaH a0 jch jcD ji6 jhx jch cyI jdE) sz) (fun u : Unit => ((qaH a0 jch jcD ji6 jhx jch cyI jdE) : va_W))) (va_A (qaH a0 jch jcD ji6 jhx jch cyI jdE) sz)) 0 0 (va_A (qaH a0 jch jcD ji6 jhx jch cyI jdE) sz) := by
  refine Met.ofW (cc := cX1_sits) (maxL := 2) (ret := (some .int)) (by decide) rfl ?_
  intro p e s m args below meth c s₁ B hml hv
  obtain ⟨rfl, hsz, hP, hK, hD0, hNw⟩ := hv
  have hx := B.exec
  have hb := B.bytes
  have hr := B.returns
  have hts := atoms_spec (ws := wsX1_sits) B.pre
  have hown : s.vm.findClass RX1 = some m.cls := findClass_of_methodNamed B.named
  have hlocks := B.notSynchronized
  subst hsz
  have hD := hD0.self (sz := s.heap.size)
  generalize hAe : va_A (qaH a0 jch jcD ji6 jhx jch cyI jdE) s.heap.size = A at hD ⊢
  have hA : ∀ q : Nat, s.heap.size ≤ q → A q := fun q h => by rw [← hAe]; exact Or.inr h
  have hS : va_S A s.heap s.heap [] := va_S.rf
  have hP : va_P (dC, dI) vwCl (qaH a0 jch jcD ji6 jhx jch cyI jdE) s.heap := hP
  have hl := lv_entry ([.ref a0, .int p1]) (n := 2) (nbq rfl)
  rw [lg_entry_eq]
  generalize (lg_sl ([.ref a0, .int p1]) ++ List.replicate (2 - (lg_sl ([.ref a0, .int p1])).length) Slot.unset).toArray = ls at hl ⊢
  have hl : lv_has ls 2 [(0, .ref a0), (1, .int p1)] := hl
  have C0 : cfx p s m _ meth c cX1_sits (some .int) wsX1_sits RX1 2 A (dC, dI) (kT cyB cyI cyJ cyP) := ⟨hx, hb, hr, hts, hown, hlocks, hml, hA, hK, hNw⟩
  clear hAe
  obtain ⟨H, hH⟩ : ∃ H, H = s.heap := ⟨_, rfl⟩
  rw [← hH] at hP ⊢
  have hS : va_S A s.heap H [] := by rw [hH]; exact va_S.rf
  have hS := hS
  refine lv_aload_n hx hb (qaa qBK 0 rfl) rfl (lv_at hl 0 rfl) ?_
  refine va_get (D := (dC, dI)) (ci := 1) (v := .ref jch) (C := RX1) (T := TX1) (N := 4) hx hb hts qaMh hown hK hP 0 rfl rfl 0 (by decide) (hts _ qaHO) (fun _ h9 => h9) rfl (qaa qBK 1 rfl) ?_
  refine lv_iconst (v := 4) hx hb (qaa qBK 2 rfl) (by decide) ?_
  refine lv_iload_n hx hb (qaa qBK 3 rfl) rfl (lv_at hl 1 rfl) ?_
  refine lv_iadd hx hb (qaa qBK 4 rfl) ?_
  refine lv_topi (fun x1 ex1 => ?_)
  have hw := hw x1 ex1
  obtain ⟨hi9, hw⟩ := hw
  refine va_iald hx hb hK hP 1 1 rfl rfl hi9 (qaa qBK 5 rfl) ?_
  refine lv_topi (fun x2 ex2 => ?_)
  have hw := hw x2 ex2
  exact ((W.iret (v := x2) hx hb hr (fun t ht hW => ⟨⟨x2, (), rfl, hw, by rw [ht]; exact hP, va_K.moved hW.alike hK, hD⟩, hS.F ht⟩) hS.2.2 (qaa qBK 6 rfl)))
theorem qax9 : ∀ w ∈ u_ws RX2 TX2 12, w ∈ wsX2_isSafe := uiM qQu qLg (by decide +kernel)
theorem qal4 : (.fieldLink RX2 101 "MarchHares$Down" "safe" "I" : Cond) ∈ wsX2_isSafe := qQu 1047 (by decide +kernel)
theorem q6J : (.initialized RX10 : Cond) ∈ wsX2_isSafe := qQu 2 (by decide +kernel)
theorem qVj : (.static yX10_holds : Cond) ∈ wsX2_isSafe := qQu 2052 (by decide +kernel)
set_option maxHeartbeats 4000000 in
set_option maxRecDepth 100000 in
theorem q2J (l : Launch) (dC : Nat → ClassId) (dI : Nat → Nat → Nat) (cyB cyI cyJ cyP : ClassId) (a0 sz : Nat) (jmz jmA jlc jld jkJ jiT jj1 jjT ja0 ja4 jaP : Value) (jmw p1 : Int32) {Q : Int32 → Prop} (hw : qF6 jmw p1 Q) : Met l yX2_isSafe wsX2_isSafe ({ frames := 1, cells := 0, slots := 0, locals := 21 }) (va_Pc [.ref a0, .int p1] (cPc (dC, dI) (kT cyB cyI cyJ cyP) (qad4 a0 jmz jmA jlc jld jkJ jiT jj1 jjT ja0 ja4 jaP jmw) sz)) (va_Qi (fun (r : Int32) (_ : Unit) => Q r ) (cB (dC, dI) (kT cyB cyI cyJ cyP) (va_A (qad4 a0 jmz jmA jlc jld jkJ jiT jj1 jjT ja0 ja4 jaP jmw) sz) (fun u : Unit => ((qad4 a0 jmz jmA jlc jld jkJ jiT jj1 jjT ja0 ja4 jaP jmw) : va_W))) (va_A (qad4 a0 jmz jmA jlc jld jkJ jiT jj1 jjT ja0 ja4 jaP jmw) sz)) 0 0 (va_A (qad4 a0 jmz jmA jlc jld jkJ jiT jj1 jjT ja0 ja4 jaP jmw) sz) := by
  refine Met.ofW (cc := cX2_isSafe) (maxL := 2) (ret := (some .boolean)) (by decide) rfl ?_
  intro p e s m args below meth c s₁ B hml hv
  obtain ⟨rfl, hsz, hP, hK, hD0, hNw⟩ := hv
  have hx := B.exec
  have hb := B.bytes
  have hr := B.returns
  have hts := atoms_spec (ws := wsX2_isSafe) B.pre
  have hown : s.vm.findClass RX2 = some m.cls := findClass_of_methodNamed B.named
  have hlocks := B.notSynchronized
  subst hsz
  have hD := hD0.self (sz := s.heap.size)
  generalize hAe : va_A (qad4 a0 jmz jmA jlc jld jkJ jiT jj1 jjT ja0 ja4 jaP jmw) s.heap.size = A at hD ⊢
  have hA : ∀ q : Nat, s.heap.size ≤ q → A q := fun q h => by rw [← hAe]; exact Or.inr h
  have hS : va_S A s.heap s.heap [] := va_S.rf
  have hP : va_P (dC, dI) vwCl (qad4 a0 jmz jmA jlc jld jkJ jiT jj1 jjT ja0 ja4 jaP jmw) s.heap := hP
  have hl := lv_entry ([.ref a0, .int p1]) (n := 2) (nbq rfl)
  rw [lg_entry_eq]
  generalize (lg_sl ([.ref a0, .int p1]) ++ List.replicate (2 - (lg_sl ([.ref a0, .int p1])).length) Slot.unset).toArray = ls at hl ⊢
  have hl : lv_has ls 2 [(0, .ref a0), (1, .int p1)] := hl
  have C0 : cfx p s m _ meth c cX2_isSafe (some .boolean) wsX2_isSafe RX2 2 A (dC, dI) (kT cyB cyI cyJ cyP) := ⟨hx, hb, hr, hts, hown, hlocks, hml, hA, hK, hNw⟩
  clear hAe
  obtain ⟨H, hH⟩ : ∃ H, H = s.heap := ⟨_, rfl⟩
  rw [← hH] at hP ⊢
  have hS : va_S A s.heap H [] := by rw [hH]; exact va_S.rf
  have hS := hS
  refine lv_aload_n hx hb (qaa qDP 0 rfl) rfl (lv_at hl 0 rfl) ?_
  refine va_get (D := (dC, dI)) (ci := 2) (v := .int jmw) (C := RX2) (T := TX2) (N := 12) hx hb hts qax9 hown hK hP 0 rfl rfl 11 (by decide) (hts _ qal4) (fun _ h9 => h9) rfl (qaa qDP 1 rfl) ?_
  refine lv_iload_n hx hb (qaa qDP 2 rfl) rfl (lv_at hl 1 rfl) ?_
  obtain ⟨hCc, hPc, hDc, hFc⟩ := qac (ws' := []) hP hD hS hA [] (by decide +kernel) rfl
  refine va_calli (va_runSN (As := [.int jmw, .int p1]) (rest := []) ⟨hx, hb, hml, hown, hts⟩ (qnt l dC dI cyB cyI cyJ cyP H.size jmw p1 hw) ⟨(va_cnB 2 hts gX2_isSafe_X10_holds_n114 rfl rfl rfl (qbaM hNw) (hts _ q6J) (by decide +kernel) ⟨nbq rfl, nbq rfl⟩), (hts _ qVj), trivial⟩ ⟨qab, qae hPc hK hDc hNw⟩ rfl rfl hl.1 rfl (lv_room (nbq rfl)) (qaa qDP 3 rfl) ⟨nbq rfl, nbq rfl⟩) hS (fun q _ h => hFc q h) hFc (fun r1 u t H1 locs ht hvm hw hB hz1 hk1 hS => ?_)
  obtain ⟨hP1, hK1, hD1⟩ := hB
  rw [ht] at hP1
  obtain ⟨hP, hD⟩ := qah (wr := (qad4 a0 jmz jmA jlc jld jkJ jiT jj1 jjT ja0 ja4 jaP jmw)) (w1 := []) (wn := (qad4 a0 jmz jmA jlc jld jkJ jiT jj1 jjT ja0 ja4 jaP jmw)) hP hD [] [0] hCc rfl (by decide +kernel) (by decide +kernel) rfl hk1 hFc hP1 hD1
  generalize H1 = H at hP hS ⊢
  obtain ⟨hn9, hw⟩ := hw
  exact ((W.zret (v := r1) hx hb hr hn9 (fun t ht hW => ⟨⟨r1, (), rfl, hw, by rw [ht]; exact hP, va_K.moved hW.alike hK, hD⟩, hS.F ht⟩) hS.2.2 (qaa qDP 4 rfl)))
theorem qaIe : ∀ w ∈ u_ws RX1 TX1 4, w ∈ wsX1_still := uiM qaMa qV8 (by decide +kernel)
theorem qaxY : (.fieldLink RX1 13 "MarchHares$Days" "row" "[I" : Cond) ∈ wsX1_still := qaMa 276 (by decide +kernel)
set_option maxHeartbeats 4000000 in
set_option maxRecDepth 100000 in
theorem qacv (l : Launch) (dC : Nat → ClassId) (dI : Nat → Nat → Nat) (cyB cyI cyJ cyP : ClassId) (a0 jch sz : Nat) (jcD ji6 jhx : Value) (jdE : NI) (p1 : Int32) {Q : Int32 → Prop} (hw : qJC jdE p1 Q) : Met l yX1_still wsX1_still ({ frames := 0, cells := 0, slots := 0, locals := 0 }) (va_Pc [.ref a0, .int p1] (cPc (dC, dI) (kT cyB cyI cyJ cyP) (qaH a0 jch jcD ji6 jhx jch cyI jdE) sz)) (va_Qi (fun (r : Int32) (_ : Unit) => Q r ) (cB (dC, dI) (kT cyB cyI cyJ cyP) (va_A (qaH a0 jch jcD ji6 jhx jch cyI jdE) sz) (fun u : Unit => ((qaH a0 jch jcD ji6 jhx jch cyI jdE) : va_W))) (va_A (qaH a0 jch jcD ji6 jhx jch cyI jdE) sz)) 0 0 (va_A (qaH a0 jch jcD ji6 jhx jch cyI jdE) sz) := by
  refine Met.ofW (cc := cX1_still) (maxL := 2) (ret := (some .int)) (by decide) rfl ?_
  intro p e s m args below meth c s₁ B hml hv
  obtain ⟨rfl, hsz, hP, hK, hD0, hNw⟩ := hv
  have hx := B.exec
  have hb := B.bytes
  have hr := B.returns
  have hts := atoms_spec (ws := wsX1_still) B.pre
  have hown : s.vm.findClass RX1 = some m.cls := findClass_of_methodNamed B.named
  have hlocks := B.notSynchronized
  subst hsz
  have hD := hD0.self (sz := s.heap.size)
  generalize hAe : va_A (qaH a0 jch jcD ji6 jhx jch cyI jdE) s.heap.size = A at hD ⊢
  have hA : ∀ q : Nat, s.heap.size ≤ q → A q := fun q h => by rw [← hAe]; exact Or.inr h
  have hS : va_S A s.heap s.heap [] := va_S.rf
  have hP : va_P (dC, dI) vwCl (qaH a0 jch jcD ji6 jhx jch cyI jdE) s.heap := hP
  have hl := lv_entry ([.ref a0, .int p1]) (n := 2) (nbq rfl)
  rw [lg_entry_eq]
  generalize (lg_sl ([.ref a0, .int p1]) ++ List.replicate (2 - (lg_sl ([.ref a0, .int p1])).length) Slot.unset).toArray = ls at hl ⊢
  have hl : lv_has ls 2 [(0, .ref a0), (1, .int p1)] := hl
  have C0 : cfx p s m _ meth c cX1_still (some .int) wsX1_still RX1 2 A (dC, dI) (kT cyB cyI cyJ cyP) := ⟨hx, hb, hr, hts, hown, hlocks, hml, hA, hK, hNw⟩
  clear hAe
  obtain ⟨H, hH⟩ : ∃ H, H = s.heap := ⟨_, rfl⟩
  rw [← hH] at hP ⊢
  have hS : va_S A s.heap H [] := by rw [hH]; exact va_S.rf
  have hS := hS
  refine lv_aload_n hx hb (qaa qzP 0 rfl) rfl (lv_at hl 0 rfl) ?_
  refine va_get (D := (dC, dI)) (ci := 1) (v := .ref jch) (C := RX1) (T := TX1) (N := 4) hx hb hts qaIe hown hK hP 0 rfl rfl 0 (by decide) (hts _ qaxY) (fun _ h9 => h9) rfl (qaa qzP 1 rfl) ?_
  refine lv_bipush (v := 16) hx hb (qaa qzP 2 rfl) (by decide) ?_
  refine lv_iload_n hx hb (qaa qzP 3 rfl) rfl (lv_at hl 1 rfl) ?_
  refine lv_iadd hx hb (qaa qzP 4 rfl) ?_
  refine lv_topi (fun x1 ex1 => ?_)
  have hw := hw x1 ex1
  obtain ⟨hi9, hw⟩ := hw
  refine va_iald hx hb hK hP 1 1 rfl rfl hi9 (qaa qzP 5 rfl) ?_
  refine lv_topi (fun x2 ex2 => ?_)
  have hw := hw x2 ex2
  exact ((W.iret (v := x2) hx hb hr (fun t ht hW => ⟨⟨x2, (), rfl, hw, by rw [ht]; exact hP, va_K.moved hW.alike hK, hD⟩, hS.F ht⟩) hS.2.2 (qaa qzP 6 rfl)))
theorem qPa : ∀ w ∈ u_ws RX1 TX1 4, w ∈ wsX1_endangered := uiM qn7 qV8 (by decide +kernel)
theorem q9K : ∀ w ∈ u_ws RX2 TX2 12, w ∈ wsX1_endangered := uiM qn7 qLg (by decide +kernel)
theorem qNI : (.fieldLink RX1 24 "MarchHares$Days" "down" "LMarchHares$Down;" : Cond) ∈ wsX1_endangered := qn7 322 (by decide +kernel)
theorem q5K : (.fieldLink RX1 32 "MarchHares$Down" "hares" "I" : Cond) ∈ wsX1_endangered := qn7 324 (by decide +kernel)
set_option maxHeartbeats 4000000 in
set_option maxRecDepth 100000 in
theorem qzg {p : Program} {l : Launch} {e : Env} {s : State} {m : MethodId} {args : Array Value} {below : List Frame} {meth : Method} {c : Code} {A : Nat → Prop} (dC : Nat → ClassId) (dI : Nat → Nat → Nat) (cyB cyI cyJ cyP : ClassId) (a0 jfB jch : Nat) (jcD jhx jhp jhq jgi jgj jgk jgz jfR jgl jgO jfS : Value) (jc5 jjn : Int32) (jdE : NI) (Q : Int32 → Prop) (K4 : Int32 → Int32 → Prop) (hK4 : ∀ (H : Heap) (locs : List Loc) (ls : Array Slot) (l1 l2 : Int32), va_P (dC, dI) vwCl (qGf a0 jch jcD jfB jhx jfB jhp jhq jgi jgj jgk jgz jfR jgl jgO jc5 jfS jjn jch cyI jdE) H → va_D A (qGf a0 jch jcD jfB jhx jfB jhp jhq jgi jgj jgk jgz jfR jgl jgO jc5 jfS jjn jch cyI jdE) → va_S A s.heap H locs → lv_has ls 3 [(0, .ref a0), (1, .int l1), (2, .int l2)] → K4 l1 l2 → W p l e (headSpec wsX1_endangered ({ frames := 2, cells := 0, slots := 0, locals := 42 })).room s m args below meth c H locs 0 0 (MQ below (va_Qi (fun (r : Int32) (_ : Unit) => Q r ) (cB (dC, dI) (kT cyB cyI cyJ cyP) A (fun u : Unit => ((qGf a0 jch jcD jfB jhx jfB jhp jhq jgi jgj jgk jgz jfR jgl jgO jc5 jfS jjn jch cyI jdE) : va_W))) A) args s 0 0 A) (F0 m 4 ls [])) (C0 : cfx p s m args meth c cX1_endangered (some .int) wsX1_endangered RX1 3 A (dC, dI) (kT cyB cyI cyJ cyP)) : ∀ (H : Heap) (locs : List Loc) (ls : Array Slot) (l1 l2 : Int32), va_P (dC, dI) vwCl (qGf a0 jch jcD jfB jhx jfB jhp jhq jgi jgj jgk jgz jfR jgl jgO jc5 jfS jjn jch cyI jdE) H → va_D A (qGf a0 jch jcD jfB jhx jfB jhp jhq jgi jgj jgk jgz jfR jgl jgO jc5 jfS jjn jch cyI jdE) → va_S A s.heap H locs → lv_has ls 3 [(0, .ref a0), (1, .int l1), (2, .int l2)] → qs0 jc5 jjn jdE Q K4 l1 l2 → W p l e (headSpec wsX1_endangered ({ frames := 2, cells := 0, slots := 0, locals := 42 })).room s m args below meth c H locs 0 0 (MQ below (va_Qi (fun (r : Int32) (_ : Unit) => Q r ) (cB (dC, dI) (kT cyB cyI cyJ cyP) A (fun u : Unit => ((qGf a0 jch jcD jfB jhx jfB jhp jhq jgi jgj jgk jgz jfR jgl jgO jc5 jfS jjn jch cyI jdE) : va_W))) A) args s 0 0 A) (F0 m 53 ls []) := by
  obtain ⟨hx, hb, hr, hts, hown, hlocks, hml, hA, hK, hNw⟩ := id C0
  intro H locs ls l1 l2 hP hD hS hl hw
  obtain ⟨x10, ex10⟩ : ∃ y : Int32, y = l2 + 1 := ⟨_, rfl⟩
  have hw := hw x10 ex10
  refine lv_iinc (v := x10) (lv' := [(2, .int x10), (0, .ref a0), (1, .int l1)]) hx hb (qaa qcW 15 rfl) hl (k := 2) rfl (by rw [ex10]; rfl) (by decide) rfl (fun ls hl => ?_)
  refine lv_goto (tgt := 4) hx hb (qaa qFC 0 rfl) (by decide) ?_
  exact hK4 _ _ _ l1 x10 hP hD hS (lv_sub hl [1, 2, 0] rfl) hw
set_option maxHeartbeats 4000000 in
set_option maxRecDepth 100000 in
theorem qae7 {p : Program} {l : Launch} {e : Env} {s : State} {m : MethodId} {args : Array Value} {below : List Frame} {meth : Method} {c : Code} {A : Nat → Prop} (dC : Nat → ClassId) (dI : Nat → Nat → Nat) (cyB cyI cyJ cyP : ClassId) (a0 jfB jch : Nat) (jcD jhx jhp jhq jgi jgj jgk jgz jfR jgl jgO jfS : Value) (jc5 jjn : Int32) (jdE : NI) (Q : Int32 → Prop) (C0 : cfx p s m args meth c cX1_endangered (some .int) wsX1_endangered RX1 3 A (dC, dI) (kT cyB cyI cyJ cyP)) : ∀ (n : Nat) (H : Heap) (locs : List Loc) (ls : Array Slot) (l1 l2 : Int32), va_P (dC, dI) vwCl (qGf a0 jch jcD jfB jhx jfB jhp jhq jgi jgj jgk jgz jfR jgl jgO jc5 jfS jjn jch cyI jdE) H → va_D A (qGf a0 jch jcD jfB jhx jfB jhp jhq jgi jgj jgk jgz jfR jgl jgO jc5 jfS jjn jch cyI jdE) → va_S A s.heap H locs → lv_has ls 3 [(0, .ref a0), (1, .int l1), (2, .int l2)] → qe1 jc5 jjn jdE Q n l1 l2 → W p l e (headSpec wsX1_endangered ({ frames := 2, cells := 0, slots := 0, locals := 42 })).room s m args below meth c H locs 0 0 (MQ below (va_Qi (fun (r : Int32) (_ : Unit) => Q r ) (cB (dC, dI) (kT cyB cyI cyJ cyP) A (fun u : Unit => ((qGf a0 jch jcD jfB jhx jfB jhp jhq jgi jgj jgk jgz jfR jgl jgO jc5 jfS jjn jch cyI jdE) : va_W))) A) args s 0 0 A) (F0 m 4 ls []) := by
  obtain ⟨hx, hb, hr, hts, hown, hlocks, hml, hA, hK, hNw⟩ := id C0
  intro n
  induction n with
  | zero => intro H locs ls l1 l2 hP hD hS hl hw; exact False.elim hw
  | succ n ih =>
    intro H locs ls l1 l2 hP hD hS hl hw
    refine lv_iload_n hx hb (qaa qdv 4 rfl) rfl (lv_at hl 2 rfl) ?_
    refine lv_aload_n hx hb (qaa qdv 5 rfl) rfl (lv_at hl 0 rfl) ?_
    refine va_get (D := (dC, dI)) (ci := 1) (v := .ref jfB) (C := RX1) (T := TX1) (N := 4) hx hb hts qPa hown hK hP 0 rfl rfl 2 (by decide) (hts _ qNI) (fun _ h9 => h9) rfl (qaa qdv 6 rfl) ?_
    refine va_get (D := (dC, dI)) (ci := 2) (v := .int jc5) (C := RX2) (T := TX2) (N := 12) hx hb hts q9K hown hK hP 1 rfl rfl 9 (by decide) (hts _ q5K) (fun _ h9 => h9) rfl (qaa qdv 7 rfl) ?_
    refine lv_icmp_ge (tgt := 59) hx hb (qaa qdv 8 rfl) (by decide) (fun c1 => ?_) (fun c1 => ?_)
    · have hw := hw.1 c1
      refine lv_iload_n hx hb (qaa qFC 1 rfl) rfl (lv_at hl 1 rfl) ?_
      exact ((W.iret (v := l1) hx hb hr (fun t ht hW => ⟨⟨l1, (), rfl, hw, by rw [ht]; exact hP, va_K.moved hW.alike hK, hD⟩, hS.F ht⟩) hS.2.2 (qaa qFC 2 rfl)))
    · have hw := hw.2 c1
      refine lv_aload_n hx hb (qaa qdv 9 rfl) rfl (lv_at hl 0 rfl) ?_
      refine lv_iload_n hx hb (qaa qdv 10 rfl) rfl (lv_at hl 2 rfl) ?_
      obtain ⟨hCc, hPc, hDc, hFc⟩ := qac (ws' := (qafK a0 jch jcD jfB jhx jch cyI jdE)) hP hD hS hA [0, 2] (by decide +kernel) rfl
      refine va_calli (va_runV (As := [.int l2]) (rest := []) ⟨hx, hb, hml, hown, hts⟩ (qh8 l dC dI cyB cyI cyJ cyP a0 jch H.size (jcD) (.ref jfB) (jhx) jdE l2 hw) (cwV 1 hts gX1_endangered_X1_isCaught rfl rfl rfl (by decide +kernel) ⟨nbq rfl, nbq rfl⟩) ⟨qab, va_recv (q := (RX1, TX1, 4)) hK hPc (ci := 1) (q0 := 0) rfl rfl, qae hPc hK hDc hNw⟩ rfl rfl hl.1 rfl (lv_room (nbq rfl)) (qaa qdv 11 rfl) ⟨nbq rfl, nbq rfl⟩) hS (fun q _ h => hFc q h) hFc (fun r2 u t H1 locs ht hvm hw hB hz1 hk1 hS => ?_)
      obtain ⟨hP1, hK1, hD1⟩ := hB
      rw [ht] at hP1
      obtain ⟨hP, hD⟩ := qad (wr := (qaT4 jfB jhp jhq jgi jgj jgk jgz jfR jgl jgO jc5 jfS jjn)) (w1 := (qafK a0 jch jcD jfB jhx jch cyI jdE)) (wn := (qGf a0 jch jcD jfB jhx jfB jhp jhq jgi jgj jgk jgz jfR jgl jgO jc5 jfS jjn jch cyI jdE)) hP hD [0, 2] [1] [1, 0, 2] hCc rfl (by decide +kernel) (by decide +kernel) (by decide +kernel) rfl hk1 hFc hP1 hD1
      generalize H1 = H at hP hS ⊢
      refine lv_if_ne (tgt := 53) hx hb (qaa qdv 12 rfl) (by decide) (fun c3 => ?_) (fun c3 => ?_)
      · have hw := hw.1 c3
        exact qzg dC dI cyB cyI cyJ cyP a0 jfB jch jcD jhx jhp jhq jgi jgj jgk jgz jfR jgl jgO jfS jc5 jjn jdE Q (qe1 jc5 jjn jdE Q n) ih C0 _ _ _ l1 l2 hP hD hS (lv_sub hl [0, 1, 2] rfl) hw
      · have hw := hw.2 c3
        refine lv_aload_n hx hb (qaa qdv 13 rfl) rfl (lv_at hl 0 rfl) ?_
        refine va_get (D := (dC, dI)) (ci := 1) (v := .ref jfB) (C := RX1) (T := TX1) (N := 4) hx hb hts qPa hown hK hP 0 rfl rfl 2 (by decide) (hts _ qNI) (fun _ h9 => h9) rfl (qaa qdv 14 rfl) ?_
        refine lv_aload_n hx hb (qaa qdv 15 rfl) rfl (lv_at hl 0 rfl) ?_
        refine lv_iload_n hx hb (qaa qcW 0 rfl) rfl (lv_at hl 2 rfl) ?_
        obtain ⟨hCc, hPc, hDc, hFc⟩ := qac (ws' := (qafK a0 jch jcD jfB jhx jch cyI jdE)) hP hD hS hA [0, 2] (by decide +kernel) rfl
        refine va_calli (va_runV (As := [.int l2]) (rest := [.ref jfB]) ⟨hx, hb, hml, hown, hts⟩ (qvC l dC dI cyB cyI cyJ cyP a0 jch H.size (jcD) (.ref jfB) (jhx) jdE l2 hw) (cwV 1 hts gX1_endangered_X1_sits rfl rfl rfl (by decide +kernel) ⟨nbq rfl, nbq rfl⟩) ⟨qab, va_recv (q := (RX1, TX1, 4)) hK hPc (ci := 1) (q0 := 0) rfl rfl, qae hPc hK hDc hNw⟩ rfl rfl hl.1 rfl (lv_room (nbq rfl)) (qaa qcW 1 rfl) ⟨nbq rfl, nbq rfl⟩) hS (fun q _ h => hFc q h) hFc (fun r4 u t H1 locs ht hvm hw hB hz1 hk1 hS => ?_)
        obtain ⟨hP1, hK1, hD1⟩ := hB
        rw [ht] at hP1
        obtain ⟨hP, hD⟩ := qad (wr := (qaT4 jfB jhp jhq jgi jgj jgk jgz jfR jgl jgO jc5 jfS jjn)) (w1 := (qafK a0 jch jcD jfB jhx jch cyI jdE)) (wn := (qGf a0 jch jcD jfB jhx jfB jhp jhq jgi jgj jgk jgz jfR jgl jgO jc5 jfS jjn jch cyI jdE)) hP hD [0, 2] [1] [1, 0, 2] hCc rfl (by decide +kernel) (by decide +kernel) (by decide +kernel) rfl hk1 hFc hP1 hD1
        generalize H1 = H at hP hS ⊢
        obtain ⟨hCc, hPc, hDc, hFc⟩ := qac (ws' := (qaT4 jfB jhp jhq jgi jgj jgk jgz jfR jgl jgO jc5 jfS jjn)) hP hD hS hA [1] (by decide +kernel) rfl
        refine va_calli (va_runV (As := [.int r4]) (rest := []) ⟨hx, hb, hml, hown, hts⟩ (q2J l dC dI cyB cyI cyJ cyP jfB H.size (jhp) (jhq) (jgi) (jgj) (jgk) (jgz) (jfR) (jgl) (jgO) (.int jc5) (jfS) jjn r4 hw) (cwV 1 hts gX1_endangered_X2_isSafe rfl rfl rfl (by decide +kernel) ⟨nbq rfl, nbq rfl⟩) ⟨qab, va_recv (q := (RX2, TX2, 12)) hK hPc (ci := 2) (q0 := 0) rfl rfl, qae hPc hK hDc hNw⟩ rfl rfl hl.1 rfl (lv_room (nbq rfl)) (qaa qcW 2 rfl) ⟨nbq rfl, nbq rfl⟩) hS (fun q _ h => hFc q h) hFc (fun r5 u t H1 locs ht hvm hw hB hz1 hk1 hS => ?_)
        obtain ⟨hP1, hK1, hD1⟩ := hB
        rw [ht] at hP1
        obtain ⟨hP, hD⟩ := qad (wr := (qafK a0 jch jcD jfB jhx jch cyI jdE)) (w1 := (qaT4 jfB jhp jhq jgi jgj jgk jgz jfR jgl jgO jc5 jfS jjn)) (wn := (qGf a0 jch jcD jfB jhx jfB jhp jhq jgi jgj jgk jgz jfR jgl jgO jc5 jfS jjn jch cyI jdE)) hP hD [1] [0, 2] [0, 2, 1] hCc rfl (by decide +kernel) (by decide +kernel) (by decide +kernel) rfl hk1 hFc hP1 hD1
        generalize H1 = H at hP hS ⊢
        refine lv_if_ne (tgt := 53) hx hb (qaa qcW 3 rfl) (by decide) (fun c6 => ?_) (fun c6 => ?_)
        · have hw := hw.1 c6
          exact qzg dC dI cyB cyI cyJ cyP a0 jfB jch jcD jhx jhp jhq jgi jgj jgk jgz jfR jgl jgO jfS jc5 jjn jdE Q (qe1 jc5 jjn jdE Q n) ih C0 _ _ _ l1 l2 hP hD hS (lv_sub hl [0, 1, 2] rfl) hw
        · have hw := hw.2 c6
          refine lv_aload_n hx hb (qaa qcW 4 rfl) rfl (lv_at hl 0 rfl) ?_
          refine lv_iload_n hx hb (qaa qcW 5 rfl) rfl (lv_at hl 2 rfl) ?_
          obtain ⟨hCc, hPc, hDc, hFc⟩ := qac (ws' := (qafK a0 jch jcD jfB jhx jch cyI jdE)) hP hD hS hA [0, 2] (by decide +kernel) rfl
          refine va_calli (va_runV (As := [.int l2]) (rest := []) ⟨hx, hb, hml, hown, hts⟩ (qacv l dC dI cyB cyI cyJ cyP a0 jch H.size (jcD) (.ref jfB) (jhx) jdE l2 hw) (cwV 1 hts gX1_endangered_X1_still rfl rfl rfl (by decide +kernel) ⟨nbq rfl, nbq rfl⟩) ⟨qab, va_recv (q := (RX1, TX1, 4)) hK hPc (ci := 1) (q0 := 0) rfl rfl, qae hPc hK hDc hNw⟩ rfl rfl hl.1 rfl (lv_room (nbq rfl)) (qaa qcW 6 rfl) ⟨nbq rfl, nbq rfl⟩) hS (fun q _ h => hFc q h) hFc (fun r7 u t H1 locs ht hvm hw hB hz1 hk1 hS => ?_)
          obtain ⟨hP1, hK1, hD1⟩ := hB
          rw [ht] at hP1
          obtain ⟨hP, hD⟩ := qad (wr := (qaT4 jfB jhp jhq jgi jgj jgk jgz jfR jgl jgO jc5 jfS jjn)) (w1 := (qafK a0 jch jcD jfB jhx jch cyI jdE)) (wn := (qGf a0 jch jcD jfB jhx jfB jhp jhq jgi jgj jgk jgz jfR jgl jgO jc5 jfS jjn jch cyI jdE)) hP hD [0, 2] [1] [1, 0, 2] hCc rfl (by decide +kernel) (by decide +kernel) (by decide +kernel) rfl hk1 hFc hP1 hD1
          generalize H1 = H at hP hS ⊢
          refine lv_iconst (v := 3) hx hb (qaa qcW 7 rfl) (by decide) ?_
          refine lv_icmp_ge (tgt := 53) hx hb (qaa qcW 8 rfl) (by decide) (fun c8 => ?_) (fun c8 => ?_)
          · have hw := hw.1 c8
            exact qzg dC dI cyB cyI cyJ cyP a0 jfB jch jcD jhx jhp jhq jgi jgj jgk jgz jfR jgl jgO jfS jc5 jjn jdE Q (qe1 jc5 jjn jdE Q n) ih C0 _ _ _ l1 l2 hP hD hS (lv_sub hl [0, 1, 2] rfl) hw
          · have hw := hw.2 c8
            refine lv_iload_n hx hb (qaa qcW 9 rfl) rfl (lv_at hl 1 rfl) ?_
            refine lv_iconst (v := 1) hx hb (qaa qcW 10 rfl) (by decide) ?_
            refine lv_iload_n hx hb (qaa qcW 11 rfl) rfl (lv_at hl 2 rfl) ?_
            refine lv_ishl hx hb (qaa qcW 12 rfl) ?_
            refine lv_ior hx hb (qaa qcW 13 rfl) ?_
            refine lv_topi (fun x9 ex9 => ?_)
            have hw := hw x9 ex9
            refine lv_istore_n (lv' := [(1, .int x9), (0, .ref a0), (2, .int l2)]) hx hb (qaa qcW 14 rfl) rfl hl (by decide) rfl (fun ls hl => ?_)
            exact qzg dC dI cyB cyI cyJ cyP a0 jfB jch jcD jhx jhp jhq jgi jgj jgk jgz jfR jgl jgO jfS jc5 jjn jdE Q (qe1 jc5 jjn jdE Q n) ih C0 _ _ _ x9 l2 hP hD hS (lv_sub hl [1, 0, 2] rfl) hw
set_option maxHeartbeats 4000000 in
set_option maxRecDepth 100000 in
theorem qZO (l : Launch) (dC : Nat → ClassId) (dI : Nat → Nat → Nat) (cyB cyI cyJ cyP : ClassId) (a0 jfB jch sz : Nat) (jcD jhx jhp jhq jgi jgj jgk jgz jfR jgl jgO jfS : Value) (jc5 jjn : Int32) (jdE : NI) {Q : Int32 → Prop} (hw : qAb jc5 jjn jdE Q) : Met l yX1_endangered wsX1_endangered ({ frames := 2, cells := 0, slots := 0, locals := 42 }) (va_Pc [.ref a0] (cPc (dC, dI) (kT cyB cyI cyJ cyP) (qGf a0 jch jcD jfB jhx jfB jhp jhq jgi jgj jgk jgz jfR jgl jgO jc5 jfS jjn jch cyI jdE) sz)) (va_Qi (fun (r : Int32) (_ : Unit) => Q r ) (cB (dC, dI) (kT cyB cyI cyJ cyP) (va_A (qGf a0 jch jcD jfB jhx jfB jhp jhq jgi jgj jgk jgz jfR jgl jgO jc5 jfS jjn jch cyI jdE) sz) (fun u : Unit => ((qGf a0 jch jcD jfB jhx jfB jhp jhq jgi jgj jgk jgz jfR jgl jgO jc5 jfS jjn jch cyI jdE) : va_W))) (va_A (qGf a0 jch jcD jfB jhx jfB jhp jhq jgi jgj jgk jgz jfR jgl jgO jc5 jfS jjn jch cyI jdE) sz)) 0 0 (va_A (qGf a0 jch jcD jfB jhx jfB jhp jhq jgi jgj jgk jgz jfR jgl jgO jc5 jfS jjn jch cyI jdE) sz) := by
  refine Met.ofW (cc := cX1_endangered) (maxL := 3) (ret := (some .int)) (by decide) rfl ?_
  intro p e s m args below meth c s₁ B hml hv
  obtain ⟨rfl, hsz, hP, hK, hD0, hNw⟩ := hv
  have hx := B.exec
  have hb := B.bytes
  have hr := B.returns
  have hts := atoms_spec (ws := wsX1_endangered) B.pre
  have hown : s.vm.findClass RX1 = some m.cls := findClass_of_methodNamed B.named
  have hlocks := B.notSynchronized
  subst hsz
  have hD := hD0.self (sz := s.heap.size)
  generalize hAe : va_A (qGf a0 jch jcD jfB jhx jfB jhp jhq jgi jgj jgk jgz jfR jgl jgO jc5 jfS jjn jch cyI jdE) s.heap.size = A at hD ⊢
  have hA : ∀ q : Nat, s.heap.size ≤ q → A q := fun q h => by rw [← hAe]; exact Or.inr h
  have hS : va_S A s.heap s.heap [] := va_S.rf
  have hP : va_P (dC, dI) vwCl (qGf a0 jch jcD jfB jhx jfB jhp jhq jgi jgj jgk jgz jfR jgl jgO jc5 jfS jjn jch cyI jdE) s.heap := hP
  have hl := lv_entry ([.ref a0]) (n := 3) (nbq rfl)
  rw [lg_entry_eq]
  generalize (lg_sl ([.ref a0]) ++ List.replicate (3 - (lg_sl ([.ref a0])).length) Slot.unset).toArray = ls at hl ⊢
  have hl : lv_has ls 3 [(0, .ref a0)] := hl
  have C0 : cfx p s m _ meth c cX1_endangered (some .int) wsX1_endangered RX1 3 A (dC, dI) (kT cyB cyI cyJ cyP) := ⟨hx, hb, hr, hts, hown, hlocks, hml, hA, hK, hNw⟩
  clear hAe
  obtain ⟨H, hH⟩ : ∃ H, H = s.heap := ⟨_, rfl⟩
  rw [← hH] at hP ⊢
  have hS : va_S A s.heap H [] := by rw [hH]; exact va_S.rf
  have hS := hS
  refine lv_iconst (v := 0) hx hb (qaa qdv 0 rfl) (by decide) ?_
  refine lv_istore_n (lv' := [(1, .int 0), (0, .ref a0)]) hx hb (qaa qdv 1 rfl) rfl hl (by decide) rfl (fun ls hl => ?_)
  refine lv_iconst (v := 0) hx hb (qaa qdv 2 rfl) (by decide) ?_
  refine lv_istore_n (lv' := [(2, .int 0), (1, .int 0), (0, .ref a0)]) hx hb (qaa qdv 3 rfl) rfl hl (by decide) rfl (fun ls hl => ?_)
  obtain ⟨n9, hw⟩ := hw
  exact qae7 dC dI cyB cyI cyJ cyP a0 jfB jch jcD jhx jhp jhq jgi jgj jgk jgz jfR jgl jgO jfS jc5 jjn jdE Q C0 n9 _ _ _ 0 0 hP hD hS (lv_sub hl [2, 1, 0] rfl) hw
theorem qGQ : ∀ w ∈ u_ws RX1 TX1 4, w ∈ wsX1_dropDebts := uiM qEn qV8 (by decide +kernel)
theorem qagC : ∀ w ∈ u_ws RX2 TX2 12, w ∈ wsX1_dropDebts := uiM qEn qLg (by decide +kernel)
theorem qRj : (.fieldLink RX1 13 "MarchHares$Days" "row" "[I" : Cond) ∈ wsX1_dropDebts := qEn 276 (by decide +kernel)
theorem q8H : (.fieldLink RX1 24 "MarchHares$Days" "down" "LMarchHares$Down;" : Cond) ∈ wsX1_dropDebts := qEn 322 (by decide +kernel)
theorem q9d : (.fieldLink RX1 32 "MarchHares$Down" "hares" "I" : Cond) ∈ wsX1_dropDebts := qEn 324 (by decide +kernel)
set_option maxHeartbeats 4000000 in
set_option maxRecDepth 100000 in
theorem qakd {p : Program} {l : Launch} {e : Env} {s : State} {m : MethodId} {args : Array Value} {below : List Frame} {meth : Method} {c : Code} {A : Nat → Prop} (dC : Nat → ClassId) (dI : Nat → Nat → Nat) (cyB cyI cyJ cyP : ClassId) (a0 jfB jch : Nat) (jcD jhx jhp jhq jgi jgj jgk jgz jfR jgl jgO jfS jiB : Value) (jc5 : Int32) (Q : NI → Prop) (C0 : cfx p s m args meth c cX1_dropDebts none wsX1_dropDebts RX1 3 A (dC, dI) (kT cyB cyI cyJ cyP)) : ∀ (n : Nat) (H : Heap) (locs : List Loc) (ls : Array Slot) (jdE : NI) (l1 l2 : Int32), va_P (dC, dI) vwCl (qpO a0 jch jcD jfB jhx jfB jhp jhq jgi jgj jgk jgz jfR jgl jgO jc5 jfS jiB jch cyI jdE) H → va_D A (qpO a0 jch jcD jfB jhx jfB jhp jhq jgi jgj jgk jgz jfR jgl jgO jc5 jfS jiB jch cyI jdE) → va_S A s.heap H locs → lv_has ls 3 [(0, .ref a0), (1, .int l1), (2, .int l2)] → qyO jc5 Q n jdE l1 l2 → W p l e (headSpec wsX1_dropDebts ({ frames := 0, cells := 0, slots := 0, locals := 0 })).room s m args below meth c H locs 0 0 (MQ below (va_Qv (fun (u : NI) => Q u) (cB (dC, dI) (kT cyB cyI cyJ cyP) A (fun u : NI => ((qpO a0 jch jcD jfB jhx jfB jhp jhq jgi jgj jgk jgz jfR jgl jgO jc5 jfS jiB jch cyI u) : va_W))) A) args s 0 0 A) (F0 m 2 ls []) := by
  obtain ⟨hx, hb, hr, hts, hown, hlocks, hml, hA, hK, hNw⟩ := id C0
  intro n
  induction n with
  | zero => intro H locs ls jdE l1 l2 hP hD hS hl hw; exact False.elim hw
  | succ n ih =>
    intro H locs ls jdE l1 l2 hP hD hS hl hw
    refine lv_iload_n hx hb (qaa qdV 2 rfl) rfl (lv_at hl 2 rfl) ?_
    refine lv_aload_n hx hb (qaa qdV 3 rfl) rfl (lv_at hl 0 rfl) ?_
    refine va_get (D := (dC, dI)) (ci := 1) (v := .ref jfB) (C := RX1) (T := TX1) (N := 4) hx hb hts qGQ hown hK hP 0 rfl rfl 2 (by decide) (hts _ q8H) (fun _ h9 => h9) rfl (qaa qdV 4 rfl) ?_
    refine va_get (D := (dC, dI)) (ci := 2) (v := .int jc5) (C := RX2) (T := TX2) (N := 12) hx hb hts qagC hown hK hP 1 rfl rfl 9 (by decide) (hts _ q9d) (fun _ h9 => h9) rfl (qaa qdV 5 rfl) ?_
    refine lv_icmp_ge (tgt := 49) hx hb (qaa qdV 6 rfl) (by decide) (fun c1 => ?_) (fun c1 => ?_)
    · have hw := hw.1 c1
      exact ((W.vret hx hb hr (fun t ht hW => ⟨⟨(jdE), rfl, hw, by rw [ht]; exact hP, va_K.moved hW.alike hK, hD⟩, hS.F ht⟩) hS.2.2 (qaa qda 15 rfl)))
    · have hw := hw.2 c1
      refine lv_aload_n hx hb (qaa qdV 7 rfl) rfl (lv_at hl 0 rfl) ?_
      refine va_get (D := (dC, dI)) (ci := 1) (v := .ref jch) (C := RX1) (T := TX1) (N := 4) hx hb hts qGQ hown hK hP 0 rfl rfl 0 (by decide) (hts _ qRj) (fun _ h9 => h9) rfl (qaa qdV 8 rfl) ?_
      refine lv_bipush (v := 28) hx hb (qaa qdV 9 rfl) (by decide) ?_
      refine lv_iload_n hx hb (qaa qdV 10 rfl) rfl (lv_at hl 1 rfl) ?_
      refine lv_bipush (v := 6) hx hb (qaa qdV 11 rfl) (by decide) ?_
      refine lv_imul hx hb (qaa qdV 12 rfl) ?_
      refine lv_iadd hx hb (qaa qdV 13 rfl) ?_
      refine lv_topi (fun x2 ex2 => ?_)
      have hw := hw x2 ex2
      refine lv_iload_n hx hb (qaa qdV 14 rfl) rfl (lv_at hl 2 rfl) ?_
      refine lv_iadd hx hb (qaa qdV 15 rfl) ?_
      refine lv_topi (fun x3 ex3 => ?_)
      have hw := hw x3 ex3
      refine lv_iconst (v := 0) hx hb (qaa qda 0 rfl) (by decide) ?_
      obtain ⟨hi9, hw⟩ := hw
      refine va_iast hx hb hK hP hD hS 2 1 rfl rfl hi9 (qaa qda 1 rfl) (fun H locs hP hD hS => ?_)
      obtain ⟨f4, ef4⟩ : ∃ y : NI, y = upd jdE x3.toNatClampNeg 0 := ⟨_, rfl⟩
      have hw := hw f4 ef4
      have hP : va_P (dC, dI) vwCl (qpO a0 jch jcD jfB jhx jfB jhp jhq jgi jgj jgk jgz jfR jgl jgO jc5 jfS jiB jch cyI f4) H := by rw [ef4]; exact hP
      have hD : va_D A (qpO a0 jch jcD jfB jhx jfB jhp jhq jgi jgj jgk jgz jfR jgl jgO jc5 jfS jiB jch cyI f4) := by rw [ef4]; exact hD
      refine lv_aload_n hx hb (qaa qda 2 rfl) rfl (lv_at hl 0 rfl) ?_
      refine va_get (D := (dC, dI)) (ci := 1) (v := .ref jch) (C := RX1) (T := TX1) (N := 4) hx hb hts qGQ hown hK hP 0 rfl rfl 0 (by decide) (hts _ qRj) (fun _ h9 => h9) rfl (qaa qda 3 rfl) ?_
      refine lv_bipush (v := 28) hx hb (qaa qda 4 rfl) (by decide) ?_
      refine lv_iload_n hx hb (qaa qda 5 rfl) rfl (lv_at hl 2 rfl) ?_
      refine lv_bipush (v := 6) hx hb (qaa qda 6 rfl) (by decide) ?_
      refine lv_imul hx hb (qaa qda 7 rfl) ?_
      refine lv_iadd hx hb (qaa qda 8 rfl) ?_
      refine lv_topi (fun x5 ex5 => ?_)
      have hw := hw x5 ex5
      refine lv_iload_n hx hb (qaa qda 9 rfl) rfl (lv_at hl 1 rfl) ?_
      refine lv_iadd hx hb (qaa qda 10 rfl) ?_
      refine lv_topi (fun x6 ex6 => ?_)
      have hw := hw x6 ex6
      refine lv_iconst (v := 0) hx hb (qaa qda 11 rfl) (by decide) ?_
      obtain ⟨hi9, hw⟩ := hw
      refine va_iast hx hb hK hP hD hS 2 1 rfl rfl hi9 (qaa qda 12 rfl) (fun H locs hP hD hS => ?_)
      obtain ⟨f7, ef7⟩ : ∃ y : NI, y = upd f4 x6.toNatClampNeg 0 := ⟨_, rfl⟩
      have hw := hw f7 ef7
      have hP : va_P (dC, dI) vwCl (qpO a0 jch jcD jfB jhx jfB jhp jhq jgi jgj jgk jgz jfR jgl jgO jc5 jfS jiB jch cyI f7) H := by rw [ef7]; exact hP
      have hD : va_D A (qpO a0 jch jcD jfB jhx jfB jhp jhq jgi jgj jgk jgz jfR jgl jgO jc5 jfS jiB jch cyI f7) := by rw [ef7]; exact hD
      obtain ⟨x8, ex8⟩ : ∃ y : Int32, y = l2 + 1 := ⟨_, rfl⟩
      have hw := hw x8 ex8
      refine lv_iinc (v := x8) (lv' := [(2, .int x8), (0, .ref a0), (1, .int l1)]) hx hb (qaa qda 13 rfl) hl (k := 2) rfl (by rw [ex8]; rfl) (by decide) rfl (fun ls hl => ?_)
      refine lv_goto (tgt := 2) hx hb (qaa qda 14 rfl) (by decide) ?_
      exact ih _ _ _ f7 l1 x8 hP hD hS (lv_sub hl [1, 2, 0] rfl) hw
set_option maxHeartbeats 4000000 in
set_option maxRecDepth 100000 in
theorem qaBn (l : Launch) (dC : Nat → ClassId) (dI : Nat → Nat → Nat) (cyB cyI cyJ cyP : ClassId) (a0 jfB jch sz : Nat) (jcD jhx jhp jhq jgi jgj jgk jgz jfR jgl jgO jfS jiB : Value) (jc5 : Int32) (jdE : NI) (p1 : Int32) {Q : NI → Prop} (hw : qII jc5 jdE p1 Q) : Met l yX1_dropDebts wsX1_dropDebts ({ frames := 0, cells := 0, slots := 0, locals := 0 }) (va_Pc [.ref a0, .int p1] (cPc (dC, dI) (kT cyB cyI cyJ cyP) (qpO a0 jch jcD jfB jhx jfB jhp jhq jgi jgj jgk jgz jfR jgl jgO jc5 jfS jiB jch cyI jdE) sz)) (va_Qv (fun (u : NI) => Q u) (cB (dC, dI) (kT cyB cyI cyJ cyP) (va_A (qpO a0 jch jcD jfB jhx jfB jhp jhq jgi jgj jgk jgz jfR jgl jgO jc5 jfS jiB jch cyI jdE) sz) (fun u : NI => ((qpO a0 jch jcD jfB jhx jfB jhp jhq jgi jgj jgk jgz jfR jgl jgO jc5 jfS jiB jch cyI u) : va_W))) (va_A (qpO a0 jch jcD jfB jhx jfB jhp jhq jgi jgj jgk jgz jfR jgl jgO jc5 jfS jiB jch cyI jdE) sz)) 0 0 (va_A (qpO a0 jch jcD jfB jhx jfB jhp jhq jgi jgj jgk jgz jfR jgl jgO jc5 jfS jiB jch cyI jdE) sz) := by
  refine Met.ofW (cc := cX1_dropDebts) (maxL := 3) (ret := none) (by decide) rfl ?_
  intro p e s m args below meth c s₁ B hml hv
  obtain ⟨rfl, hsz, hP, hK, hD0, hNw⟩ := hv
  have hx := B.exec
  have hb := B.bytes
  have hr := B.returns
  have hts := atoms_spec (ws := wsX1_dropDebts) B.pre
  have hown : s.vm.findClass RX1 = some m.cls := findClass_of_methodNamed B.named
  have hlocks := B.notSynchronized
  subst hsz
  have hD := hD0.self (sz := s.heap.size)
  generalize hAe : va_A (qpO a0 jch jcD jfB jhx jfB jhp jhq jgi jgj jgk jgz jfR jgl jgO jc5 jfS jiB jch cyI jdE) s.heap.size = A at hD ⊢
  have hA : ∀ q : Nat, s.heap.size ≤ q → A q := fun q h => by rw [← hAe]; exact Or.inr h
  have hS : va_S A s.heap s.heap [] := va_S.rf
  have hP : va_P (dC, dI) vwCl (qpO a0 jch jcD jfB jhx jfB jhp jhq jgi jgj jgk jgz jfR jgl jgO jc5 jfS jiB jch cyI jdE) s.heap := hP
  have hl := lv_entry ([.ref a0, .int p1]) (n := 3) (nbq rfl)
  rw [lg_entry_eq]
  generalize (lg_sl ([.ref a0, .int p1]) ++ List.replicate (3 - (lg_sl ([.ref a0, .int p1])).length) Slot.unset).toArray = ls at hl ⊢
  have hl : lv_has ls 3 [(0, .ref a0), (1, .int p1)] := hl
  have C0 : cfx p s m _ meth c cX1_dropDebts none wsX1_dropDebts RX1 3 A (dC, dI) (kT cyB cyI cyJ cyP) := ⟨hx, hb, hr, hts, hown, hlocks, hml, hA, hK, hNw⟩
  clear hAe
  obtain ⟨H, hH⟩ : ∃ H, H = s.heap := ⟨_, rfl⟩
  rw [← hH] at hP ⊢
  have hS : va_S A s.heap H [] := by rw [hH]; exact va_S.rf
  have hS := hS
  refine lv_iconst (v := 0) hx hb (qaa qdV 0 rfl) (by decide) ?_
  refine lv_istore_n (lv' := [(2, .int 0), (0, .ref a0), (1, .int p1)]) hx hb (qaa qdV 1 rfl) rfl hl (by decide) rfl (fun ls hl => ?_)
  obtain ⟨n9, hw⟩ := hw
  exact qakd dC dI cyB cyI cyJ cyP a0 jfB jch jcD jhx jhp jhq jgi jgj jgk jgz jfR jgl jgO jfS jiB jc5 Q C0 n9 _ _ _ jdE p1 0 hP hD hS (lv_sub hl [1, 2, 0] rfl) hw
theorem qCe : ∀ w ∈ u_ws RX1 TX1 4, w ∈ wsX1_strike := uiM qto qV8 (by decide +kernel)
theorem q3M : ∀ w ∈ u_ws RX2 TX2 12, w ∈ wsX1_strike := uiM qto qLg (by decide +kernel)
theorem qMr : (.fieldLink RX1 13 "MarchHares$Days" "row" "[I" : Cond) ∈ wsX1_strike := qto 276 (by decide +kernel)
theorem qZP : (.fieldLink RX1 24 "MarchHares$Days" "down" "LMarchHares$Down;" : Cond) ∈ wsX1_strike := qto 322 (by decide +kernel)
theorem qat5 : (.fieldLink RX1 32 "MarchHares$Down" "hares" "I" : Cond) ∈ wsX1_strike := qto 324 (by decide +kernel)
theorem qar9 : (.fieldLink RX1 39 "MarchHares$Down" "strength" "[I" : Cond) ∈ wsX1_strike := qto 326 (by decide +kernel)
theorem q6M : (.initialized RX10 : Cond) ∈ wsX1_strike := qto 2 (by decide +kernel)
theorem qVX : (.static yX10_holds : Cond) ∈ wsX1_strike := qto 2052 (by decide +kernel)
set_option maxHeartbeats 4000000 in
set_option maxRecDepth 100000 in
theorem q33 {p : Program} {l : Launch} {e : Env} {s : State} {m : MethodId} {args : Array Value} {below : List Frame} {meth : Method} {c : Code} {A : Nat → Prop} (dC : Nat → ClassId) (dI : Nat → Nat → Nat) (cyB cyI cyJ cyP : ClassId) (a0 jfB jch jip : Nat) (jcD jhx jhp jhq jgi jgj jgk jfR jgl jgO jfS : Value) (jc5 jjn : Int32) (jjx : NI) (Q : NI → Prop) (K7 : NI → Int32 → Int32 → Prop) (hK7 : ∀ (H : Heap) (locs : List Loc) (ls : Array Slot) (jdE : NI) (l1 l2 : Int32), va_P (dC, dI) vwCl (qeT a0 jch jcD jfB jhx jfB jhp jhq jgi jgj jgk jip jfR jgl jgO jc5 jfS jjn jch cyI jdE jip cyI jjx) H → va_D A (qeT a0 jch jcD jfB jhx jfB jhp jhq jgi jgj jgk jip jfR jgl jgO jc5 jfS jjn jch cyI jdE jip cyI jjx) → va_S A s.heap H locs → lv_has ls 3 [(0, .ref a0), (1, .int l1), (2, .int l2)] → K7 jdE l1 l2 → W p l e (headSpec wsX1_strike ({ frames := 3, cells := 0, slots := 0, locals := 64 })).room s m args below meth c H locs 0 0 (MQ below (va_Qv (fun (u : NI) => Q u) (cB (dC, dI) (kT cyB cyI cyJ cyP) A (fun u : NI => ((qeT a0 jch jcD jfB jhx jfB jhp jhq jgi jgj jgk jip jfR jgl jgO jc5 jfS jjn jch cyI u jip cyI jjx) : va_W))) A) args s 0 0 A) (F0 m 7 ls [])) (C0 : cfx p s m args meth c cX1_strike none wsX1_strike RX1 3 A (dC, dI) (kT cyB cyI cyJ cyP)) : ∀ (H : Heap) (locs : List Loc) (ls : Array Slot) (jdE : NI) (l1 l2 : Int32), va_P (dC, dI) vwCl (qeT a0 jch jcD jfB jhx jfB jhp jhq jgi jgj jgk jip jfR jgl jgO jc5 jfS jjn jch cyI jdE jip cyI jjx) H → va_D A (qeT a0 jch jcD jfB jhx jfB jhp jhq jgi jgj jgk jip jfR jgl jgO jc5 jfS jjn jch cyI jdE jip cyI jjx) → va_S A s.heap H locs → lv_has ls 3 [(0, .ref a0), (1, .int l1), (2, .int l2)] → qI4 jc5 jjn jjx Q K7 jdE l1 l2 → W p l e (headSpec wsX1_strike ({ frames := 3, cells := 0, slots := 0, locals := 64 })).room s m args below meth c H locs 0 0 (MQ below (va_Qv (fun (u : NI) => Q u) (cB (dC, dI) (kT cyB cyI cyJ cyP) A (fun u : NI => ((qeT a0 jch jcD jfB jhx jfB jhp jhq jgi jgj jgk jip jfR jgl jgO jc5 jfS jjn jch cyI u jip cyI jjx) : va_W))) A) args s 0 0 A) (F0 m 74 ls []) := by
  obtain ⟨hx, hb, hr, hts, hown, hlocks, hml, hA, hK, hNw⟩ := id C0
  intro H locs ls jdE l1 l2 hP hD hS hl hw
  obtain ⟨x14, ex14⟩ : ∃ y : Int32, y = l2 + 1 := ⟨_, rfl⟩
  have hw := hw x14 ex14
  refine lv_iinc (v := x14) (lv' := [(2, .int x14), (0, .ref a0), (1, .int l1)]) hx hb (qaa qhK 14 rfl) hl (k := 2) rfl (by rw [ex14]; rfl) (by decide) rfl (fun ls hl => ?_)
  refine lv_goto (tgt := 7) hx hb (qaa qhK 15 rfl) (by decide) ?_
  exact hK7 _ _ _ jdE l1 x14 hP hD hS (lv_sub hl [1, 2, 0] rfl) hw
set_option maxHeartbeats 4000000 in
set_option maxRecDepth 100000 in
theorem qaGK {p : Program} {l : Launch} {e : Env} {s : State} {m : MethodId} {args : Array Value} {below : List Frame} {meth : Method} {c : Code} {A : Nat → Prop} (dC : Nat → ClassId) (dI : Nat → Nat → Nat) (cyB cyI cyJ cyP : ClassId) (a0 jfB jch jip : Nat) (jcD jhx jhp jhq jgi jgj jgk jfR jgl jgO jfS : Value) (jc5 jjn : Int32) (jjx : NI) (Q : NI → Prop) (C0 : cfx p s m args meth c cX1_strike none wsX1_strike RX1 3 A (dC, dI) (kT cyB cyI cyJ cyP)) : ∀ (n : Nat) (H : Heap) (locs : List Loc) (ls : Array Slot) (jdE : NI) (l1 l2 : Int32), va_P (dC, dI) vwCl (qeT a0 jch jcD jfB jhx jfB jhp jhq jgi jgj jgk jip jfR jgl jgO jc5 jfS jjn jch cyI jdE jip cyI jjx) H → va_D A (qeT a0 jch jcD jfB jhx jfB jhp jhq jgi jgj jgk jip jfR jgl jgO jc5 jfS jjn jch cyI jdE jip cyI jjx) → va_S A s.heap H locs → lv_has ls 3 [(0, .ref a0), (1, .int l1), (2, .int l2)] → qrM jc5 jjn jjx Q n jdE l1 l2 → W p l e (headSpec wsX1_strike ({ frames := 3, cells := 0, slots := 0, locals := 64 })).room s m args below meth c H locs 0 0 (MQ below (va_Qv (fun (u : NI) => Q u) (cB (dC, dI) (kT cyB cyI cyJ cyP) A (fun u : NI => ((qeT a0 jch jcD jfB jhx jfB jhp jhq jgi jgj jgk jip jfR jgl jgO jc5 jfS jjn jch cyI u jip cyI jjx) : va_W))) A) args s 0 0 A) (F0 m 7 ls []) := by
  obtain ⟨hx, hb, hr, hts, hown, hlocks, hml, hA, hK, hNw⟩ := id C0
  intro n
  induction n with
  | zero => intro H locs ls jdE l1 l2 hP hD hS hl hw; exact False.elim hw
  | succ n ih =>
    intro H locs ls jdE l1 l2 hP hD hS hl hw
    refine lv_iload_n hx hb (qaa qkb 5 rfl) rfl (lv_at hl 2 rfl) ?_
    refine lv_aload_n hx hb (qaa qkb 6 rfl) rfl (lv_at hl 0 rfl) ?_
    refine va_get (D := (dC, dI)) (ci := 1) (v := .ref jfB) (C := RX1) (T := TX1) (N := 4) hx hb hts qCe hown hK hP 0 rfl rfl 2 (by decide) (hts _ qZP) (fun _ h9 => h9) rfl (qaa qkb 7 rfl) ?_
    refine va_get (D := (dC, dI)) (ci := 2) (v := .int jc5) (C := RX2) (T := TX2) (N := 12) hx hb hts q3M hown hK hP 1 rfl rfl 9 (by decide) (hts _ qat5) (fun _ h9 => h9) rfl (qaa qkb 8 rfl) ?_
    refine lv_icmp_ge (tgt := 80) hx hb (qaa qkb 9 rfl) (by decide) (fun c2 => ?_) (fun c2 => ?_)
    · have hw := hw.1 c2
      exact ((W.vret hx hb hr (fun t ht hW => ⟨⟨(jdE), rfl, hw, by rw [ht]; exact hP, va_K.moved hW.alike hK, hD⟩, hS.F ht⟩) hS.2.2 (qaa qaCT 0 rfl)))
    · have hw := hw.2 c2
      refine lv_iload_n hx hb (qaa qkb 10 rfl) rfl (lv_at hl 1 rfl) ?_
      refine lv_iload_n hx hb (qaa qkb 11 rfl) rfl (lv_at hl 2 rfl) ?_
      obtain ⟨hCc, hPc, hDc, hFc⟩ := qac (ws' := []) hP hD hS hA [] (by decide +kernel) rfl
      refine va_calli (va_runSN (As := [.int l1, .int l2]) (rest := []) ⟨hx, hb, hml, hown, hts⟩ (qnt l dC dI cyB cyI cyJ cyP H.size l1 l2 hw) ⟨(va_cnB 2 hts gX1_strike_X10_holds_n120 rfl rfl rfl (nw_9 hNw) (hts _ q6M) (by decide +kernel) ⟨nbq rfl, nbq rfl⟩), (hts _ qVX), trivial⟩ ⟨qab, qae hPc hK hDc hNw⟩ rfl rfl hl.1 rfl (lv_room (nbq rfl)) (qaa qkb 12 rfl) ⟨nbq rfl, nbq rfl⟩) hS (fun q _ h => hFc q h) hFc (fun r3 u t H1 locs ht hvm hw hB hz1 hk1 hS => ?_)
      obtain ⟨hP1, hK1, hD1⟩ := hB
      rw [ht] at hP1
      obtain ⟨hP, hD⟩ := qah (wr := (qeT a0 jch jcD jfB jhx jfB jhp jhq jgi jgj jgk jip jfR jgl jgO jc5 jfS jjn jch cyI jdE jip cyI jjx)) (w1 := []) (wn := (qeT a0 jch jcD jfB jhx jfB jhp jhq jgi jgj jgk jip jfR jgl jgO jc5 jfS jjn jch cyI jdE jip cyI jjx)) hP hD [] [0, 1, 2, 3] hCc rfl (by decide +kernel) (by decide +kernel) rfl hk1 hFc hP1 hD1
      generalize H1 = H at hP hS ⊢
      refine lv_if_eq (tgt := 46) hx hb (qaa qkb 13 rfl) (by decide) (fun c4 => ?_) (fun c4 => ?_)
      · have hw := hw.1 c4
        refine lv_aload_n hx hb (qaa qhN 12 rfl) rfl (lv_at hl 0 rfl) ?_
        refine va_get (D := (dC, dI)) (ci := 1) (v := .ref jch) (C := RX1) (T := TX1) (N := 4) hx hb hts qCe hown hK hP 0 rfl rfl 0 (by decide) (hts _ qMr) (fun _ h9 => h9) rfl (qaa qhN 13 rfl) ?_
        refine lv_bipush (v := 10) hx hb (qaa qhN 14 rfl) (by decide) ?_
        refine lv_iload_n hx hb (qaa qhN 15 rfl) rfl (lv_at hl 2 rfl) ?_
        refine lv_iadd hx hb (qaa qhK 0 rfl) ?_
        refine lv_topi (fun x5 ex5 => ?_)
        have hw := hw x5 ex5
        refine lv_aload_n hx hb (qaa qhK 1 rfl) rfl (lv_at hl 0 rfl) ?_
        refine va_get (D := (dC, dI)) (ci := 1) (v := .ref jfB) (C := RX1) (T := TX1) (N := 4) hx hb hts qCe hown hK hP 0 rfl rfl 2 (by decide) (hts _ qZP) (fun _ h9 => h9) rfl (qaa qhK 2 rfl) ?_
        refine va_get (D := (dC, dI)) (ci := 2) (v := .ref jip) (C := RX2) (T := TX2) (N := 12) hx hb hts q3M hown hK hP 1 rfl rfl 5 (by decide) (hts _ qar9) (fun _ h9 => h9) rfl (qaa qhK 3 rfl) ?_
        refine lv_iload_n hx hb (qaa qhK 4 rfl) rfl (lv_at hl 2 rfl) ?_
        obtain ⟨hi9, hw⟩ := hw
        refine va_iald hx hb hK hP 3 1 rfl rfl hi9 (qaa qhK 5 rfl) ?_
        refine lv_topi (fun x6 ex6 => ?_)
        have hw := hw x6 ex6
        obtain ⟨hi9, hw⟩ := hw
        refine va_iast hx hb hK hP hD hS 2 1 rfl rfl hi9 (qaa qhK 6 rfl) (fun H locs hP hD hS => ?_)
        obtain ⟨f7, ef7⟩ : ∃ y : NI, y = upd jdE x5.toNatClampNeg x6 := ⟨_, rfl⟩
        have hw := hw f7 ef7
        have hP : va_P (dC, dI) vwCl (qeT a0 jch jcD jfB jhx jfB jhp jhq jgi jgj jgk jip jfR jgl jgO jc5 jfS jjn jch cyI f7 jip cyI jjx) H := by rw [ef7]; exact hP
        have hD : va_D A (qeT a0 jch jcD jfB jhx jfB jhp jhq jgi jgj jgk jip jfR jgl jgO jc5 jfS jjn jch cyI f7 jip cyI jjx) := by rw [ef7]; exact hD
        refine lv_aload_n hx hb (qaa qhK 7 rfl) rfl (lv_at hl 0 rfl) ?_
        refine va_get (D := (dC, dI)) (ci := 1) (v := .ref jch) (C := RX1) (T := TX1) (N := 4) hx hb hts qCe hown hK hP 0 rfl rfl 0 (by decide) (hts _ qMr) (fun _ h9 => h9) rfl (qaa qhK 8 rfl) ?_
        refine lv_bipush (v := 16) hx hb (qaa qhK 9 rfl) (by decide) ?_
        refine lv_iload_n hx hb (qaa qhK 10 rfl) rfl (lv_at hl 2 rfl) ?_
        refine lv_iadd hx hb (qaa qhK 11 rfl) ?_
        refine lv_topi (fun x8 ex8 => ?_)
        have hw := hw x8 ex8
        refine lv_iconst (v := 0) hx hb (qaa qhK 12 rfl) (by decide) ?_
        obtain ⟨hi9, hw⟩ := hw
        refine va_iast hx hb hK hP hD hS 2 1 rfl rfl hi9 (qaa qhK 13 rfl) (fun H locs hP hD hS => ?_)
        obtain ⟨f9, ef9⟩ : ∃ y : NI, y = upd f7 x8.toNatClampNeg 0 := ⟨_, rfl⟩
        have hw := hw f9 ef9
        have hP : va_P (dC, dI) vwCl (qeT a0 jch jcD jfB jhx jfB jhp jhq jgi jgj jgk jip jfR jgl jgO jc5 jfS jjn jch cyI f9 jip cyI jjx) H := by rw [ef9]; exact hP
        have hD : va_D A (qeT a0 jch jcD jfB jhx jfB jhp jhq jgi jgj jgk jip jfR jgl jgO jc5 jfS jjn jch cyI f9 jip cyI jjx) := by rw [ef9]; exact hD
        exact q33 dC dI cyB cyI cyJ cyP a0 jfB jch jip jcD jhx jhp jhq jgi jgj jgk jfR jgl jgO jfS jc5 jjn jjx Q (qrM jc5 jjn jjx Q n) ih C0 _ _ _ f9 l1 l2 hP hD hS (lv_sub hl [0, 1, 2] rfl) hw
      · have hw := hw.2 c4
        refine lv_aload_n hx hb (qaa qkb 14 rfl) rfl (lv_at hl 0 rfl) ?_
        refine va_get (D := (dC, dI)) (ci := 1) (v := .ref jch) (C := RX1) (T := TX1) (N := 4) hx hb hts qCe hown hK hP 0 rfl rfl 0 (by decide) (hts _ qMr) (fun _ h9 => h9) rfl (qaa qkb 15 rfl) ?_
        refine lv_iconst (v := 2) hx hb (qaa qhN 0 rfl) (by decide) ?_
        refine lv_dup2_11 hx hb (qaa qhN 1 rfl) rfl rfl ?_
        refine va_iald hx hb hK hP 2 1 rfl rfl (vin (by decide)) (qaa qhN 2 rfl) ?_
        refine lv_topi (fun x10 ex10 => ?_)
        have hw := hw x10 ex10
        refine lv_iconst (v := 1) hx hb (qaa qhN 3 rfl) (by decide) ?_
        refine lv_iload_n hx hb (qaa qhN 4 rfl) rfl (lv_at hl 2 rfl) ?_
        refine lv_ishl hx hb (qaa qhN 5 rfl) ?_
        refine lv_ior hx hb (qaa qhN 6 rfl) ?_
        refine lv_topi (fun x11 ex11 => ?_)
        have hw := hw x11 ex11
        refine va_iast hx hb hK hP hD hS 2 1 rfl rfl (vin (by decide)) (qaa qhN 7 rfl) (fun H locs hP hD hS => ?_)
        obtain ⟨f12, ef12⟩ : ∃ y : NI, y = upd jdE (2 : Int32).toNatClampNeg x11 := ⟨_, rfl⟩
        have hw := hw f12 ef12
        have hP : va_P (dC, dI) vwCl (qeT a0 jch jcD jfB jhx jfB jhp jhq jgi jgj jgk jip jfR jgl jgO jc5 jfS jjn jch cyI f12 jip cyI jjx) H := by rw [ef12]; exact hP
        have hD : va_D A (qeT a0 jch jcD jfB jhx jfB jhp jhq jgi jgj jgk jip jfR jgl jgO jc5 jfS jjn jch cyI f12 jip cyI jjx) := by rw [ef12]; exact hD
        refine lv_aload_n hx hb (qaa qhN 8 rfl) rfl (lv_at hl 0 rfl) ?_
        refine lv_iload_n hx hb (qaa qhN 9 rfl) rfl (lv_at hl 2 rfl) ?_
        obtain ⟨hCc, hPc, hDc, hFc⟩ := qac (ws' := (qaSh a0 jch jcD jfB jhx jfB jhp jhq jgi jgj jgk jip jfR jgl jgO jc5 jfS jjn jch cyI f12)) hP hD hS hA [0, 1, 2] (by decide +kernel) rfl
        refine va_callv (va_runV (As := [.int l2]) (rest := []) ⟨hx, hb, hml, hown, hts⟩ (qaBn l dC dI cyB cyI cyJ cyP a0 jfB jch H.size (jcD) (jhx) (jhp) (jhq) (jgi) (jgj) (jgk) (.ref jip) (jfR) (jgl) (jgO) (jfS) (.int jjn) jc5 f12 l2 hw) (cwV 1 hts gX1_strike_X1_dropDebts rfl rfl rfl (by decide +kernel) ⟨nbq rfl, nbq rfl⟩) ⟨qab, va_recv (q := (RX1, TX1, 4)) hK hPc (ci := 1) (q0 := 0) rfl rfl, qae hPc hK hDc hNw⟩ rfl rfl hl.1 rfl (lv_room (nbq rfl)) (qaa qhN 10 rfl) ⟨nbq rfl, nbq rfl⟩) hS (fun q _ h => hFc q h) hFc (fun u t H1 locs ht hvm hw hB hz1 hk1 hS => ?_)
        obtain ⟨f13, rfl⟩ : ∃ z, z = u := ⟨_, rfl⟩
        obtain ⟨hP1, hK1, hD1⟩ := hB
        rw [ht] at hP1
        obtain ⟨hP, hD⟩ := qad (wr := (qa8L jip cyI jjx)) (w1 := (qaSh a0 jch jcD jfB jhx jfB jhp jhq jgi jgj jgk jip jfR jgl jgO jc5 jfS jjn jch cyI f13)) (wn := (qeT a0 jch jcD jfB jhx jfB jhp jhq jgi jgj jgk jip jfR jgl jgO jc5 jfS jjn jch cyI f13 jip cyI jjx)) hP hD [0, 1, 2] [3] [1, 2, 3, 0] hCc rfl (by decide +kernel) (by decide +kernel) (by decide +kernel) rfl hk1 hFc hP1 hD1
        generalize H1 = H at hP hS ⊢
        refine lv_goto (tgt := 74) hx hb (qaa qhN 11 rfl) (by decide) ?_
        exact q33 dC dI cyB cyI cyJ cyP a0 jfB jch jip jcD jhx jhp jhq jgi jgj jgk jfR jgl jgO jfS jc5 jjn jjx Q (qrM jc5 jjn jjx Q n) ih C0 _ _ _ f13 l1 l2 hP hD hS (lv_sub hl [0, 1, 2] rfl) hw
set_option maxHeartbeats 4000000 in
set_option maxRecDepth 100000 in
theorem qaVM (l : Launch) (dC : Nat → ClassId) (dI : Nat → Nat → Nat) (cyB cyI cyJ cyP : ClassId) (a0 jfB jch jip sz : Nat) (jcD jhx jhp jhq jgi jgj jgk jfR jgl jgO jfS : Value) (jc5 jjn : Int32) (jjx jdE : NI) {Q : NI → Prop} (hw : qSH jc5 jjn jjx jdE Q) : Met l yX1_strike wsX1_strike ({ frames := 3, cells := 0, slots := 0, locals := 64 }) (va_Pc [.ref a0] (cPc (dC, dI) (kT cyB cyI cyJ cyP) (qeT a0 jch jcD jfB jhx jfB jhp jhq jgi jgj jgk jip jfR jgl jgO jc5 jfS jjn jch cyI jdE jip cyI jjx) sz)) (va_Qv (fun (u : NI) => Q u) (cB (dC, dI) (kT cyB cyI cyJ cyP) (va_A (qeT a0 jch jcD jfB jhx jfB jhp jhq jgi jgj jgk jip jfR jgl jgO jc5 jfS jjn jch cyI jdE jip cyI jjx) sz) (fun u : NI => ((qeT a0 jch jcD jfB jhx jfB jhp jhq jgi jgj jgk jip jfR jgl jgO jc5 jfS jjn jch cyI u jip cyI jjx) : va_W))) (va_A (qeT a0 jch jcD jfB jhx jfB jhp jhq jgi jgj jgk jip jfR jgl jgO jc5 jfS jjn jch cyI jdE jip cyI jjx) sz)) 0 0 (va_A (qeT a0 jch jcD jfB jhx jfB jhp jhq jgi jgj jgk jip jfR jgl jgO jc5 jfS jjn jch cyI jdE jip cyI jjx) sz) := by
  refine Met.ofW (cc := cX1_strike) (maxL := 3) (ret := none) (by decide) rfl ?_
  intro p e s m args below meth c s₁ B hml hv
  obtain ⟨rfl, hsz, hP, hK, hD0, hNw⟩ := hv
  have hx := B.exec
  have hb := B.bytes
  have hr := B.returns
  have hts := atoms_spec (ws := wsX1_strike) B.pre
  have hown : s.vm.findClass RX1 = some m.cls := findClass_of_methodNamed B.named
  have hlocks := B.notSynchronized
  subst hsz
  have hD := hD0.self (sz := s.heap.size)
  generalize hAe : va_A (qeT a0 jch jcD jfB jhx jfB jhp jhq jgi jgj jgk jip jfR jgl jgO jc5 jfS jjn jch cyI jdE jip cyI jjx) s.heap.size = A at hD ⊢
  have hA : ∀ q : Nat, s.heap.size ≤ q → A q := fun q h => by rw [← hAe]; exact Or.inr h
  have hS : va_S A s.heap s.heap [] := va_S.rf
  have hP : va_P (dC, dI) vwCl (qeT a0 jch jcD jfB jhx jfB jhp jhq jgi jgj jgk jip jfR jgl jgO jc5 jfS jjn jch cyI jdE jip cyI jjx) s.heap := hP
  have hl := lv_entry ([.ref a0]) (n := 3) (nbq rfl)
  rw [lg_entry_eq]
  generalize (lg_sl ([.ref a0]) ++ List.replicate (3 - (lg_sl ([.ref a0])).length) Slot.unset).toArray = ls at hl ⊢
  have hl : lv_has ls 3 [(0, .ref a0)] := hl
  have C0 : cfx p s m _ meth c cX1_strike none wsX1_strike RX1 3 A (dC, dI) (kT cyB cyI cyJ cyP) := ⟨hx, hb, hr, hts, hown, hlocks, hml, hA, hK, hNw⟩
  clear hAe
  obtain ⟨H, hH⟩ : ∃ H, H = s.heap := ⟨_, rfl⟩
  rw [← hH] at hP ⊢
  have hS : va_S A s.heap H [] := by rw [hH]; exact va_S.rf
  have hS := hS
  refine lv_aload_n hx hb (qaa qkb 0 rfl) rfl (lv_at hl 0 rfl) ?_
  obtain ⟨hCc, hPc, hDc, hFc⟩ := qac (ws' := (qaSh a0 jch jcD jfB jhx jfB jhp jhq jgi jgj jgk jip jfR jgl jgO jc5 jfS jjn jch cyI jdE)) hP hD hS hA [0, 1, 2] (by decide +kernel) rfl
  refine va_calli (va_runV (As := []) (rest := []) ⟨hx, hb, hml, hown, hts⟩ (qZO l dC dI cyB cyI cyJ cyP a0 jfB jch H.size (jcD) (jhx) (jhp) (jhq) (jgi) (jgj) (jgk) (.ref jip) (jfR) (jgl) (jgO) (jfS) jc5 jjn jdE hw) (cwV 0 hts gX1_strike_X1_endangered rfl rfl rfl (by decide +kernel) ⟨nbq rfl, nbq rfl⟩) ⟨qab, va_recv (q := (RX1, TX1, 4)) hK hPc (ci := 1) (q0 := 0) rfl rfl, qae hPc hK hDc hNw⟩ rfl rfl hl.1 rfl (lv_room (nbq rfl)) (qaa qkb 1 rfl) ⟨nbq rfl, nbq rfl⟩) hS (fun q _ h => hFc q h) hFc (fun r1 u t H1 locs ht hvm hw hB hz1 hk1 hS => ?_)
  obtain ⟨hP1, hK1, hD1⟩ := hB
  rw [ht] at hP1
  obtain ⟨hP, hD⟩ := qad (wr := (qa8L jip cyI jjx)) (w1 := (qaSh a0 jch jcD jfB jhx jfB jhp jhq jgi jgj jgk jip jfR jgl jgO jc5 jfS jjn jch cyI jdE)) (wn := (qeT a0 jch jcD jfB jhx jfB jhp jhq jgi jgj jgk jip jfR jgl jgO jc5 jfS jjn jch cyI jdE jip cyI jjx)) hP hD [0, 1, 2] [3] [1, 2, 3, 0] hCc rfl (by decide +kernel) (by decide +kernel) (by decide +kernel) rfl hk1 hFc hP1 hD1
  generalize H1 = H at hP hS ⊢
  refine lv_istore_n (lv' := [(1, .int r1), (0, .ref a0)]) hx hb (qaa qkb 2 rfl) rfl hl (by decide) rfl (fun ls hl => ?_)
  refine lv_iconst (v := 0) hx hb (qaa qkb 3 rfl) (by decide) ?_
  refine lv_istore_n (lv' := [(2, .int 0), (1, .int r1), (0, .ref a0)]) hx hb (qaa qkb 4 rfl) rfl hl (by decide) rfl (fun ls hl => ?_)
  obtain ⟨n9, hw⟩ := hw
  exact qaGK dC dI cyB cyI cyJ cyP a0 jfB jch jip jcD jhx jhp jhq jgi jgj jgk jfR jgl jgO jfS jc5 jjn jjx Q C0 n9 _ _ _ jdE r1 0 hP hD hS (lv_sub hl [2, 1, 0] rfl) hw
theorem qqU : ∀ w ∈ u_ws RX1 TX1 4, w ∈ wsX1_passDay := uiM qvi qV8 (by decide +kernel)
theorem qauf : ∀ w ∈ u_ws RX2 TX2 12, w ∈ wsX1_passDay := uiM qvi qLg (by decide +kernel)
theorem qrm : (.fieldLink RX1 13 "MarchHares$Days" "row" "[I" : Cond) ∈ wsX1_passDay := qvi 276 (by decide +kernel)
theorem qaiV : (.fieldLink RX1 24 "MarchHares$Days" "down" "LMarchHares$Down;" : Cond) ∈ wsX1_passDay := qvi 322 (by decide +kernel)
theorem qaic : (.fieldLink RX1 32 "MarchHares$Down" "hares" "I" : Cond) ∈ wsX1_passDay := qvi 324 (by decide +kernel)
theorem q2m : (.initialized RX10 : Cond) ∈ wsX1_passDay := qvi 2 (by decide +kernel)
theorem qUc : (.static yX10_holds : Cond) ∈ wsX1_passDay := qvi 2052 (by decide +kernel)
set_option maxHeartbeats 4000000 in
set_option maxRecDepth 100000 in
theorem qZT {p : Program} {l : Launch} {e : Env} {s : State} {m : MethodId} {args : Array Value} {below : List Frame} {meth : Method} {c : Code} {A : Nat → Prop} (dC : Nat → ClassId) (dI : Nat → Nat → Nat) (cyB cyI cyJ cyP : ClassId) (a0 jfB jch jip : Nat) (jcD jhx jhp jhq jgi jgj jgk jfR jgl jgO jfS : Value) (jc5 jjn : Int32) (jjx : NI) (Q : NI → Prop) (K2 : NI → Int32 → Prop) (hK2 : ∀ (H : Heap) (locs : List Loc) (ls : Array Slot) (jdE : NI) (l1 : Int32), va_P (dC, dI) vwCl (qeT a0 jch jcD jfB jhx jfB jhp jhq jgi jgj jgk jip jfR jgl jgO jc5 jfS jjn jch cyI jdE jip cyI jjx) H → va_D A (qeT a0 jch jcD jfB jhx jfB jhp jhq jgi jgj jgk jip jfR jgl jgO jc5 jfS jjn jch cyI jdE jip cyI jjx) → va_S A s.heap H locs → lv_has ls 2 [(0, .ref a0), (1, .int l1)] → K2 jdE l1 → W p l e (headSpec wsX1_passDay ({ frames := 4, cells := 0, slots := 0, locals := 86 })).room s m args below meth c H locs 0 0 (MQ below (va_Qv (fun (u : NI) => Q u) (cB (dC, dI) (kT cyB cyI cyJ cyP) A (fun u : NI => ((qeT a0 jch jcD jfB jhx jfB jhp jhq jgi jgj jgk jip jfR jgl jgO jc5 jfS jjn jch cyI u jip cyI jjx) : va_W))) A) args s 0 0 A) (F0 m 2 ls [])) (C0 : cfx p s m args meth c cX1_passDay none wsX1_passDay RX1 2 A (dC, dI) (kT cyB cyI cyJ cyP)) : ∀ (H : Heap) (locs : List Loc) (ls : Array Slot) (jdE : NI) (l1 : Int32), va_P (dC, dI) vwCl (qeT a0 jch jcD jfB jhx jfB jhp jhq jgi jgj jgk jip jfR jgl jgO jc5 jfS jjn jch cyI jdE jip cyI jjx) H → va_D A (qeT a0 jch jcD jfB jhx jfB jhp jhq jgi jgj jgk jip jfR jgl jgO jc5 jfS jjn jch cyI jdE jip cyI jjx) → va_S A s.heap H locs → lv_has ls 2 [(0, .ref a0), (1, .int l1)] → qE4 jc5 jjn jjx Q K2 jdE l1 → W p l e (headSpec wsX1_passDay ({ frames := 4, cells := 0, slots := 0, locals := 86 })).room s m args below meth c H locs 0 0 (MQ below (va_Qv (fun (u : NI) => Q u) (cB (dC, dI) (kT cyB cyI cyJ cyP) A (fun u : NI => ((qeT a0 jch jcD jfB jhx jfB jhp jhq jgi jgj jgk jip jfR jgl jgO jc5 jfS jjn jch cyI u jip cyI jjx) : va_W))) A) args s 0 0 A) (F0 m 46 ls []) := by
  obtain ⟨hx, hb, hr, hts, hown, hlocks, hml, hA, hK, hNw⟩ := id C0
  intro H locs ls jdE l1 hP hD hS hl hw
  obtain ⟨x21, ex21⟩ : ∃ y : Int32, y = l1 + 1 := ⟨_, rfl⟩
  have hw := hw x21 ex21
  refine lv_iinc (v := x21) (lv' := [(1, .int x21), (0, .ref a0)]) hx hb (qaa qft 13 rfl) hl (k := 1) rfl (by rw [ex21]; rfl) (by decide) rfl (fun ls hl => ?_)
  refine lv_goto (tgt := 2) hx hb (qaa qft 14 rfl) (by decide) ?_
  exact hK2 _ _ _ jdE x21 hP hD hS (lv_sub hl [1, 0] rfl) hw
set_option maxHeartbeats 4000000 in
set_option maxRecDepth 100000 in
theorem qaEl {p : Program} {l : Launch} {e : Env} {s : State} {m : MethodId} {args : Array Value} {below : List Frame} {meth : Method} {c : Code} {A : Nat → Prop} (dC : Nat → ClassId) (dI : Nat → Nat → Nat) (cyB cyI cyJ cyP : ClassId) (a0 jfB jch jip : Nat) (jcD jhx jhp jhq jgi jgj jgk jfR jgl jgO jfS : Value) (jc5 jjn : Int32) (jjx : NI) (Q : NI → Prop) (C0 : cfx p s m args meth c cX1_passDay none wsX1_passDay RX1 2 A (dC, dI) (kT cyB cyI cyJ cyP)) : ∀ (n : Nat) (H : Heap) (locs : List Loc) (ls : Array Slot) (jdE : NI) (l1 : Int32), va_P (dC, dI) vwCl (qeT a0 jch jcD jfB jhx jfB jhp jhq jgi jgj jgk jip jfR jgl jgO jc5 jfS jjn jch cyI jdE jip cyI jjx) H → va_D A (qeT a0 jch jcD jfB jhx jfB jhp jhq jgi jgj jgk jip jfR jgl jgO jc5 jfS jjn jch cyI jdE jip cyI jjx) → va_S A s.heap H locs → lv_has ls 2 [(0, .ref a0), (1, .int l1)] → qqt jc5 jjn jjx Q n jdE l1 → W p l e (headSpec wsX1_passDay ({ frames := 4, cells := 0, slots := 0, locals := 86 })).room s m args below meth c H locs 0 0 (MQ below (va_Qv (fun (u : NI) => Q u) (cB (dC, dI) (kT cyB cyI cyJ cyP) A (fun u : NI => ((qeT a0 jch jcD jfB jhx jfB jhp jhq jgi jgj jgk jip jfR jgl jgO jc5 jfS jjn jch cyI u jip cyI jjx) : va_W))) A) args s 0 0 A) (F0 m 2 ls []) := by
  obtain ⟨hx, hb, hr, hts, hown, hlocks, hml, hA, hK, hNw⟩ := id C0
  intro n
  induction n with
  | zero => intro H locs ls jdE l1 hP hD hS hl hw; exact False.elim hw
  | succ n ih =>
    intro H locs ls jdE l1 hP hD hS hl hw
    refine lv_iload_n hx hb (qaa qhw 2 rfl) rfl (lv_at hl 1 rfl) ?_
    refine lv_aload_n hx hb (qaa qhw 3 rfl) rfl (lv_at hl 0 rfl) ?_
    refine va_get (D := (dC, dI)) (ci := 1) (v := .ref jfB) (C := RX1) (T := TX1) (N := 4) hx hb hts qqU hown hK hP 0 rfl rfl 2 (by decide) (hts _ qaiV) (fun _ h9 => h9) rfl (qaa qhw 4 rfl) ?_
    refine va_get (D := (dC, dI)) (ci := 2) (v := .int jc5) (C := RX2) (T := TX2) (N := 12) hx hb hts qauf hown hK hP 1 rfl rfl 9 (by decide) (hts _ qaic) (fun _ h9 => h9) rfl (qaa qhw 5 rfl) ?_
    refine lv_icmp_ge (tgt := 52) hx hb (qaa qhw 6 rfl) (by decide) (fun c1 => ?_) (fun c1 => ?_)
    · have hw := hw.1 c1
      refine lv_aload_n hx hb (qaa qft 15 rfl) rfl (lv_at hl 0 rfl) ?_
      refine va_get (D := (dC, dI)) (ci := 1) (v := .ref jch) (C := RX1) (T := TX1) (N := 4) hx hb hts qqU hown hK hP 0 rfl rfl 0 (by decide) (hts _ qrm) (fun _ h9 => h9) rfl (qaa qfQ 0 rfl) ?_
      refine lv_iconst (v := 3) hx hb (qaa qfQ 1 rfl) (by decide) ?_
      refine lv_iconst (v := 0) hx hb (qaa qfQ 2 rfl) (by decide) ?_
      refine va_iast hx hb hK hP hD hS 2 1 rfl rfl (vin (by decide)) (qaa qfQ 3 rfl) (fun H locs hP hD hS => ?_)
      obtain ⟨f2, ef2⟩ : ∃ y : NI, y = upd jdE (3 : Int32).toNatClampNeg 0 := ⟨_, rfl⟩
      have hw := hw f2 ef2
      have hP : va_P (dC, dI) vwCl (qeT a0 jch jcD jfB jhx jfB jhp jhq jgi jgj jgk jip jfR jgl jgO jc5 jfS jjn jch cyI f2 jip cyI jjx) H := by rw [ef2]; exact hP
      have hD : va_D A (qeT a0 jch jcD jfB jhx jfB jhp jhq jgi jgj jgk jip jfR jgl jgO jc5 jfS jjn jch cyI f2 jip cyI jjx) := by rw [ef2]; exact hD
      refine lv_aload_n hx hb (qaa qfQ 4 rfl) rfl (lv_at hl 0 rfl) ?_
      refine va_get (D := (dC, dI)) (ci := 1) (v := .ref jch) (C := RX1) (T := TX1) (N := 4) hx hb hts qqU hown hK hP 0 rfl rfl 0 (by decide) (hts _ qrm) (fun _ h9 => h9) rfl (qaa qfQ 5 rfl) ?_
      refine lv_iconst (v := 0) hx hb (qaa qfQ 6 rfl) (by decide) ?_
      refine lv_dup2_11 hx hb (qaa qfQ 7 rfl) rfl rfl ?_
      refine va_iald hx hb hK hP 2 1 rfl rfl (vin (by decide)) (qaa qfQ 8 rfl) ?_
      refine lv_topi (fun x3 ex3 => ?_)
      have hw := hw x3 ex3
      refine lv_iconst (v := 1) hx hb (qaa qfQ 9 rfl) (by decide) ?_
      refine lv_iadd hx hb (qaa qfQ 10 rfl) ?_
      refine lv_topi (fun x4 ex4 => ?_)
      have hw := hw x4 ex4
      refine va_iast hx hb hK hP hD hS 2 1 rfl rfl (vin (by decide)) (qaa qfQ 11 rfl) (fun H locs hP hD hS => ?_)
      obtain ⟨f5, ef5⟩ : ∃ y : NI, y = upd f2 (0 : Int32).toNatClampNeg x4 := ⟨_, rfl⟩
      have hw := hw f5 ef5
      have hP : va_P (dC, dI) vwCl (qeT a0 jch jcD jfB jhx jfB jhp jhq jgi jgj jgk jip jfR jgl jgO jc5 jfS jjn jch cyI f5 jip cyI jjx) H := by rw [ef5]; exact hP
      have hD : va_D A (qeT a0 jch jcD jfB jhx jfB jhp jhq jgi jgj jgk jip jfR jgl jgO jc5 jfS jjn jch cyI f5 jip cyI jjx) := by rw [ef5]; exact hD
      refine lv_aload_n hx hb (qaa qfQ 12 rfl) rfl (lv_at hl 0 rfl) ?_
      refine va_get (D := (dC, dI)) (ci := 1) (v := .ref jch) (C := RX1) (T := TX1) (N := 4) hx hb hts qqU hown hK hP 0 rfl rfl 0 (by decide) (hts _ qrm) (fun _ h9 => h9) rfl (qaa qfQ 13 rfl) ?_
      refine lv_iconst (v := 0) hx hb (qaa qfQ 14 rfl) (by decide) ?_
      refine va_iald hx hb hK hP 2 1 rfl rfl (vin (by decide)) (qaa qfQ 15 rfl) ?_
      refine lv_topi (fun x6 ex6 => ?_)
      have hw := hw x6 ex6
      refine lv_bipush (v := 31) hx hb (qaa qfn 0 rfl) (by decide) ?_
      refine lv_icmp_le (tgt := 101) hx hb (qaa qfn 1 rfl) (by decide) (fun c7 => ?_) (fun c7 => ?_)
      · have hw := hw.1 c7
        exact ((W.vret hx hb hr (fun t ht hW => ⟨⟨(f5), rfl, hw, by rw [ht]; exact hP, va_K.moved hW.alike hK, hD⟩, hS.F ht⟩) hS.2.2 (qaa qJr 1 rfl)))
      · have hw := hw.2 c7
        refine lv_aload_n hx hb (qaa qfn 2 rfl) rfl (lv_at hl 0 rfl) ?_
        obtain ⟨hCc, hPc, hDc, hFc⟩ := qac (ws' := (qeT a0 jch jcD jfB jhx jfB jhp jhq jgi jgj jgk jip jfR jgl jgO jc5 jfS jjn jch cyI f5 jip cyI jjx)) hP hD hS hA [0, 1, 2, 3] (by decide +kernel) rfl
        refine va_callv (va_runV (As := []) (rest := []) ⟨hx, hb, hml, hown, hts⟩ (qaVM l dC dI cyB cyI cyJ cyP a0 jfB jch jip H.size (jcD) (jhx) (jhp) (jhq) (jgi) (jgj) (jgk) (jfR) (jgl) (jgO) (jfS) jc5 jjn jjx f5 hw) (cwV 0 hts gX1_passDay_X1_strike rfl rfl rfl (by decide +kernel) ⟨nbq rfl, nbq rfl⟩) ⟨qab, va_recv (q := (RX1, TX1, 4)) hK hPc (ci := 1) (q0 := 0) rfl rfl, qae hPc hK hDc hNw⟩ rfl rfl hl.1 rfl (lv_room (nbq rfl)) (qaa qfn 3 rfl) ⟨nbq rfl, nbq rfl⟩) hS (fun q _ h => hFc q h) hFc (fun u t H1 locs ht hvm hw hB hz1 hk1 hS => ?_)
        obtain ⟨f8, rfl⟩ : ∃ z, z = u := ⟨_, rfl⟩
        obtain ⟨hP1, hK1, hD1⟩ := hB
        rw [ht] at hP1
        obtain ⟨hP, hD⟩ := qah (wr := []) (w1 := (qeT a0 jch jcD jfB jhx jfB jhp jhq jgi jgj jgk jip jfR jgl jgO jc5 jfS jjn jch cyI f8 jip cyI jjx)) (wn := (qeT a0 jch jcD jfB jhx jfB jhp jhq jgi jgj jgk jip jfR jgl jgO jc5 jfS jjn jch cyI f8 jip cyI jjx)) hP hD [0, 1, 2, 3] [] hCc rfl (by decide +kernel) (by decide +kernel) rfl hk1 hFc hP1 hD1
        generalize H1 = H at hP hS ⊢
        refine lv_aload_n hx hb (qaa qfn 4 rfl) rfl (lv_at hl 0 rfl) ?_
        refine va_get (D := (dC, dI)) (ci := 1) (v := .ref jch) (C := RX1) (T := TX1) (N := 4) hx hb hts qqU hown hK hP 0 rfl rfl 0 (by decide) (hts _ qrm) (fun _ h9 => h9) rfl (qaa qfn 5 rfl) ?_
        refine lv_iconst (v := 0) hx hb (qaa qfn 6 rfl) (by decide) ?_
        refine lv_iconst (v := 1) hx hb (qaa qfn 7 rfl) (by decide) ?_
        refine va_iast hx hb hK hP hD hS 2 1 rfl rfl (vin (by decide)) (qaa qfn 8 rfl) (fun H locs hP hD hS => ?_)
        obtain ⟨f9, ef9⟩ : ∃ y : NI, y = upd f8 (0 : Int32).toNatClampNeg 1 := ⟨_, rfl⟩
        have hw := hw f9 ef9
        have hP : va_P (dC, dI) vwCl (qeT a0 jch jcD jfB jhx jfB jhp jhq jgi jgj jgk jip jfR jgl jgO jc5 jfS jjn jch cyI f9 jip cyI jjx) H := by rw [ef9]; exact hP
        have hD : va_D A (qeT a0 jch jcD jfB jhx jfB jhp jhq jgi jgj jgk jip jfR jgl jgO jc5 jfS jjn jch cyI f9 jip cyI jjx) := by rw [ef9]; exact hD
        refine lv_aload_n hx hb (qaa qfn 9 rfl) rfl (lv_at hl 0 rfl) ?_
        refine va_get (D := (dC, dI)) (ci := 1) (v := .ref jch) (C := RX1) (T := TX1) (N := 4) hx hb hts qqU hown hK hP 0 rfl rfl 0 (by decide) (hts _ qrm) (fun _ h9 => h9) rfl (qaa qfn 10 rfl) ?_
        refine lv_iconst (v := 1) hx hb (qaa qfn 11 rfl) (by decide) ?_
        refine lv_dup2_11 hx hb (qaa qfn 12 rfl) rfl rfl ?_
        refine va_iald hx hb hK hP 2 1 rfl rfl (vin (by decide)) (qaa qfn 13 rfl) ?_
        refine lv_topi (fun x10 ex10 => ?_)
        have hw := hw x10 ex10
        refine lv_iconst (v := 1) hx hb (qaa qfn 14 rfl) (by decide) ?_
        refine lv_iadd hx hb (qaa qfn 15 rfl) ?_
        refine lv_topi (fun x11 ex11 => ?_)
        have hw := hw x11 ex11
        refine va_iast hx hb hK hP hD hS 2 1 rfl rfl (vin (by decide)) (qaa qJr 0 rfl) (fun H locs hP hD hS => ?_)
        obtain ⟨f12, ef12⟩ : ∃ y : NI, y = upd f9 (1 : Int32).toNatClampNeg x11 := ⟨_, rfl⟩
        have hw := hw f12 ef12
        have hP : va_P (dC, dI) vwCl (qeT a0 jch jcD jfB jhx jfB jhp jhq jgi jgj jgk jip jfR jgl jgO jc5 jfS jjn jch cyI f12 jip cyI jjx) H := by rw [ef12]; exact hP
        have hD : va_D A (qeT a0 jch jcD jfB jhx jfB jhp jhq jgi jgj jgk jip jfR jgl jgO jc5 jfS jjn jch cyI f12 jip cyI jjx) := by rw [ef12]; exact hD
        exact ((W.vret hx hb hr (fun t ht hW => ⟨⟨(f12), rfl, hw, by rw [ht]; exact hP, va_K.moved hW.alike hK, hD⟩, hS.F ht⟩) hS.2.2 (qaa qJr 1 rfl)))
    · have hw := hw.2 c1
      refine lv_aload_n hx hb (qaa qhw 7 rfl) rfl (lv_at hl 0 rfl) ?_
      refine va_get (D := (dC, dI)) (ci := 1) (v := .ref jch) (C := RX1) (T := TX1) (N := 4) hx hb hts qqU hown hK hP 0 rfl rfl 0 (by decide) (hts _ qrm) (fun _ h9 => h9) rfl (qaa qhw 8 rfl) ?_
      refine lv_iconst (v := 2) hx hb (qaa qhw 9 rfl) (by decide) ?_
      refine va_iald hx hb hK hP 2 1 rfl rfl (vin (by decide)) (qaa qhw 10 rfl) ?_
      refine lv_topi (fun x13 ex13 => ?_)
      have hw := hw x13 ex13
      refine lv_aload_n hx hb (qaa qhw 11 rfl) rfl (lv_at hl 0 rfl) ?_
      refine va_get (D := (dC, dI)) (ci := 1) (v := .ref jch) (C := RX1) (T := TX1) (N := 4) hx hb hts qqU hown hK hP 0 rfl rfl 0 (by decide) (hts _ qrm) (fun _ h9 => h9) rfl (qaa qhw 12 rfl) ?_
      refine lv_iconst (v := 3) hx hb (qaa qhw 13 rfl) (by decide) ?_
      refine va_iald hx hb hK hP 2 1 rfl rfl (vin (by decide)) (qaa qhw 14 rfl) ?_
      refine lv_topi (fun x14 ex14 => ?_)
      have hw := hw x14 ex14
      refine lv_ior hx hb (qaa qhw 15 rfl) ?_
      refine lv_iload_n hx hb (qaa qft 0 rfl) rfl (lv_at hl 1 rfl) ?_
      obtain ⟨hCc, hPc, hDc, hFc⟩ := qac (ws' := []) hP hD hS hA [] (by decide +kernel) rfl
      refine va_calli (va_runSN (As := [.int (x13 ||| x14), .int l1]) (rest := []) ⟨hx, hb, hml, hown, hts⟩ (qnt l dC dI cyB cyI cyJ cyP H.size (x13 ||| x14) l1 hw) ⟨(va_cnB 2 hts gX1_passDay_X10_holds_n120 rfl rfl rfl (nw_9 hNw) (hts _ q2m) (by decide +kernel) ⟨nbq rfl, nbq rfl⟩), (hts _ qUc), trivial⟩ ⟨qab, qae hPc hK hDc hNw⟩ rfl rfl hl.1 rfl (lv_room (nbq rfl)) (qaa qft 1 rfl) ⟨nbq rfl, nbq rfl⟩) hS (fun q _ h => hFc q h) hFc (fun r15 u t H1 locs ht hvm hw hB hz1 hk1 hS => ?_)
      obtain ⟨hP1, hK1, hD1⟩ := hB
      rw [ht] at hP1
      obtain ⟨hP, hD⟩ := qah (wr := (qeT a0 jch jcD jfB jhx jfB jhp jhq jgi jgj jgk jip jfR jgl jgO jc5 jfS jjn jch cyI jdE jip cyI jjx)) (w1 := []) (wn := (qeT a0 jch jcD jfB jhx jfB jhp jhq jgi jgj jgk jip jfR jgl jgO jc5 jfS jjn jch cyI jdE jip cyI jjx)) hP hD [] [0, 1, 2, 3] hCc rfl (by decide +kernel) (by decide +kernel) rfl hk1 hFc hP1 hD1
      generalize H1 = H at hP hS ⊢
      refine lv_if_ne (tgt := 46) hx hb (qaa qft 2 rfl) (by decide) (fun c16 => ?_) (fun c16 => ?_)
      · have hw := hw.1 c16
        exact qZT dC dI cyB cyI cyJ cyP a0 jfB jch jip jcD jhx jhp jhq jgi jgj jgk jfR jgl jgO jfS jc5 jjn jjx Q (qqt jc5 jjn jjx Q n) ih C0 _ _ _ jdE l1 hP hD hS (lv_sub hl [0, 1] rfl) hw
      · have hw := hw.2 c16
        refine lv_aload_n hx hb (qaa qft 3 rfl) rfl (lv_at hl 0 rfl) ?_
        refine va_get (D := (dC, dI)) (ci := 1) (v := .ref jch) (C := RX1) (T := TX1) (N := 4) hx hb hts qqU hown hK hP 0 rfl rfl 0 (by decide) (hts _ qrm) (fun _ h9 => h9) rfl (qaa qft 4 rfl) ?_
        refine lv_bipush (v := 16) hx hb (qaa qft 5 rfl) (by decide) ?_
        refine lv_iload_n hx hb (qaa qft 6 rfl) rfl (lv_at hl 1 rfl) ?_
        refine lv_iadd hx hb (qaa qft 7 rfl) ?_
        refine lv_topi (fun x17 ex17 => ?_)
        have hw := hw x17 ex17
        refine lv_dup2_11 hx hb (qaa qft 8 rfl) rfl rfl ?_
        obtain ⟨hi9, hw⟩ := hw
        refine va_iald hx hb hK hP 2 1 rfl rfl hi9 (qaa qft 9 rfl) ?_
        refine lv_topi (fun x18 ex18 => ?_)
        have hw := hw x18 ex18
        refine lv_iconst (v := 1) hx hb (qaa qft 10 rfl) (by decide) ?_
        refine lv_iadd hx hb (qaa qft 11 rfl) ?_
        refine lv_topi (fun x19 ex19 => ?_)
        have hw := hw x19 ex19
        obtain ⟨hi9, hw⟩ := hw
        refine va_iast hx hb hK hP hD hS 2 1 rfl rfl hi9 (qaa qft 12 rfl) (fun H locs hP hD hS => ?_)
        obtain ⟨f20, ef20⟩ : ∃ y : NI, y = upd jdE x17.toNatClampNeg x19 := ⟨_, rfl⟩
        have hw := hw f20 ef20
        have hP : va_P (dC, dI) vwCl (qeT a0 jch jcD jfB jhx jfB jhp jhq jgi jgj jgk jip jfR jgl jgO jc5 jfS jjn jch cyI f20 jip cyI jjx) H := by rw [ef20]; exact hP
        have hD : va_D A (qeT a0 jch jcD jfB jhx jfB jhp jhq jgi jgj jgk jip jfR jgl jgO jc5 jfS jjn jch cyI f20 jip cyI jjx) := by rw [ef20]; exact hD
        exact qZT dC dI cyB cyI cyJ cyP a0 jfB jch jip jcD jhx jhp jhq jgi jgj jgk jfR jgl jgO jfS jc5 jjn jjx Q (qqt jc5 jjn jjx Q n) ih C0 _ _ _ f20 l1 hP hD hS (lv_sub hl [0, 1] rfl) hw
set_option maxHeartbeats 4000000 in
set_option maxRecDepth 100000 in
theorem qX2 (l : Launch) (dC : Nat → ClassId) (dI : Nat → Nat → Nat) (cyB cyI cyJ cyP : ClassId) (a0 jfB jch jip sz : Nat) (jcD jhx jhp jhq jgi jgj jgk jfR jgl jgO jfS : Value) (jc5 jjn : Int32) (jjx jdE : NI) {Q : NI → Prop} (hw : qCF jc5 jjn jjx jdE Q) : Met l yX1_passDay wsX1_passDay ({ frames := 4, cells := 0, slots := 0, locals := 86 }) (va_Pc [.ref a0] (cPc (dC, dI) (kT cyB cyI cyJ cyP) (qeT a0 jch jcD jfB jhx jfB jhp jhq jgi jgj jgk jip jfR jgl jgO jc5 jfS jjn jch cyI jdE jip cyI jjx) sz)) (va_Qv (fun (u : NI) => Q u) (cB (dC, dI) (kT cyB cyI cyJ cyP) (va_A (qeT a0 jch jcD jfB jhx jfB jhp jhq jgi jgj jgk jip jfR jgl jgO jc5 jfS jjn jch cyI jdE jip cyI jjx) sz) (fun u : NI => ((qeT a0 jch jcD jfB jhx jfB jhp jhq jgi jgj jgk jip jfR jgl jgO jc5 jfS jjn jch cyI u jip cyI jjx) : va_W))) (va_A (qeT a0 jch jcD jfB jhx jfB jhp jhq jgi jgj jgk jip jfR jgl jgO jc5 jfS jjn jch cyI jdE jip cyI jjx) sz)) 0 0 (va_A (qeT a0 jch jcD jfB jhx jfB jhp jhq jgi jgj jgk jip jfR jgl jgO jc5 jfS jjn jch cyI jdE jip cyI jjx) sz) := by
  refine Met.ofW (cc := cX1_passDay) (maxL := 2) (ret := none) (by decide) rfl ?_
  intro p e s m args below meth c s₁ B hml hv
  obtain ⟨rfl, hsz, hP, hK, hD0, hNw⟩ := hv
  have hx := B.exec
  have hb := B.bytes
  have hr := B.returns
  have hts := atoms_spec (ws := wsX1_passDay) B.pre
  have hown : s.vm.findClass RX1 = some m.cls := findClass_of_methodNamed B.named
  have hlocks := B.notSynchronized
  subst hsz
  have hD := hD0.self (sz := s.heap.size)
  generalize hAe : va_A (qeT a0 jch jcD jfB jhx jfB jhp jhq jgi jgj jgk jip jfR jgl jgO jc5 jfS jjn jch cyI jdE jip cyI jjx) s.heap.size = A at hD ⊢
  have hA : ∀ q : Nat, s.heap.size ≤ q → A q := fun q h => by rw [← hAe]; exact Or.inr h
  have hS : va_S A s.heap s.heap [] := va_S.rf
  have hP : va_P (dC, dI) vwCl (qeT a0 jch jcD jfB jhx jfB jhp jhq jgi jgj jgk jip jfR jgl jgO jc5 jfS jjn jch cyI jdE jip cyI jjx) s.heap := hP
  have hl := lv_entry ([.ref a0]) (n := 2) (nbq rfl)
  rw [lg_entry_eq]
  generalize (lg_sl ([.ref a0]) ++ List.replicate (2 - (lg_sl ([.ref a0])).length) Slot.unset).toArray = ls at hl ⊢
  have hl : lv_has ls 2 [(0, .ref a0)] := hl
  have C0 : cfx p s m _ meth c cX1_passDay none wsX1_passDay RX1 2 A (dC, dI) (kT cyB cyI cyJ cyP) := ⟨hx, hb, hr, hts, hown, hlocks, hml, hA, hK, hNw⟩
  clear hAe
  obtain ⟨H, hH⟩ : ∃ H, H = s.heap := ⟨_, rfl⟩
  rw [← hH] at hP ⊢
  have hS : va_S A s.heap H [] := by rw [hH]; exact va_S.rf
  have hS := hS
  refine lv_iconst (v := 0) hx hb (qaa qhw 0 rfl) (by decide) ?_
  refine lv_istore_n (lv' := [(1, .int 0), (0, .ref a0)]) hx hb (qaa qhw 1 rfl) rfl hl (by decide) rfl (fun ls hl => ?_)
  obtain ⟨n9, hw⟩ := hw
  exact qaEl dC dI cyB cyI cyJ cyP a0 jfB jch jip jcD jhx jhp jhq jgi jgj jgk jfR jgl jgO jfS jc5 jjn jjx Q C0 n9 _ _ _ jdE 0 hP hD hS (lv_sub hl [1, 0] rfl) hw
theorem qaUS : ∀ w ∈ u_ws RX1 TX1 4, w ∈ wsX1_day := uiM qa0l qV8 (by decide +kernel)
theorem qaRF : (.fieldLink RX1 13 "MarchHares$Days" "row" "[I" : Cond) ∈ wsX1_day := qa0l 276 (by decide +kernel)
set_option maxHeartbeats 4000000 in
set_option maxRecDepth 100000 in
theorem qag5 (l : Launch) (dC : Nat → ClassId) (dI : Nat → Nat → Nat) (cyB cyI cyJ cyP : ClassId) (a0 jch sz : Nat) (jcD ji6 jhx : Value) (jdE : NI) {Q : Int32 → Prop} (hw : qU3 jdE Q) : Met l yX1_day wsX1_day ({ frames := 0, cells := 0, slots := 0, locals := 0 }) (va_Pc [.ref a0] (cPc (dC, dI) (kT cyB cyI cyJ cyP) (qaH a0 jch jcD ji6 jhx jch cyI jdE) sz)) (va_Qi (fun (r : Int32) (_ : Unit) => Q r ) (cB (dC, dI) (kT cyB cyI cyJ cyP) (va_A (qaH a0 jch jcD ji6 jhx jch cyI jdE) sz) (fun u : Unit => ((qaH a0 jch jcD ji6 jhx jch cyI jdE) : va_W))) (va_A (qaH a0 jch jcD ji6 jhx jch cyI jdE) sz)) 0 0 (va_A (qaH a0 jch jcD ji6 jhx jch cyI jdE) sz) := by
  refine Met.ofW (cc := cX1_day) (maxL := 1) (ret := (some .int)) (by decide) rfl ?_
  intro p e s m args below meth c s₁ B hml hv
  obtain ⟨rfl, hsz, hP, hK, hD0, hNw⟩ := hv
  have hx := B.exec
  have hb := B.bytes
  have hr := B.returns
  have hts := atoms_spec (ws := wsX1_day) B.pre
  have hown : s.vm.findClass RX1 = some m.cls := findClass_of_methodNamed B.named
  have hlocks := B.notSynchronized
  subst hsz
  have hD := hD0.self (sz := s.heap.size)
  generalize hAe : va_A (qaH a0 jch jcD ji6 jhx jch cyI jdE) s.heap.size = A at hD ⊢
  have hA : ∀ q : Nat, s.heap.size ≤ q → A q := fun q h => by rw [← hAe]; exact Or.inr h
  have hS : va_S A s.heap s.heap [] := va_S.rf
  have hP : va_P (dC, dI) vwCl (qaH a0 jch jcD ji6 jhx jch cyI jdE) s.heap := hP
  have hl := lv_entry ([.ref a0]) (n := 1) (nbq rfl)
  rw [lg_entry_eq]
  generalize (lg_sl ([.ref a0]) ++ List.replicate (1 - (lg_sl ([.ref a0])).length) Slot.unset).toArray = ls at hl ⊢
  have hl : lv_has ls 1 [(0, .ref a0)] := hl
  have C0 : cfx p s m _ meth c cX1_day (some .int) wsX1_day RX1 1 A (dC, dI) (kT cyB cyI cyJ cyP) := ⟨hx, hb, hr, hts, hown, hlocks, hml, hA, hK, hNw⟩
  clear hAe
  obtain ⟨H, hH⟩ : ∃ H, H = s.heap := ⟨_, rfl⟩
  rw [← hH] at hP ⊢
  have hS : va_S A s.heap H [] := by rw [hH]; exact va_S.rf
  have hS := hS
  refine lv_aload_n hx hb (qaa qQO 0 rfl) rfl (lv_at hl 0 rfl) ?_
  refine va_get (D := (dC, dI)) (ci := 1) (v := .ref jch) (C := RX1) (T := TX1) (N := 4) hx hb hts qaUS hown hK hP 0 rfl rfl 0 (by decide) (hts _ qaRF) (fun _ h9 => h9) rfl (qaa qQO 1 rfl) ?_
  refine lv_iconst (v := 0) hx hb (qaa qQO 2 rfl) (by decide) ?_
  refine va_iald hx hb hK hP 1 1 rfl rfl (vin (by decide)) (qaa qQO 3 rfl) ?_
  refine lv_topi (fun x1 ex1 => ?_)
  have hw := hw x1 ex1
  exact ((W.iret (v := x1) hx hb hr (fun t ht hW => ⟨⟨x1, (), rfl, hw, by rw [ht]; exact hP, va_K.moved hW.alike hK, hD⟩, hS.F ht⟩) hS.2.2 (qaa qQO 4 rfl)))
theorem q9D : ∀ w ∈ u_ws RX1 TX1 4, w ∈ wsX1_caughtOnes := uiM q4K qV8 (by decide +kernel)
theorem q6K : (.fieldLink RX1 13 "MarchHares$Days" "row" "[I" : Cond) ∈ wsX1_caughtOnes := q4K 276 (by decide +kernel)
set_option maxHeartbeats 4000000 in
set_option maxRecDepth 100000 in
theorem qMZ (l : Launch) (dC : Nat → ClassId) (dI : Nat → Nat → Nat) (cyB cyI cyJ cyP : ClassId) (a0 jch sz : Nat) (jcD ji6 jhx : Value) (jdE : NI) {Q : Int32 → Prop} (hw : qEu jdE Q) : Met l yX1_caughtOnes wsX1_caughtOnes ({ frames := 0, cells := 0, slots := 0, locals := 0 }) (va_Pc [.ref a0] (cPc (dC, dI) (kT cyB cyI cyJ cyP) (qaH a0 jch jcD ji6 jhx jch cyI jdE) sz)) (va_Qi (fun (r : Int32) (_ : Unit) => Q r ) (cB (dC, dI) (kT cyB cyI cyJ cyP) (va_A (qaH a0 jch jcD ji6 jhx jch cyI jdE) sz) (fun u : Unit => ((qaH a0 jch jcD ji6 jhx jch cyI jdE) : va_W))) (va_A (qaH a0 jch jcD ji6 jhx jch cyI jdE) sz)) 0 0 (va_A (qaH a0 jch jcD ji6 jhx jch cyI jdE) sz) := by
  refine Met.ofW (cc := cX1_caughtOnes) (maxL := 1) (ret := (some .int)) (by decide) rfl ?_
  intro p e s m args below meth c s₁ B hml hv
  obtain ⟨rfl, hsz, hP, hK, hD0, hNw⟩ := hv
  have hx := B.exec
  have hb := B.bytes
  have hr := B.returns
  have hts := atoms_spec (ws := wsX1_caughtOnes) B.pre
  have hown : s.vm.findClass RX1 = some m.cls := findClass_of_methodNamed B.named
  have hlocks := B.notSynchronized
  subst hsz
  have hD := hD0.self (sz := s.heap.size)
  generalize hAe : va_A (qaH a0 jch jcD ji6 jhx jch cyI jdE) s.heap.size = A at hD ⊢
  have hA : ∀ q : Nat, s.heap.size ≤ q → A q := fun q h => by rw [← hAe]; exact Or.inr h
  have hS : va_S A s.heap s.heap [] := va_S.rf
  have hP : va_P (dC, dI) vwCl (qaH a0 jch jcD ji6 jhx jch cyI jdE) s.heap := hP
  have hl := lv_entry ([.ref a0]) (n := 1) (nbq rfl)
  rw [lg_entry_eq]
  generalize (lg_sl ([.ref a0]) ++ List.replicate (1 - (lg_sl ([.ref a0])).length) Slot.unset).toArray = ls at hl ⊢
  have hl : lv_has ls 1 [(0, .ref a0)] := hl
  have C0 : cfx p s m _ meth c cX1_caughtOnes (some .int) wsX1_caughtOnes RX1 1 A (dC, dI) (kT cyB cyI cyJ cyP) := ⟨hx, hb, hr, hts, hown, hlocks, hml, hA, hK, hNw⟩
  clear hAe
  obtain ⟨H, hH⟩ : ∃ H, H = s.heap := ⟨_, rfl⟩
  rw [← hH] at hP ⊢
  have hS : va_S A s.heap H [] := by rw [hH]; exact va_S.rf
  have hS := hS
  refine lv_aload_n hx hb (qaa qxj 0 rfl) rfl (lv_at hl 0 rfl) ?_
  refine va_get (D := (dC, dI)) (ci := 1) (v := .ref jch) (C := RX1) (T := TX1) (N := 4) hx hb hts q9D hown hK hP 0 rfl rfl 0 (by decide) (hts _ q6K) (fun _ h9 => h9) rfl (qaa qxj 1 rfl) ?_
  refine lv_iconst (v := 2) hx hb (qaa qxj 2 rfl) (by decide) ?_
  refine va_iald hx hb hK hP 1 1 rfl rfl (vin (by decide)) (qaa qxj 3 rfl) ?_
  refine lv_topi (fun x1 ex1 => ?_)
  have hw := hw x1 ex1
  exact ((W.iret (v := x1) hx hb hr (fun t ht hW => ⟨⟨x1, (), rfl, hw, by rw [ht]; exact hP, va_K.moved hW.alike hK, hD⟩, hS.F ht⟩) hS.2.2 (qaa qxj 4 rfl)))
theorem qaAE : ∀ w ∈ u_ws RX1 TX1 4, w ∈ wsX1_owesTo := uiM qaDD qV8 (by decide +kernel)
theorem qasJ : (.fieldLink RX1 13 "MarchHares$Days" "row" "[I" : Cond) ∈ wsX1_owesTo := qaDD 276 (by decide +kernel)
set_option maxHeartbeats 4000000 in
set_option maxRecDepth 100000 in
theorem qF4 (l : Launch) (dC : Nat → ClassId) (dI : Nat → Nat → Nat) (cyB cyI cyJ cyP : ClassId) (a0 jch sz : Nat) (jcD ji6 jhx : Value) (jdE : NI) (p1 p2 : Int32) {Q : Int32 → Prop} (hw : qwT jdE p1 p2 Q) : Met l yX1_owesTo wsX1_owesTo ({ frames := 0, cells := 0, slots := 0, locals := 0 }) (va_Pc [.ref a0, .int p1, .int p2] (cPc (dC, dI) (kT cyB cyI cyJ cyP) (qaH a0 jch jcD ji6 jhx jch cyI jdE) sz)) (va_Qi (fun (r : Int32) (_ : Unit) => Q r ) (cB (dC, dI) (kT cyB cyI cyJ cyP) (va_A (qaH a0 jch jcD ji6 jhx jch cyI jdE) sz) (fun u : Unit => ((qaH a0 jch jcD ji6 jhx jch cyI jdE) : va_W))) (va_A (qaH a0 jch jcD ji6 jhx jch cyI jdE) sz)) 0 0 (va_A (qaH a0 jch jcD ji6 jhx jch cyI jdE) sz) := by
  refine Met.ofW (cc := cX1_owesTo) (maxL := 3) (ret := (some .int)) (by decide) rfl ?_
  intro p e s m args below meth c s₁ B hml hv
  obtain ⟨rfl, hsz, hP, hK, hD0, hNw⟩ := hv
  have hx := B.exec
  have hb := B.bytes
  have hr := B.returns
  have hts := atoms_spec (ws := wsX1_owesTo) B.pre
  have hown : s.vm.findClass RX1 = some m.cls := findClass_of_methodNamed B.named
  have hlocks := B.notSynchronized
  subst hsz
  have hD := hD0.self (sz := s.heap.size)
  generalize hAe : va_A (qaH a0 jch jcD ji6 jhx jch cyI jdE) s.heap.size = A at hD ⊢
  have hA : ∀ q : Nat, s.heap.size ≤ q → A q := fun q h => by rw [← hAe]; exact Or.inr h
  have hS : va_S A s.heap s.heap [] := va_S.rf
  have hP : va_P (dC, dI) vwCl (qaH a0 jch jcD ji6 jhx jch cyI jdE) s.heap := hP
  have hl := lv_entry ([.ref a0, .int p1, .int p2]) (n := 3) (nbq rfl)
  rw [lg_entry_eq]
  generalize (lg_sl ([.ref a0, .int p1, .int p2]) ++ List.replicate (3 - (lg_sl ([.ref a0, .int p1, .int p2])).length) Slot.unset).toArray = ls at hl ⊢
  have hl : lv_has ls 3 [(0, .ref a0), (1, .int p1), (2, .int p2)] := hl
  have C0 : cfx p s m _ meth c cX1_owesTo (some .int) wsX1_owesTo RX1 3 A (dC, dI) (kT cyB cyI cyJ cyP) := ⟨hx, hb, hr, hts, hown, hlocks, hml, hA, hK, hNw⟩
  clear hAe
  obtain ⟨H, hH⟩ : ∃ H, H = s.heap := ⟨_, rfl⟩
  rw [← hH] at hP ⊢
  have hS : va_S A s.heap H [] := by rw [hH]; exact va_S.rf
  have hS := hS
  refine lv_aload_n hx hb (qaa qqx 0 rfl) rfl (lv_at hl 0 rfl) ?_
  refine va_get (D := (dC, dI)) (ci := 1) (v := .ref jch) (C := RX1) (T := TX1) (N := 4) hx hb hts qaAE hown hK hP 0 rfl rfl 0 (by decide) (hts _ qasJ) (fun _ h9 => h9) rfl (qaa qqx 1 rfl) ?_
  refine lv_bipush (v := 28) hx hb (qaa qqx 2 rfl) (by decide) ?_
  refine lv_iload_n hx hb (qaa qqx 3 rfl) rfl (lv_at hl 1 rfl) ?_
  refine lv_bipush (v := 6) hx hb (qaa qqx 4 rfl) (by decide) ?_
  refine lv_imul hx hb (qaa qqx 5 rfl) ?_
  refine lv_iadd hx hb (qaa qqx 6 rfl) ?_
  refine lv_topi (fun x1 ex1 => ?_)
  have hw := hw x1 ex1
  refine lv_iload_n hx hb (qaa qqx 7 rfl) rfl (lv_at hl 2 rfl) ?_
  refine lv_iadd hx hb (qaa qqx 8 rfl) ?_
  refine lv_topi (fun x2 ex2 => ?_)
  have hw := hw x2 ex2
  obtain ⟨hi9, hw⟩ := hw
  refine va_iald hx hb hK hP 1 1 rfl rfl hi9 (qaa qqx 9 rfl) ?_
  refine lv_topi (fun x3 ex3 => ?_)
  have hw := hw x3 ex3
  exact ((W.iret (v := x3) hx hb hr (fun t ht hW => ⟨⟨x3, (), rfl, hw, by rw [ht]; exact hP, va_K.moved hW.alike hK, hD⟩, hS.F ht⟩) hS.2.2 (qaa qqx 10 rfl)))
theorem qaR4 : ∀ w ∈ u_ws RX1 TX1 4, w ∈ wsX1_owes := uiM qV7 qV8 (by decide +kernel)
theorem qaNx : ∀ w ∈ u_ws RX2 TX2 12, w ∈ wsX1_owes := uiM qV7 qLg (by decide +kernel)
theorem qaKn : (.fieldLink RX1 24 "MarchHares$Days" "down" "LMarchHares$Down;" : Cond) ∈ wsX1_owes := qV7 322 (by decide +kernel)
theorem qaIl : (.fieldLink RX1 32 "MarchHares$Down" "hares" "I" : Cond) ∈ wsX1_owes := qV7 324 (by decide +kernel)
set_option maxHeartbeats 4000000 in
set_option maxRecDepth 100000 in
theorem qaTs {p : Program} {l : Launch} {e : Env} {s : State} {m : MethodId} {args : Array Value} {below : List Frame} {meth : Method} {c : Code} {A : Nat → Prop} (dC : Nat → ClassId) (dI : Nat → Nat → Nat) (cyB cyI cyJ cyP : ClassId) (a0 jfB jch : Nat) (jcD jhx jhp jhq jgi jgj jgk jgz jfR jgl jgO jfS jiB : Value) (jc5 : Int32) (jdE : NI) (Q : Int32 → Prop) (C0 : cfx p s m args meth c cX1_owes (some .int) wsX1_owes RX1 4 A (dC, dI) (kT cyB cyI cyJ cyP)) : ∀ (n : Nat) (H : Heap) (locs : List Loc) (ls : Array Slot) (l1 l2 l3 : Int32), va_P (dC, dI) vwCl (qpO a0 jch jcD jfB jhx jfB jhp jhq jgi jgj jgk jgz jfR jgl jgO jc5 jfS jiB jch cyI jdE) H → va_D A (qpO a0 jch jcD jfB jhx jfB jhp jhq jgi jgj jgk jgz jfR jgl jgO jc5 jfS jiB jch cyI jdE) → va_S A s.heap H locs → lv_has ls 4 [(0, .ref a0), (1, .int l1), (2, .int l2), (3, .int l3)] → qLA jc5 jdE Q n l1 l2 l3 → W p l e (headSpec wsX1_owes ({ frames := 1, cells := 0, slots := 0, locals := 22 })).room s m args below meth c H locs 0 0 (MQ below (va_Qi (fun (r : Int32) (_ : Unit) => Q r ) (cB (dC, dI) (kT cyB cyI cyJ cyP) A (fun u : Unit => ((qpO a0 jch jcD jfB jhx jfB jhp jhq jgi jgj jgk jgz jfR jgl jgO jc5 jfS jiB jch cyI jdE) : va_W))) A) args s 0 0 A) (F0 m 4 ls []) := by
  obtain ⟨hx, hb, hr, hts, hown, hlocks, hml, hA, hK, hNw⟩ := id C0
  intro n
  induction n with
  | zero => intro H locs ls l1 l2 l3 hP hD hS hl hw; exact False.elim hw
  | succ n ih =>
    intro H locs ls l1 l2 l3 hP hD hS hl hw
    refine lv_iload_n hx hb (qaa qoA 4 rfl) rfl (lv_at hl 3 rfl) ?_
    refine lv_aload_n hx hb (qaa qoA 5 rfl) rfl (lv_at hl 0 rfl) ?_
    refine va_get (D := (dC, dI)) (ci := 1) (v := .ref jfB) (C := RX1) (T := TX1) (N := 4) hx hb hts qaR4 hown hK hP 0 rfl rfl 2 (by decide) (hts _ qaKn) (fun _ h9 => h9) rfl (qaa qoA 6 rfl) ?_
    refine va_get (D := (dC, dI)) (ci := 2) (v := .int jc5) (C := RX2) (T := TX2) (N := 12) hx hb hts qaNx hown hK hP 1 rfl rfl 9 (by decide) (hts _ qaIl) (fun _ h9 => h9) rfl (qaa qoA 7 rfl) ?_
    refine lv_icmp_ge (tgt := 30) hx hb (qaa qoA 8 rfl) (by decide) (fun c1 => ?_) (fun c1 => ?_)
    · have hw := hw.1 c1
      refine lv_iload_n hx hb (qaa qN1 2 rfl) rfl (lv_at hl 2 rfl) ?_
      exact ((W.iret (v := l2) hx hb hr (fun t ht hW => ⟨⟨l2, (), rfl, hw, by rw [ht]; exact hP, va_K.moved hW.alike hK, hD⟩, hS.F ht⟩) hS.2.2 (qaa qN1 3 rfl)))
    · have hw := hw.2 c1
      refine lv_iload_n hx hb (qaa qoA 9 rfl) rfl (lv_at hl 2 rfl) ?_
      refine lv_aload_n hx hb (qaa qoA 10 rfl) rfl (lv_at hl 0 rfl) ?_
      refine lv_iload_n hx hb (qaa qoA 11 rfl) rfl (lv_at hl 1 rfl) ?_
      refine lv_iload_n hx hb (qaa qoA 12 rfl) rfl (lv_at hl 3 rfl) ?_
      obtain ⟨hCc, hPc, hDc, hFc⟩ := qac (ws' := (qafK a0 jch jcD jfB jhx jch cyI jdE)) hP hD hS hA [0, 2] (by decide +kernel) rfl
      refine va_calli (va_runV (As := [.int l1, .int l3]) (rest := [.int l2]) ⟨hx, hb, hml, hown, hts⟩ (qF4 l dC dI cyB cyI cyJ cyP a0 jch H.size (jcD) (.ref jfB) (jhx) jdE l1 l3 hw) (cwV 2 hts gX1_owes_X1_owesTo rfl rfl rfl (by decide +kernel) ⟨nbq rfl, nbq rfl⟩) ⟨qab, va_recv (q := (RX1, TX1, 4)) hK hPc (ci := 1) (q0 := 0) rfl rfl, qae hPc hK hDc hNw⟩ rfl rfl hl.1 rfl (lv_room (nbq rfl)) (qaa qoA 13 rfl) ⟨nbq rfl, nbq rfl⟩) hS (fun q _ h => hFc q h) hFc (fun r2 u t H1 locs ht hvm hw hB hz1 hk1 hS => ?_)
      obtain ⟨hP1, hK1, hD1⟩ := hB
      rw [ht] at hP1
      obtain ⟨hP, hD⟩ := qad (wr := [(jfB, .inr (2, [jhp, jhq, jgi, jgj, jgk, jgz, jfR, jgl, jgO, .int jc5, jfS, jiB]))]) (w1 := (qafK a0 jch jcD jfB jhx jch cyI jdE)) (wn := (qpO a0 jch jcD jfB jhx jfB jhp jhq jgi jgj jgk jgz jfR jgl jgO jc5 jfS jiB jch cyI jdE)) hP hD [0, 2] [1] [1, 0, 2] hCc rfl (by decide +kernel) (by decide +kernel) (by decide +kernel) rfl hk1 hFc hP1 hD1
      generalize H1 = H at hP hS ⊢
      refine lv_iadd hx hb (qaa qoA 14 rfl) ?_
      refine lv_topi (fun x3 ex3 => ?_)
      have hw := hw x3 ex3
      refine lv_istore_n (lv' := [(2, .int x3), (0, .ref a0), (1, .int l1), (3, .int l3)]) hx hb (qaa qoA 15 rfl) rfl hl (by decide) rfl (fun ls hl => ?_)
      obtain ⟨x4, ex4⟩ : ∃ y : Int32, y = l3 + 1 := ⟨_, rfl⟩
      have hw := hw x4 ex4
      refine lv_iinc (v := x4) (lv' := [(3, .int x4), (2, .int x3), (0, .ref a0), (1, .int l1)]) hx hb (qaa qN1 0 rfl) hl (k := 3) rfl (by rw [ex4]; rfl) (by decide) rfl (fun ls hl => ?_)
      refine lv_goto (tgt := 4) hx hb (qaa qN1 1 rfl) (by decide) ?_
      exact ih _ _ _ l1 x3 x4 hP hD hS (lv_sub hl [2, 3, 1, 0] rfl) hw
set_option maxHeartbeats 4000000 in
set_option maxRecDepth 100000 in
theorem qajG (l : Launch) (dC : Nat → ClassId) (dI : Nat → Nat → Nat) (cyB cyI cyJ cyP : ClassId) (a0 jfB jch sz : Nat) (jcD jhx jhp jhq jgi jgj jgk jgz jfR jgl jgO jfS jiB : Value) (jc5 : Int32) (jdE : NI) (p1 : Int32) {Q : Int32 → Prop} (hw : qOx jc5 jdE p1 Q) : Met l yX1_owes wsX1_owes ({ frames := 1, cells := 0, slots := 0, locals := 22 }) (va_Pc [.ref a0, .int p1] (cPc (dC, dI) (kT cyB cyI cyJ cyP) (qpO a0 jch jcD jfB jhx jfB jhp jhq jgi jgj jgk jgz jfR jgl jgO jc5 jfS jiB jch cyI jdE) sz)) (va_Qi (fun (r : Int32) (_ : Unit) => Q r ) (cB (dC, dI) (kT cyB cyI cyJ cyP) (va_A (qpO a0 jch jcD jfB jhx jfB jhp jhq jgi jgj jgk jgz jfR jgl jgO jc5 jfS jiB jch cyI jdE) sz) (fun u : Unit => ((qpO a0 jch jcD jfB jhx jfB jhp jhq jgi jgj jgk jgz jfR jgl jgO jc5 jfS jiB jch cyI jdE) : va_W))) (va_A (qpO a0 jch jcD jfB jhx jfB jhp jhq jgi jgj jgk jgz jfR jgl jgO jc5 jfS jiB jch cyI jdE) sz)) 0 0 (va_A (qpO a0 jch jcD jfB jhx jfB jhp jhq jgi jgj jgk jgz jfR jgl jgO jc5 jfS jiB jch cyI jdE) sz) := by
  refine Met.ofW (cc := cX1_owes) (maxL := 4) (ret := (some .int)) (by decide) rfl ?_
  intro p e s m args below meth c s₁ B hml hv
  obtain ⟨rfl, hsz, hP, hK, hD0, hNw⟩ := hv
  have hx := B.exec
  have hb := B.bytes
  have hr := B.returns
  have hts := atoms_spec (ws := wsX1_owes) B.pre
  have hown : s.vm.findClass RX1 = some m.cls := findClass_of_methodNamed B.named
  have hlocks := B.notSynchronized
  subst hsz
  have hD := hD0.self (sz := s.heap.size)
  generalize hAe : va_A (qpO a0 jch jcD jfB jhx jfB jhp jhq jgi jgj jgk jgz jfR jgl jgO jc5 jfS jiB jch cyI jdE) s.heap.size = A at hD ⊢
  have hA : ∀ q : Nat, s.heap.size ≤ q → A q := fun q h => by rw [← hAe]; exact Or.inr h
  have hS : va_S A s.heap s.heap [] := va_S.rf
  have hP : va_P (dC, dI) vwCl (qpO a0 jch jcD jfB jhx jfB jhp jhq jgi jgj jgk jgz jfR jgl jgO jc5 jfS jiB jch cyI jdE) s.heap := hP
  have hl := lv_entry ([.ref a0, .int p1]) (n := 4) (nbq rfl)
  rw [lg_entry_eq]
  generalize (lg_sl ([.ref a0, .int p1]) ++ List.replicate (4 - (lg_sl ([.ref a0, .int p1])).length) Slot.unset).toArray = ls at hl ⊢
  have hl : lv_has ls 4 [(0, .ref a0), (1, .int p1)] := hl
  have C0 : cfx p s m _ meth c cX1_owes (some .int) wsX1_owes RX1 4 A (dC, dI) (kT cyB cyI cyJ cyP) := ⟨hx, hb, hr, hts, hown, hlocks, hml, hA, hK, hNw⟩
  clear hAe
  obtain ⟨H, hH⟩ : ∃ H, H = s.heap := ⟨_, rfl⟩
  rw [← hH] at hP ⊢
  have hS : va_S A s.heap H [] := by rw [hH]; exact va_S.rf
  have hS := hS
  refine lv_iconst (v := 0) hx hb (qaa qoA 0 rfl) (by decide) ?_
  refine lv_istore_n (lv' := [(2, .int 0), (0, .ref a0), (1, .int p1)]) hx hb (qaa qoA 1 rfl) rfl hl (by decide) rfl (fun ls hl => ?_)
  refine lv_iconst (v := 0) hx hb (qaa qoA 2 rfl) (by decide) ?_
  refine lv_istore_n (lv' := [(3, .int 0), (2, .int 0), (0, .ref a0), (1, .int p1)]) hx hb (qaa qoA 3 rfl) rfl hl (by decide) rfl (fun ls hl => ?_)
  obtain ⟨n9, hw⟩ := hw
  exact qaTs dC dI cyB cyI cyJ cyP a0 jfB jch jcD jhx jhp jhq jgi jgj jgk jgz jfR jgl jgO jfS jiB jc5 jdE Q C0 n9 _ _ _ p1 0 0 hP hD hS (lv_sub hl [2, 3, 1, 0] rfl) hw
theorem qamc : ∀ w ∈ u_ws RX1 TX1 4, w ∈ wsX1_allDebts := uiM qCt qV8 (by decide +kernel)
theorem qanx : ∀ w ∈ u_ws RX2 TX2 12, w ∈ wsX1_allDebts := uiM qCt qLg (by decide +kernel)
theorem qadh : (.fieldLink RX1 24 "MarchHares$Days" "down" "LMarchHares$Down;" : Cond) ∈ wsX1_allDebts := qCt 322 (by decide +kernel)
theorem qadR : (.fieldLink RX1 32 "MarchHares$Down" "hares" "I" : Cond) ∈ wsX1_allDebts := qCt 324 (by decide +kernel)
set_option maxHeartbeats 4000000 in
set_option maxRecDepth 100000 in
theorem qas1 {p : Program} {l : Launch} {e : Env} {s : State} {m : MethodId} {args : Array Value} {below : List Frame} {meth : Method} {c : Code} {A : Nat → Prop} (dC : Nat → ClassId) (dI : Nat → Nat → Nat) (cyB cyI cyJ cyP : ClassId) (a0 jfB jch : Nat) (jcD jhx jhp jhq jgi jgj jgk jgz jfR jgl jgO jfS jiB : Value) (jc5 : Int32) (jdE : NI) (Q : Int32 → Prop) (C0 : cfx p s m args meth c cX1_allDebts (some .int) wsX1_allDebts RX1 3 A (dC, dI) (kT cyB cyI cyJ cyP)) : ∀ (n : Nat) (H : Heap) (locs : List Loc) (ls : Array Slot) (l1 l2 : Int32), va_P (dC, dI) vwCl (qpO a0 jch jcD jfB jhx jfB jhp jhq jgi jgj jgk jgz jfR jgl jgO jc5 jfS jiB jch cyI jdE) H → va_D A (qpO a0 jch jcD jfB jhx jfB jhp jhq jgi jgj jgk jgz jfR jgl jgO jc5 jfS jiB jch cyI jdE) → va_S A s.heap H locs → lv_has ls 3 [(0, .ref a0), (1, .int l1), (2, .int l2)] → qE7 jc5 jdE Q n l1 l2 → W p l e (headSpec wsX1_allDebts ({ frames := 2, cells := 0, slots := 0, locals := 45 })).room s m args below meth c H locs 0 0 (MQ below (va_Qi (fun (r : Int32) (_ : Unit) => Q r ) (cB (dC, dI) (kT cyB cyI cyJ cyP) A (fun u : Unit => ((qpO a0 jch jcD jfB jhx jfB jhp jhq jgi jgj jgk jgz jfR jgl jgO jc5 jfS jiB jch cyI jdE) : va_W))) A) args s 0 0 A) (F0 m 4 ls []) := by
  obtain ⟨hx, hb, hr, hts, hown, hlocks, hml, hA, hK, hNw⟩ := id C0
  intro n
  induction n with
  | zero => intro H locs ls l1 l2 hP hD hS hl hw; exact False.elim hw
  | succ n ih =>
    intro H locs ls l1 l2 hP hD hS hl hw
    refine lv_iload_n hx hb (qaa qfl 4 rfl) rfl (lv_at hl 2 rfl) ?_
    refine lv_aload_n hx hb (qaa qfl 5 rfl) rfl (lv_at hl 0 rfl) ?_
    refine va_get (D := (dC, dI)) (ci := 1) (v := .ref jfB) (C := RX1) (T := TX1) (N := 4) hx hb hts qamc hown hK hP 0 rfl rfl 2 (by decide) (hts _ qadh) (fun _ h9 => h9) rfl (qaa qfl 6 rfl) ?_
    refine va_get (D := (dC, dI)) (ci := 2) (v := .int jc5) (C := RX2) (T := TX2) (N := 12) hx hb hts qanx hown hK hP 1 rfl rfl 9 (by decide) (hts _ qadR) (fun _ h9 => h9) rfl (qaa qfl 7 rfl) ?_
    refine lv_icmp_ge (tgt := 29) hx hb (qaa qfl 8 rfl) (by decide) (fun c1 => ?_) (fun c1 => ?_)
    · have hw := hw.1 c1
      refine lv_iload_n hx hb (qaa qJD 1 rfl) rfl (lv_at hl 1 rfl) ?_
      exact ((W.iret (v := l1) hx hb hr (fun t ht hW => ⟨⟨l1, (), rfl, hw, by rw [ht]; exact hP, va_K.moved hW.alike hK, hD⟩, hS.F ht⟩) hS.2.2 (qaa qJD 2 rfl)))
    · have hw := hw.2 c1
      refine lv_iload_n hx hb (qaa qfl 9 rfl) rfl (lv_at hl 1 rfl) ?_
      refine lv_aload_n hx hb (qaa qfl 10 rfl) rfl (lv_at hl 0 rfl) ?_
      refine lv_iload_n hx hb (qaa qfl 11 rfl) rfl (lv_at hl 2 rfl) ?_
      obtain ⟨hCc, hPc, hDc, hFc⟩ := qac (ws' := (qpO a0 jch jcD jfB jhx jfB jhp jhq jgi jgj jgk jgz jfR jgl jgO jc5 jfS jiB jch cyI jdE)) hP hD hS hA [0, 1, 2] (by decide +kernel) rfl
      refine va_calli (va_runV (As := [.int l2]) (rest := [.int l1]) ⟨hx, hb, hml, hown, hts⟩ (qajG l dC dI cyB cyI cyJ cyP a0 jfB jch H.size (jcD) (jhx) (jhp) (jhq) (jgi) (jgj) (jgk) (jgz) (jfR) (jgl) (jgO) (jfS) (jiB) jc5 jdE l2 hw) (cwV 1 hts gX1_allDebts_X1_owes rfl rfl rfl (by decide +kernel) ⟨nbq rfl, nbq rfl⟩) ⟨qab, va_recv (q := (RX1, TX1, 4)) hK hPc (ci := 1) (q0 := 0) rfl rfl, qae hPc hK hDc hNw⟩ rfl rfl hl.1 rfl (lv_room (nbq rfl)) (qaa qfl 12 rfl) ⟨nbq rfl, nbq rfl⟩) hS (fun q _ h => hFc q h) hFc (fun r2 u t H1 locs ht hvm hw hB hz1 hk1 hS => ?_)
      obtain ⟨hP1, hK1, hD1⟩ := hB
      rw [ht] at hP1
      obtain ⟨hP, hD⟩ := qah (wr := []) (w1 := (qpO a0 jch jcD jfB jhx jfB jhp jhq jgi jgj jgk jgz jfR jgl jgO jc5 jfS jiB jch cyI jdE)) (wn := (qpO a0 jch jcD jfB jhx jfB jhp jhq jgi jgj jgk jgz jfR jgl jgO jc5 jfS jiB jch cyI jdE)) hP hD [0, 1, 2] [] hCc rfl (by decide +kernel) (by decide +kernel) rfl hk1 hFc hP1 hD1
      generalize H1 = H at hP hS ⊢
      refine lv_iadd hx hb (qaa qfl 13 rfl) ?_
      refine lv_topi (fun x3 ex3 => ?_)
      have hw := hw x3 ex3
      refine lv_istore_n (lv' := [(1, .int x3), (0, .ref a0), (2, .int l2)]) hx hb (qaa qfl 14 rfl) rfl hl (by decide) rfl (fun ls hl => ?_)
      obtain ⟨x4, ex4⟩ : ∃ y : Int32, y = l2 + 1 := ⟨_, rfl⟩
      have hw := hw x4 ex4
      refine lv_iinc (v := x4) (lv' := [(2, .int x4), (1, .int x3), (0, .ref a0)]) hx hb (qaa qfl 15 rfl) hl (k := 2) rfl (by rw [ex4]; rfl) (by decide) rfl (fun ls hl => ?_)
      refine lv_goto (tgt := 4) hx hb (qaa qJD 0 rfl) (by decide) ?_
      exact ih _ _ _ x3 x4 hP hD hS (lv_sub hl [2, 1, 0] rfl) hw
set_option maxHeartbeats 4000000 in
set_option maxRecDepth 100000 in
theorem q8j (l : Launch) (dC : Nat → ClassId) (dI : Nat → Nat → Nat) (cyB cyI cyJ cyP : ClassId) (a0 jfB jch sz : Nat) (jcD jhx jhp jhq jgi jgj jgk jgz jfR jgl jgO jfS jiB : Value) (jc5 : Int32) (jdE : NI) {Q : Int32 → Prop} (hw : qK0 jc5 jdE Q) : Met l yX1_allDebts wsX1_allDebts ({ frames := 2, cells := 0, slots := 0, locals := 45 }) (va_Pc [.ref a0] (cPc (dC, dI) (kT cyB cyI cyJ cyP) (qpO a0 jch jcD jfB jhx jfB jhp jhq jgi jgj jgk jgz jfR jgl jgO jc5 jfS jiB jch cyI jdE) sz)) (va_Qi (fun (r : Int32) (_ : Unit) => Q r ) (cB (dC, dI) (kT cyB cyI cyJ cyP) (va_A (qpO a0 jch jcD jfB jhx jfB jhp jhq jgi jgj jgk jgz jfR jgl jgO jc5 jfS jiB jch cyI jdE) sz) (fun u : Unit => ((qpO a0 jch jcD jfB jhx jfB jhp jhq jgi jgj jgk jgz jfR jgl jgO jc5 jfS jiB jch cyI jdE) : va_W))) (va_A (qpO a0 jch jcD jfB jhx jfB jhp jhq jgi jgj jgk jgz jfR jgl jgO jc5 jfS jiB jch cyI jdE) sz)) 0 0 (va_A (qpO a0 jch jcD jfB jhx jfB jhp jhq jgi jgj jgk jgz jfR jgl jgO jc5 jfS jiB jch cyI jdE) sz) := by
  refine Met.ofW (cc := cX1_allDebts) (maxL := 3) (ret := (some .int)) (by decide) rfl ?_
  intro p e s m args below meth c s₁ B hml hv
  obtain ⟨rfl, hsz, hP, hK, hD0, hNw⟩ := hv
  have hx := B.exec
  have hb := B.bytes
  have hr := B.returns
  have hts := atoms_spec (ws := wsX1_allDebts) B.pre
  have hown : s.vm.findClass RX1 = some m.cls := findClass_of_methodNamed B.named
  have hlocks := B.notSynchronized
  subst hsz
  have hD := hD0.self (sz := s.heap.size)
  generalize hAe : va_A (qpO a0 jch jcD jfB jhx jfB jhp jhq jgi jgj jgk jgz jfR jgl jgO jc5 jfS jiB jch cyI jdE) s.heap.size = A at hD ⊢
  have hA : ∀ q : Nat, s.heap.size ≤ q → A q := fun q h => by rw [← hAe]; exact Or.inr h
  have hS : va_S A s.heap s.heap [] := va_S.rf
  have hP : va_P (dC, dI) vwCl (qpO a0 jch jcD jfB jhx jfB jhp jhq jgi jgj jgk jgz jfR jgl jgO jc5 jfS jiB jch cyI jdE) s.heap := hP
  have hl := lv_entry ([.ref a0]) (n := 3) (nbq rfl)
  rw [lg_entry_eq]
  generalize (lg_sl ([.ref a0]) ++ List.replicate (3 - (lg_sl ([.ref a0])).length) Slot.unset).toArray = ls at hl ⊢
  have hl : lv_has ls 3 [(0, .ref a0)] := hl
  have C0 : cfx p s m _ meth c cX1_allDebts (some .int) wsX1_allDebts RX1 3 A (dC, dI) (kT cyB cyI cyJ cyP) := ⟨hx, hb, hr, hts, hown, hlocks, hml, hA, hK, hNw⟩
  clear hAe
  obtain ⟨H, hH⟩ : ∃ H, H = s.heap := ⟨_, rfl⟩
  rw [← hH] at hP ⊢
  have hS : va_S A s.heap H [] := by rw [hH]; exact va_S.rf
  have hS := hS
  refine lv_iconst (v := 0) hx hb (qaa qfl 0 rfl) (by decide) ?_
  refine lv_istore_n (lv' := [(1, .int 0), (0, .ref a0)]) hx hb (qaa qfl 1 rfl) rfl hl (by decide) rfl (fun ls hl => ?_)
  refine lv_iconst (v := 0) hx hb (qaa qfl 2 rfl) (by decide) ?_
  refine lv_istore_n (lv' := [(2, .int 0), (1, .int 0), (0, .ref a0)]) hx hb (qaa qfl 3 rfl) rfl hl (by decide) rfl (fun ls hl => ?_)
  obtain ⟨n9, hw⟩ := hw
  exact qas1 dC dI cyB cyI cyJ cyP a0 jfB jch jcD jhx jhp jhq jgi jgj jgk jgz jfR jgl jgO jfS jiB jc5 jdE Q C0 n9 _ _ _ 0 0 hP hD hS (lv_sub hl [2, 1, 0] rfl) hw
theorem qaos {x k : Int32} {n : Int} (h : ¬ x = k) (e : k.toInt = n) : ¬ n = x.toInt := fun q => h (Int32.toInt_inj.mp (q.symm.trans e.symm))
theorem qwt : ∀ w ∈ u_ws RX10 TX10 19, w ∈ wsX10_ahead := uiM qq3 qyE (by decide +kernel)
theorem qaqH : (.fieldLink RX10 58 "MarchHares" "now" "LMarchHares$Days;" : Cond) ∈ wsX10_ahead := qq3 79 (by decide +kernel)
theorem qAl : (.fieldLink RX10 62 "MarchHares" "trial" "LMarchHares$Days;" : Cond) ∈ wsX10_ahead := qq3 80 (by decide +kernel)
set_option maxHeartbeats 4000000 in
set_option maxRecDepth 100000 in
theorem qaDy {p : Program} {l : Launch} {e : Env} {s : State} {m : MethodId} {args : Array Value} {below : List Frame} {meth : Method} {c : Code} {A : Nat → Prop} (dC : Nat → ClassId) (dI : Nat → Nat → Nat) (cyB cyI cyJ cyP : ClassId) (a0 jh8 jaT jbb jhy jaR jb6 jcF : Nat) (jaK jfP ja1 jcp jbc jbV ja3 jbH jaq jac jbI jbl jbn jba jaa jbA jiJ jbr jcB jcC jbo jbp jbk jbe jbq jef jbi : Value) (jbQ : NI) (jbm jdB : Int32) (jfQ : NI) (E : String → Int32 → NI → Value → Value → Prop) (Q : Int32 → Int32 → NI → Value → Value → Prop) (C0 : cfx p s m args meth c cX10_ahead (some .int) wsX10_ahead RX10 4 A (dC, dI) (kT cyB cyI cyJ cyP) ∧ cfX l s c A) : ∀ (n : Nat) (H : Heap) (locs : List Loc) (ls : Array Slot) (jbz : Int32) (jjV : NI) (jkp jkP : Value) (l1 l2 l3 : Int32), va_P (dC, dI) vwCl (qaaa a0 jaK jfP ja1 jcp jbc jbV ja3 jbH jaT jh8 jaq jac jbI jbl jbn jba jaa jbA jbz jh8 jhy jiJ jaR jb6 jaT jbb jbr jaR jb6 jbb cyI jbQ jhy cyI jjV jaR jcB jcC jbo jbp jbk jcF jbe jbq jef jbm jbi jdB jcF cyI jfQ) H → va_D A (qaaa a0 jaK jfP ja1 jcp jbc jbV ja3 jbH jaT jh8 jaq jac jbI jbl jbn jba jaa jbA jbz jh8 jhy jiJ jaR jb6 jaT jbb jbr jaR jb6 jbb cyI jbQ jhy cyI jjV jaR jcB jcC jbo jbp jbk jcF jbe jbq jef jbm jbi jdB jcF cyI jfQ) → va_S A s.heap H locs → lv_has ls 4 [(0, .ref a0), (1, .int l1), (2, .int l2), (3, .int l3)] → qI7 jaR jb6 jbQ jbm jdB jfQ E Q n jbz jjV jkp jkP l1 l2 l3 → W p l e (headSpec wsX10_ahead ({ frames := 8, cells := 2, slots := 12, locals := 164 })).room s m args below meth c H locs 2 12 (vx_MQ below (va_Qi (fun (r : Int32) (u : Int32 × NI × Value × Value) => Q r u.1 u.2.1 u.2.2.1 u.2.2.2) (cB (dC, dI) (kT cyB cyI cyJ cyP) A (fun u : Int32 × NI × Value × Value => ((qDw a0 jaK jfP ja1 jcp jbc jbV ja3 jbH jaT jh8 jaq jac jbI jbl jbn jba jaa jbA u.1 jh8 jhy jiJ u.2.2.1 u.2.2.2 jaT jbb jbr jaR jb6 jbb cyI jbQ jhy cyI u.2.1 jaR jcB jcC jbo jbp jbk jcF jbe jbq jef jbm jbi jdB jcF cyI jfQ) : va_W))) A) (vx_X (fun _ => True) (fun (en : String) (u : Int32 × NI × Value × Value) (t : State) => E en u.1 u.2.1 u.2.2.1 u.2.2.2 ∧ cB (dC, dI) (kT cyB cyI cyJ cyP) A (fun u : Int32 × NI × Value × Value => ((qDw a0 jaK jfP ja1 jcp jbc jbV ja3 jbH jaT jh8 jaq jac jbI jbl jbn jba jaa jbA u.1 jh8 jhy jiJ u.2.2.1 u.2.2.2 jaT jbb jbr jaR jb6 jbb cyI jbQ jhy cyI u.2.1 jaR jcB jcC jbo jbp jbk jcF jbe jbq jef jbm jbi jdB jcF cyI jfQ) : va_W)) u t) A) args s 2 12 A) (F0 m 28 ls []) := by
  obtain ⟨⟨hx, hb, hr, hts, hown, hlocks, hml, hA, hK, hNw⟩, hXs⟩ := id C0
  have hY := hXs.2
  intro n
  induction n with
  | zero => intro H locs ls jbz jjV jkp jkP l1 l2 l3 hP hD hS hl hw; exact False.elim hw
  | succ n ih =>
    intro H locs ls jbz jjV jkp jkP l1 l2 l3 hP hD hS hl hw
    refine lv_iload_n hx hb (qaa qqu 1 rfl) rfl (lv_at hl 3 rfl) ?_
    refine lv_iload_n hx hb (qaa qqu 2 rfl) rfl (lv_at hl 1 rfl) ?_
    refine lv_icmp_ge (tgt := 46) hx hb (qaa qqu 3 rfl) (by decide) (fun c4 => ?_) (fun c4 => ?_)
    · have hw := hw.1 c4
      refine lv_iload_n hx hb (qaa qqu 9 rfl) rfl (lv_at hl 2 rfl) ?_
      by_cases c5 : l2 = 0
      · have hw := hw.1 c5
        refine lv_lookup (tgt := 72) (off := 25) hx hb dX10_ahead_47 (by decide) (by rw [c5]; decide) (by decide) ?_
        refine lv_aload_n hx hb (qaa qnR 0 rfl) rfl (lv_at hl 0 rfl) ?_
        refine va_get (D := (dC, dI)) (ci := 10) (v := .ref jh8) (C := RX10) (T := TX10) (N := 19) hx hb hts qwt hown hK hP 0 rfl rfl 9 (by decide) (hts _ qAl) (fun _ h9 => h9) rfl (qaa qnR 1 rfl) ?_
        obtain ⟨hCc, hPc, hDc, hFc⟩ := qac (ws' := (qaPm jh8 jhy jiJ jaR jb6 jhy cyI jjV)) hP hD hS hA [1, 4] (by decide +kernel) rfl
        refine va_calli (va_runV (As := []) (rest := []) ⟨hx, hb, hml, hown, hts⟩ (qag5 l dC dI cyB cyI cyJ cyP jh8 jhy H.size (jiJ) (.ref jaR) (.ref jb6) jjV hw) (cwV 0 hts gX10_ahead_X1_day rfl rfl rfl (by decide +kernel) ⟨nbq rfl, nbq rfl⟩) ⟨qab, va_recv (q := (RX1, TX1, 4)) hK hPc (ci := 1) (q0 := 0) rfl rfl, qae hPc hK hDc hNw⟩ rfl rfl hl.1 rfl (lv_room (nbq rfl)) (qaa qnR 2 rfl) ⟨nbq rfl, nbq rfl⟩) hS (fun q _ h => hFc q h) hFc (fun r6 u t H1 locs ht hvm hw hB hz1 hk1 hS => ?_)
        obtain ⟨hP1, hK1, hD1⟩ := hB
        rw [ht] at hP1
        obtain ⟨hP, hD⟩ := qad (wr := (qa9p a0 jaK jfP ja1 jcp jbc jbV ja3 jbH jaT jh8 jaq jac jbI jbl jbn jba jaa jbA jbz jaT jbb jbr jaR jb6 jbb cyI jbQ jaR jcB jcC jbo jbp jbk jcF jbe jbq jef jbm jbi jdB jcF cyI jfQ)) (w1 := (qaPm jh8 jhy jiJ jaR jb6 jhy cyI jjV)) (wn := (qaaa a0 jaK jfP ja1 jcp jbc jbV ja3 jbH jaT jh8 jaq jac jbI jbl jbn jba jaa jbA jbz jh8 jhy jiJ jaR jb6 jaT jbb jbr jaR jb6 jbb cyI jbQ jhy cyI jjV jaR jcB jcC jbo jbp jbk jcF jbe jbq jef jbm jbi jdB jcF cyI jfQ)) hP hD [1, 4] [0, 2, 3, 5, 6] [0, 5, 1, 2, 6, 3, 4] hCc rfl (by decide +kernel) (by decide +kernel) (by decide +kernel) rfl hk1 hFc hP1 hD1
        generalize H1 = H at hP hS ⊢
        exact vx_ret (W.widen (k := 2) (n := 12) (nbq rfl) (nbq rfl) (W.iret (v := r6) hx hb hr (fun t ht hW => ⟨⟨r6, (jbz, jjV, (.ref jaR), (.ref jb6)), rfl, hw, by rw [ht]; exact hP, va_K.moved hW.alike hK, hD⟩, hS.F ht⟩) hS.2.2 (qaa qnR 3 rfl)))
      have hw := hw.2 c5
      by_cases c7 : l2 = 1
      · have hw := hw.1 c7
        refine lv_lookup (tgt := 80) (off := 33) hx hb dX10_ahead_47 (by decide) (by rw [c7]; decide) (by decide) ?_
        refine lv_aload_n hx hb (qaa qnR 4 rfl) rfl (lv_at hl 0 rfl) ?_
        refine va_get (D := (dC, dI)) (ci := 10) (v := .ref jh8) (C := RX10) (T := TX10) (N := 19) hx hb hts qwt hown hK hP 0 rfl rfl 9 (by decide) (hts _ qAl) (fun _ h9 => h9) rfl (qaa qnR 5 rfl) ?_
        obtain ⟨hCc, hPc, hDc, hFc⟩ := qac (ws' := (qaPm jh8 jhy jiJ jaR jb6 jhy cyI jjV)) hP hD hS hA [1, 4] (by decide +kernel) rfl
        refine va_calli (va_runV (As := []) (rest := []) ⟨hx, hb, hml, hown, hts⟩ (qMZ l dC dI cyB cyI cyJ cyP jh8 jhy H.size (jiJ) (.ref jaR) (.ref jb6) jjV hw) (cwV 0 hts gX10_ahead_X1_caughtOnes rfl rfl rfl (by decide +kernel) ⟨nbq rfl, nbq rfl⟩) ⟨qab, va_recv (q := (RX1, TX1, 4)) hK hPc (ci := 1) (q0 := 0) rfl rfl, qae hPc hK hDc hNw⟩ rfl rfl hl.1 rfl (lv_room (nbq rfl)) (qaa qnR 6 rfl) ⟨nbq rfl, nbq rfl⟩) hS (fun q _ h => hFc q h) hFc (fun r8 u t H1 locs ht hvm hw hB hz1 hk1 hS => ?_)
        obtain ⟨hP1, hK1, hD1⟩ := hB
        rw [ht] at hP1
        obtain ⟨hP, hD⟩ := qad (wr := (qa9p a0 jaK jfP ja1 jcp jbc jbV ja3 jbH jaT jh8 jaq jac jbI jbl jbn jba jaa jbA jbz jaT jbb jbr jaR jb6 jbb cyI jbQ jaR jcB jcC jbo jbp jbk jcF jbe jbq jef jbm jbi jdB jcF cyI jfQ)) (w1 := (qaPm jh8 jhy jiJ jaR jb6 jhy cyI jjV)) (wn := (qaaa a0 jaK jfP ja1 jcp jbc jbV ja3 jbH jaT jh8 jaq jac jbI jbl jbn jba jaa jbA jbz jh8 jhy jiJ jaR jb6 jaT jbb jbr jaR jb6 jbb cyI jbQ jhy cyI jjV jaR jcB jcC jbo jbp jbk jcF jbe jbq jef jbm jbi jdB jcF cyI jfQ)) hP hD [1, 4] [0, 2, 3, 5, 6] [0, 5, 1, 2, 6, 3, 4] hCc rfl (by decide +kernel) (by decide +kernel) (by decide +kernel) rfl hk1 hFc hP1 hD1
        generalize H1 = H at hP hS ⊢
        exact vx_ret (W.widen (k := 2) (n := 12) (nbq rfl) (nbq rfl) (W.iret (v := r8) hx hb hr (fun t ht hW => ⟨⟨r8, (jbz, jjV, (.ref jaR), (.ref jb6)), rfl, hw, by rw [ht]; exact hP, va_K.moved hW.alike hK, hD⟩, hS.F ht⟩) hS.2.2 (qaa qnR 7 rfl)))
      have hw := hw.2 c7
      refine lv_lookup (tgt := 88) (off := 41) hx hb dX10_ahead_47 (by decide) (by have nc5 := qaos (n := 0) c5 rfl; have nc7 := qaos (n := 1) c7 rfl; simp [Op.lookupswitch.offset, nc5, nc7]) (by decide) ?_
      refine lv_aload_n hx hb (qaa qnR 8 rfl) rfl (lv_at hl 0 rfl) ?_
      refine va_get (D := (dC, dI)) (ci := 10) (v := .ref jh8) (C := RX10) (T := TX10) (N := 19) hx hb hts qwt hown hK hP 0 rfl rfl 9 (by decide) (hts _ qAl) (fun _ h9 => h9) rfl (qaa qnR 9 rfl) ?_
      obtain ⟨hCc, hPc, hDc, hFc⟩ := qac (ws' := (qa5v jh8 jhy jiJ jaR jb6 jaR jcB jcC jbo jbp jbk jcF jbe jbq jef jbm jbi jdB jhy cyI jjV)) hP hD hS hA [1, 5, 4] (by decide +kernel) rfl
      refine va_calli (va_runV (As := []) (rest := []) ⟨hx, hb, hml, hown, hts⟩ (q8j l dC dI cyB cyI cyJ cyP jh8 jaR jhy H.size (jiJ) (.ref jb6) (jcB) (jcC) (jbo) (jbp) (jbk) (.ref jcF) (jbe) (jbq) (jef) (jbi) (.int jdB) jbm jjV hw) (cwV 0 hts gX10_ahead_X1_allDebts rfl rfl rfl (by decide +kernel) ⟨nbq rfl, nbq rfl⟩) ⟨qab, va_recv (q := (RX1, TX1, 4)) hK hPc (ci := 1) (q0 := 0) rfl rfl, qae hPc hK hDc hNw⟩ rfl rfl hl.1 rfl (lv_room (nbq rfl)) (qaa qnR 10 rfl) ⟨nbq rfl, nbq rfl⟩) hS (fun q _ h => hFc q h) hFc (fun r9 u t H1 locs ht hvm hw hB hz1 hk1 hS => ?_)
      obtain ⟨hP1, hK1, hD1⟩ := hB
      rw [ht] at hP1
      obtain ⟨hP, hD⟩ := qad (wr := [(a0, .inr (10, [jaK, jfP, ja1, jcp, jbc, jbV, ja3, jbH, .ref jaT, .ref jh8, jaq, jac, jbI, jbl, jbn, jba, jaa, jbA, .int jbz])), (jaT, .inr (1, [.ref jbb, jbr, .ref jaR, .ref jb6])), (jbb, .inl (cyI, 64, .inl jbQ)), (jcF, .inl (cyI, 6, .inl jfQ))]) (w1 := (qa5v jh8 jhy jiJ jaR jb6 jaR jcB jcC jbo jbp jbk jcF jbe jbq jef jbm jbi jdB jhy cyI jjV)) (wn := (qaaa a0 jaK jfP ja1 jcp jbc jbV ja3 jbH jaT jh8 jaq jac jbI jbl jbn jba jaa jbA jbz jh8 jhy jiJ jaR jb6 jaT jbb jbr jaR jb6 jbb cyI jbQ jhy cyI jjV jaR jcB jcC jbo jbp jbk jcF jbe jbq jef jbm jbi jdB jcF cyI jfQ)) hP hD [1, 5, 4] [0, 2, 3, 6] [0, 4, 1, 2, 6, 5, 3] hCc rfl (by decide +kernel) (by decide +kernel) (by decide +kernel) rfl hk1 hFc hP1 hD1
      generalize H1 = H at hP hS ⊢
      exact vx_ret (W.widen (k := 2) (n := 12) (nbq rfl) (nbq rfl) (W.iret (v := r9) hx hb hr (fun t ht hW => ⟨⟨r9, (jbz, jjV, (.ref jaR), (.ref jb6)), rfl, hw, by rw [ht]; exact hP, va_K.moved hW.alike hK, hD⟩, hS.F ht⟩) hS.2.2 (qaa qnR 11 rfl)))
    · have hw := hw.2 c4
      refine lv_aload_n hx hb (qaa qqu 4 rfl) rfl (lv_at hl 0 rfl) ?_
      refine va_get (D := (dC, dI)) (ci := 10) (v := .ref jh8) (C := RX10) (T := TX10) (N := 19) hx hb hts qwt hown hK hP 0 rfl rfl 9 (by decide) (hts _ qAl) (fun _ h9 => h9) rfl (qaa qqu 5 rfl) ?_
      obtain ⟨hCc, hPc, hDc, hFc⟩ := qac (ws' := (qa3R jh8 jhy jiJ jaR jb6 jaR jcB jcC jbo jbp jbk jcF jbe jbq jef jbm jbi jdB jhy cyI jjV jcF cyI jfQ)) hP hD hS hA [1, 5, 4, 6] (by decide +kernel) rfl
      refine va_callv (va_runV (As := []) (rest := []) ⟨hx, hb, hml, hown, hts⟩ (qX2 l dC dI cyB cyI cyJ cyP jh8 jaR jhy jcF H.size (jiJ) (.ref jb6) (jcB) (jcC) (jbo) (jbp) (jbk) (jbe) (jbq) (jef) (jbi) jbm jdB jfQ jjV hw) (cwV 0 hts gX10_ahead_X1_passDay rfl rfl rfl (by decide +kernel) ⟨nbq rfl, nbq rfl⟩) ⟨qab, va_recv (q := (RX1, TX1, 4)) hK hPc (ci := 1) (q0 := 0) rfl rfl, qae hPc hK hDc hNw⟩ rfl rfl hl.1 rfl (lv_room (nbq rfl)) (qaa qqu 6 rfl) ⟨nbq rfl, nbq rfl⟩) hS (fun q _ h => hFc q h) hFc (fun u t H1 locs ht hvm hw hB hz1 hk1 hS => ?_)
      obtain ⟨f10, rfl⟩ : ∃ z, z = u := ⟨_, rfl⟩
      obtain ⟨hP1, hK1, hD1⟩ := hB
      rw [ht] at hP1
      obtain ⟨hP, hD⟩ := qad (wr := [(a0, .inr (10, [jaK, jfP, ja1, jcp, jbc, jbV, ja3, jbH, .ref jaT, .ref jh8, jaq, jac, jbI, jbl, jbn, jba, jaa, jbA, .int jbz])), (jaT, .inr (1, [.ref jbb, jbr, .ref jaR, .ref jb6])), (jbb, .inl (cyI, 64, .inl jbQ))]) (w1 := (qa3R jh8 jhy jiJ jaR jb6 jaR jcB jcC jbo jbp jbk jcF jbe jbq jef jbm jbi jdB jhy cyI f10 jcF cyI jfQ)) (wn := (qaaa a0 jaK jfP ja1 jcp jbc jbV ja3 jbH jaT jh8 jaq jac jbI jbl jbn jba jaa jbA jbz jh8 jhy jiJ jaR jb6 jaT jbb jbr jaR jb6 jbb cyI jbQ jhy cyI f10 jaR jcB jcC jbo jbp jbk jcF jbe jbq jef jbm jbi jdB jcF cyI jfQ)) hP hD [1, 5, 4, 6] [0, 2, 3] [0, 3, 1, 2, 5, 4, 6] hCc rfl (by decide +kernel) (by decide +kernel) (by decide +kernel) rfl hk1 hFc hP1 hD1
      generalize H1 = H at hP hS ⊢
      obtain ⟨x11, ex11⟩ : ∃ y : Int32, y = l3 + 1 := ⟨_, rfl⟩
      have hw := hw x11 ex11
      refine lv_iinc (v := x11) (lv' := [(3, .int x11), (0, .ref a0), (1, .int l1), (2, .int l2)]) hx hb (qaa qqu 7 rfl) hl (k := 3) rfl (by rw [ex11]; rfl) (by decide) rfl (fun ls hl => ?_)
      refine lv_goto (tgt := 28) hx hb (qaa qqu 8 rfl) (by decide) ?_
      exact ih _ _ _ jbz f10 (.ref jaR) (.ref jb6) l1 l2 x11 hP hD hS (lv_sub hl [1, 2, 3, 0] rfl) hw
set_option maxHeartbeats 4000000 in
set_option maxRecDepth 100000 in
theorem qaVX (l : Launch) (dC : Nat → ClassId) (dI : Nat → Nat → Nat) (cyB cyI cyJ cyP : ClassId) (a0 jh8 jaT jbb jhy jaR jb6 jcF sz : Nat) (jaK jfP ja1 jcp jbc jbV ja3 jbH jaq jac jbI jbl jbn jba jaa jbA jiJ jbr jcB jcC jbo jbp jbk jbe jbq jef jbi : Value) (jbQ : NI) (jbm jdB : Int32) (jfQ : NI) (jbz : Int32) (jjV : NI) (jkp jkP : Value) (p1 p2 : Int32) {E : String → Int32 → NI → Value → Value → Prop} {Q : Int32 → Int32 → NI → Value → Value → Prop} (hw : q4E jaR jb6 jbQ jbm jdB jfQ jbz jjV jkp jkP p1 p2 E Q) : vx_Met l yX10_ahead wsX10_ahead ({ frames := 8, cells := 2, slots := 12, locals := 164 }) (va_Pc [.ref a0, .int p1, .int p2] (cPx l (dC, dI) (kT cyB cyI cyJ cyP) (qDw a0 jaK jfP ja1 jcp jbc jbV ja3 jbH jaT jh8 jaq jac jbI jbl jbn jba jaa jbA jbz jh8 jhy jiJ jkp jkP jaT jbb jbr jaR jb6 jbb cyI jbQ jhy cyI jjV jaR jcB jcC jbo jbp jbk jcF jbe jbq jef jbm jbi jdB jcF cyI jfQ) sz)) (va_Qi (fun (r : Int32) (u : Int32 × NI × Value × Value) => Q r u.1 u.2.1 u.2.2.1 u.2.2.2) (cB (dC, dI) (kT cyB cyI cyJ cyP) (va_A (qDw a0 jaK jfP ja1 jcp jbc jbV ja3 jbH jaT jh8 jaq jac jbI jbl jbn jba jaa jbA jbz jh8 jhy jiJ jkp jkP jaT jbb jbr jaR jb6 jbb cyI jbQ jhy cyI jjV jaR jcB jcC jbo jbp jbk jcF jbe jbq jef jbm jbi jdB jcF cyI jfQ) sz) (fun u : Int32 × NI × Value × Value => ((qDw a0 jaK jfP ja1 jcp jbc jbV ja3 jbH jaT jh8 jaq jac jbI jbl jbn jba jaa jbA u.1 jh8 jhy jiJ u.2.2.1 u.2.2.2 jaT jbb jbr jaR jb6 jbb cyI jbQ jhy cyI u.2.1 jaR jcB jcC jbo jbp jbk jcF jbe jbq jef jbm jbi jdB jcF cyI jfQ) : va_W))) (va_A (qDw a0 jaK jfP ja1 jcp jbc jbV ja3 jbH jaT jh8 jaq jac jbI jbl jbn jba jaa jbA jbz jh8 jhy jiJ jkp jkP jaT jbb jbr jaR jb6 jbb cyI jbQ jhy cyI jjV jaR jcB jcC jbo jbp jbk jcF jbe jbq jef jbm jbi jdB jcF cyI jfQ) sz)) (vx_X (fun _ => True) (fun (en : String) (u : Int32 × NI × Value × Value) (t : State) => E en u.1 u.2.1 u.2.2.1 u.2.2.2 ∧ cB (dC, dI) (kT cyB cyI cyJ cyP) (va_A (qDw a0 jaK jfP ja1 jcp jbc jbV ja3 jbH jaT jh8 jaq jac jbI jbl jbn jba jaa jbA jbz jh8 jhy jiJ jkp jkP jaT jbb jbr jaR jb6 jbb cyI jbQ jhy cyI jjV jaR jcB jcC jbo jbp jbk jcF jbe jbq jef jbm jbi jdB jcF cyI jfQ) sz) (fun u : Int32 × NI × Value × Value => ((qDw a0 jaK jfP ja1 jcp jbc jbV ja3 jbH jaT jh8 jaq jac jbI jbl jbn jba jaa jbA u.1 jh8 jhy jiJ u.2.2.1 u.2.2.2 jaT jbb jbr jaR jb6 jbb cyI jbQ jhy cyI u.2.1 jaR jcB jcC jbo jbp jbk jcF jbe jbq jef jbm jbi jdB jcF cyI jfQ) : va_W)) u t) (va_A (qDw a0 jaK jfP ja1 jcp jbc jbV ja3 jbH jaT jh8 jaq jac jbI jbl jbn jba jaa jbA jbz jh8 jhy jiJ jkp jkP jaT jbb jbr jaR jb6 jbb cyI jbQ jhy cyI jjV jaR jcB jcC jbo jbp jbk jcF jbe jbq jef jbm jbi jdB jcF cyI jfQ) sz)) 2 12 (va_A (qDw a0 jaK jfP ja1 jcp jbc jbV ja3 jbH jaT jh8 jaq jac jbI jbl jbn jba jaa jbA jbz jh8 jhy jiJ jkp jkP jaT jbb jbr jaR jb6 jbb cyI jbQ jhy cyI jjV jaR jcB jcC jbo jbp jbk jcF jbe jbq jef jbm jbi jdB jcF cyI jfQ) sz) := by
  refine vx_ofW (cc := cX10_ahead) (maxL := 4) (ret := (some .int)) (by decide) rfl ?_
  intro p e s m args below meth c s₁ B hml hnt hv
  obtain ⟨rfl, hsz, hP, hK, hD0, hNw, hXl, hXu, hXn, hXt⟩ := hv
  have hx := B.exec
  have hb := B.bytes
  have hr := B.returns
  have hts := atoms_spec (ws := wsX10_ahead) B.pre
  have hown : s.vm.findClass RX10 = some m.cls := findClass_of_methodNamed B.named
  have hlocks := B.notSynchronized
  subst hsz
  have hD := hD0.self (sz := s.heap.size)
  generalize hAe : va_A (qDw a0 jaK jfP ja1 jcp jbc jbV ja3 jbH jaT jh8 jaq jac jbI jbl jbn jba jaa jbA jbz jh8 jhy jiJ jkp jkP jaT jbb jbr jaR jb6 jbb cyI jbQ jhy cyI jjV jaR jcB jcC jbo jbp jbk jcF jbe jbq jef jbm jbi jdB jcF cyI jfQ) s.heap.size = A at hD hXu hXn ⊢
  have hA : ∀ q : Nat, s.heap.size ≤ q → A q := fun q h => by rw [← hAe]; exact Or.inr h
  have hS : va_S A s.heap s.heap [] := va_S.rf
  have hP : va_P (dC, dI) vwCl (qDw a0 jaK jfP ja1 jcp jbc jbV ja3 jbH jaT jh8 jaq jac jbI jbl jbn jba jaa jbA jbz jh8 jhy jiJ jkp jkP jaT jbb jbr jaR jb6 jbb cyI jbQ jhy cyI jjV jaR jcB jcC jbo jbp jbk jcF jbe jbq jef jbm jbi jdB jcF cyI jfQ) s.heap := hP
  have hl := lv_entry ([.ref a0, .int p1, .int p2]) (n := 4) (nbq rfl)
  rw [lg_entry_eq]
  generalize (lg_sl ([.ref a0, .int p1, .int p2]) ++ List.replicate (4 - (lg_sl ([.ref a0, .int p1, .int p2])).length) Slot.unset).toArray = ls at hl ⊢
  have hl : lv_has ls 4 [(0, .ref a0), (1, .int p1), (2, .int p2)] := hl
  have hY : cfY l s A := ⟨hXl, hXu, hXn, hXt⟩
  have hXs : cfX l s c A := ⟨hnt, hY⟩
  have C0 : cfx p s m _ meth c cX10_ahead (some .int) wsX10_ahead RX10 4 A (dC, dI) (kT cyB cyI cyJ cyP) ∧ cfX l s c A := ⟨⟨hx, hb, hr, hts, hown, hlocks, hml, hA, hK, hNw⟩, hXs⟩
  clear hAe
  obtain ⟨H, hH⟩ : ∃ H, H = s.heap := ⟨_, rfl⟩
  rw [← hH] at hP ⊢
  have hS : va_S A s.heap H [] := by rw [hH]; exact va_S.rf
  have hS := hS
  refine lv_aload_n hx hb (qaa qko 0 rfl) rfl (lv_at hl 0 rfl) ?_
  refine lv_iload_n hx hb (qaa qko 1 rfl) rfl (lv_at hl 1 rfl) ?_
  refine lv_iconst (v := 0) hx hb (qaa qko 2 rfl) (by decide) ?_
  refine lv_bipush (v := 99) hx hb (qaa qko 3 rfl) (by decide) ?_
  obtain ⟨hCc, hPc, hDc, hFc⟩ := qac (ws' := (qak6 a0 jaK jfP ja1 jcp jbc jbV ja3 jbH jaT jh8 jaq jac jbI jbl jbn jba jaa jbA jbz)) hP hD hS hA [0] (by decide +kernel) rfl
  refine vx_callv (vx_runV (As := [.int p1, .int 0, .int 99]) (rest := []) ⟨hx, hb, hml, hown, hts⟩ (qaV l dC dI cyB cyI cyJ cyP a0 H.size (jaK) (jfP) (ja1) (jcp) (jbc) (jbV) (ja3) (jbH) (.ref jaT) (.ref jh8) (jaq) (jac) (jbI) (jbl) (jbn) (jba) (jaa) (jbA) jbz p1 0 99 hw) (cwV 3 hts gX10_ahead_X10_needWithin rfl rfl rfl (by decide +kernel) ⟨nbq rfl, nbq rfl⟩) ⟨qau, va_recv (q := (RX10, TX10, 19)) hK hPc (ci := 10) (q0 := 0) rfl rfl, qbk hPc hK hDc hNw hY hS hFc⟩ rfl rfl hl.1 rfl (lv_room (nbq rfl)) (qaa qko 4 rfl) ⟨nbq rfl, nbq rfl⟩) hS (fun q _ h => hFc q h) hFc (fun q _ h => hFc q h) (fun en ce q9 u t H1 locs ht hvm hpx hB hz1 hk1 hS hc9 hv9 hcl9 => ?_) (fun u t H1 locs ht hvm hw hB hz1 hk1 hS => ?_)
  · obtain ⟨x1, rfl⟩ : ∃ z, z = u := ⟨_, rfl⟩
    obtain ⟨hw, hP1, hK1, hD1⟩ := hB
    rw [ht] at hP1
    obtain ⟨hP, hD⟩ := qad (wr := (qaPQ jh8 jhy jiJ jkp jkP jaT jbb jbr jaR jb6 jbb cyI jbQ jhy cyI jjV jaR jcB jcC jbo jbp jbk jcF jbe jbq jef jbm jbi jdB jcF cyI jfQ)) (w1 := (qak6 a0 jaK jfP ja1 jcp jbc jbV ja3 jbH jaT jh8 jaq jac jbI jbl jbn jba jaa jbA x1)) (wn := (qDw a0 jaK jfP ja1 jcp jbc jbV ja3 jbH jaT jh8 jaq jac jbI jbl jbn jba jaa jbA x1 jh8 jhy jiJ jkp jkP jaT jbb jbr jaR jb6 jbb cyI jbQ jhy cyI jjV jaR jcB jcC jbo jbp jbk jcF jbe jbq jef jbm jbi jdB jcF cyI jfQ)) hP hD [0] [1, 2, 3, 4, 5, 6] [6, 0, 1, 2, 3, 4, 5] hCc rfl (by decide +kernel) (by decide +kernel) (by decide +kernel) rfl hk1 hFc hP1 hD1
    generalize H1 = H at hP hS hc9 ⊢
    exact vx_out (fun x hx9 => (hXs.1 x hx9).elim) hlocks hc9 hv9 hcl9 (fun t2 ht2 hal2 => ⟨(x1, jjV, jkp, jkP), trivial, ⟨hw, by rw [ht2]; exact hP, va_K.moved hal2 hK, hD⟩, hS.F ht2⟩) hS.2.2 (nbq rfl) (nbq rfl)
  obtain ⟨x1, rfl⟩ : ∃ z, z = u := ⟨_, rfl⟩
  obtain ⟨hP1, hK1, hD1⟩ := hB
  rw [ht] at hP1
  obtain ⟨hP, hD⟩ := qad (wr := (qaPQ jh8 jhy jiJ jkp jkP jaT jbb jbr jaR jb6 jbb cyI jbQ jhy cyI jjV jaR jcB jcC jbo jbp jbk jcF jbe jbq jef jbm jbi jdB jcF cyI jfQ)) (w1 := (qak6 a0 jaK jfP ja1 jcp jbc jbV ja3 jbH jaT jh8 jaq jac jbI jbl jbn jba jaa jbA x1)) (wn := (qDw a0 jaK jfP ja1 jcp jbc jbV ja3 jbH jaT jh8 jaq jac jbI jbl jbn jba jaa jbA x1 jh8 jhy jiJ jkp jkP jaT jbb jbr jaR jb6 jbb cyI jbQ jhy cyI jjV jaR jcB jcC jbo jbp jbk jcF jbe jbq jef jbm jbi jdB jcF cyI jfQ)) hP hD [0] [1, 2, 3, 4, 5, 6] [6, 0, 1, 2, 3, 4, 5] hCc rfl (by decide +kernel) (by decide +kernel) (by decide +kernel) rfl hk1 hFc hP1 hD1
  generalize H1 = H at hP hS ⊢
  refine lv_aload_n hx hb (qaa qko 5 rfl) rfl (lv_at hl 0 rfl) ?_
  refine lv_iload_n hx hb (qaa qko 6 rfl) rfl (lv_at hl 2 rfl) ?_
  refine lv_iconst (v := 0) hx hb (qaa qko 7 rfl) (by decide) ?_
  refine lv_iconst (v := 2) hx hb (qaa qko 8 rfl) (by decide) ?_
  obtain ⟨hCc, hPc, hDc, hFc⟩ := qac (ws' := (qak6 a0 jaK jfP ja1 jcp jbc jbV ja3 jbH jaT jh8 jaq jac jbI jbl jbn jba jaa jbA x1)) hP hD hS hA [0] (by decide +kernel) rfl
  refine vx_callv (vx_runV (As := [.int p2, .int 0, .int 2]) (rest := []) ⟨hx, hb, hml, hown, hts⟩ (qaV l dC dI cyB cyI cyJ cyP a0 H.size (jaK) (jfP) (ja1) (jcp) (jbc) (jbV) (ja3) (jbH) (.ref jaT) (.ref jh8) (jaq) (jac) (jbI) (jbl) (jbn) (jba) (jaa) (jbA) x1 p2 0 2 hw) (cwV 3 hts gX10_ahead_X10_needWithin rfl rfl rfl (by decide +kernel) ⟨nbq rfl, nbq rfl⟩) ⟨qau, va_recv (q := (RX10, TX10, 19)) hK hPc (ci := 10) (q0 := 0) rfl rfl, qbk hPc hK hDc hNw hY hS hFc⟩ rfl rfl hl.1 rfl (lv_room (nbq rfl)) (qaa qko 9 rfl) ⟨nbq rfl, nbq rfl⟩) hS (fun q _ h => hFc q h) hFc (fun q _ h => hFc q h) (fun en ce q9 u t H1 locs ht hvm hpx hB hz1 hk1 hS hc9 hv9 hcl9 => ?_) (fun u t H1 locs ht hvm hw hB hz1 hk1 hS => ?_)
  · obtain ⟨x2, rfl⟩ : ∃ z, z = u := ⟨_, rfl⟩
    obtain ⟨hw, hP1, hK1, hD1⟩ := hB
    rw [ht] at hP1
    obtain ⟨hP, hD⟩ := qad (wr := (qaPQ jh8 jhy jiJ jkp jkP jaT jbb jbr jaR jb6 jbb cyI jbQ jhy cyI jjV jaR jcB jcC jbo jbp jbk jcF jbe jbq jef jbm jbi jdB jcF cyI jfQ)) (w1 := (qak6 a0 jaK jfP ja1 jcp jbc jbV ja3 jbH jaT jh8 jaq jac jbI jbl jbn jba jaa jbA x2)) (wn := (qDw a0 jaK jfP ja1 jcp jbc jbV ja3 jbH jaT jh8 jaq jac jbI jbl jbn jba jaa jbA x2 jh8 jhy jiJ jkp jkP jaT jbb jbr jaR jb6 jbb cyI jbQ jhy cyI jjV jaR jcB jcC jbo jbp jbk jcF jbe jbq jef jbm jbi jdB jcF cyI jfQ)) hP hD [0] [1, 2, 3, 4, 5, 6] [6, 0, 1, 2, 3, 4, 5] hCc rfl (by decide +kernel) (by decide +kernel) (by decide +kernel) rfl hk1 hFc hP1 hD1
    generalize H1 = H at hP hS hc9 ⊢
    exact vx_out (fun x hx9 => (hXs.1 x hx9).elim) hlocks hc9 hv9 hcl9 (fun t2 ht2 hal2 => ⟨(x2, jjV, jkp, jkP), trivial, ⟨hw, by rw [ht2]; exact hP, va_K.moved hal2 hK, hD⟩, hS.F ht2⟩) hS.2.2 (nbq rfl) (nbq rfl)
  obtain ⟨x2, rfl⟩ : ∃ z, z = u := ⟨_, rfl⟩
  obtain ⟨hP1, hK1, hD1⟩ := hB
  rw [ht] at hP1
  obtain ⟨hP, hD⟩ := qad (wr := (qaPQ jh8 jhy jiJ jkp jkP jaT jbb jbr jaR jb6 jbb cyI jbQ jhy cyI jjV jaR jcB jcC jbo jbp jbk jcF jbe jbq jef jbm jbi jdB jcF cyI jfQ)) (w1 := (qak6 a0 jaK jfP ja1 jcp jbc jbV ja3 jbH jaT jh8 jaq jac jbI jbl jbn jba jaa jbA x2)) (wn := (qDw a0 jaK jfP ja1 jcp jbc jbV ja3 jbH jaT jh8 jaq jac jbI jbl jbn jba jaa jbA x2 jh8 jhy jiJ jkp jkP jaT jbb jbr jaR jb6 jbb cyI jbQ jhy cyI jjV jaR jcB jcC jbo jbp jbk jcF jbe jbq jef jbm jbi jdB jcF cyI jfQ)) hP hD [0] [1, 2, 3, 4, 5, 6] [6, 0, 1, 2, 3, 4, 5] hCc rfl (by decide +kernel) (by decide +kernel) (by decide +kernel) rfl hk1 hFc hP1 hD1
  generalize H1 = H at hP hS ⊢
  refine lv_aload_n hx hb (qaa qko 10 rfl) rfl (lv_at hl 0 rfl) ?_
  refine va_get (D := (dC, dI)) (ci := 10) (v := .ref jh8) (C := RX10) (T := TX10) (N := 19) hx hb hts qwt hown hK hP 0 rfl rfl 9 (by decide) (hts _ qAl) (fun _ h9 => h9) rfl (qaa qko 11 rfl) ?_
  refine lv_aload_n hx hb (qaa qko 12 rfl) rfl (lv_at hl 0 rfl) ?_
  refine va_get (D := (dC, dI)) (ci := 10) (v := .ref jaT) (C := RX10) (T := TX10) (N := 19) hx hb hts qwt hown hK hP 0 rfl rfl 8 (by decide) (hts _ qaqH) (fun _ h9 => h9) rfl (qaa qko 13 rfl) ?_
  obtain ⟨hCc, hPc, hDc, hFc⟩ := qac (ws' := (qayo jh8 jhy jiJ jkp jkP jaT jbb jbr jaR jb6 jbb cyI jbQ jhy cyI jjV)) hP hD hS hA [1, 2, 3, 4] (by decide +kernel) rfl
  refine va_callv (va_runV (As := [.ref jaT]) (rest := []) ⟨hx, hb, hml, hown, hts⟩ (qT7 l dC dI cyB cyI cyJ cyP jh8 jaT jaR jb6 jbb jhy H.size (jiJ) (jkp) (jkP) (jbr) jbQ jjV hw) (cwV 1 hts gX10_ahead_X1_copyFrom rfl rfl rfl (by decide +kernel) ⟨nbq rfl, nbq rfl⟩) ⟨qab, va_recv (q := (RX1, TX1, 4)) hK hPc (ci := 1) (q0 := 0) rfl rfl, qae hPc hK hDc hNw⟩ rfl rfl hl.1 rfl (lv_room (nbq rfl)) (qaa qko 14 rfl) ⟨nbq rfl, nbq rfl⟩) hS (fun q _ h => hFc q h) hFc (fun u t H1 locs ht hvm hw hB hz1 hk1 hS => ?_)
  obtain ⟨f3, rfl⟩ : ∃ z, z = u := ⟨_, rfl⟩
  obtain ⟨hP1, hK1, hD1⟩ := hB
  rw [ht] at hP1
  obtain ⟨hP, hD⟩ := qad (wr := [(a0, .inr (10, [jaK, jfP, ja1, jcp, jbc, jbV, ja3, jbH, .ref jaT, .ref jh8, jaq, jac, jbI, jbl, jbn, jba, jaa, jbA, .int x2])), (jaR, .inr (2, [jcB, jcC, jbo, jbp, jbk, .ref jcF, jbe, jbq, jef, .int jbm, jbi, .int jdB])), (jcF, .inl (cyI, 6, .inl jfQ))]) (w1 := (qaLZ jh8 jhy jiJ jaR jb6 jaT jbb jbr jaR jb6 jbb cyI jbQ jhy cyI f3)) (wn := (qaaa a0 jaK jfP ja1 jcp jbc jbV ja3 jbH jaT jh8 jaq jac jbI jbl jbn jba jaa jbA x2 jh8 jhy jiJ jaR jb6 jaT jbb jbr jaR jb6 jbb cyI jbQ jhy cyI f3 jaR jcB jcC jbo jbp jbk jcF jbe jbq jef jbm jbi jdB jcF cyI jfQ)) hP hD [1, 2, 3, 4] [0, 5, 6] [0, 3, 4, 5, 6, 1, 2] hCc rfl (by decide +kernel) (by decide +kernel) (by decide +kernel) rfl hk1 hFc hP1 hD1
  generalize H1 = H at hP hS ⊢
  refine lv_iconst (v := 0) hx hb (qaa qko 15 rfl) (by decide) ?_
  refine lv_istore_n (lv' := [(3, .int 0), (0, .ref a0), (1, .int p1), (2, .int p2)]) hx hb (qaa qqu 0 rfl) rfl hl (by decide) rfl (fun ls hl => ?_)
  obtain ⟨n9, hw⟩ := hw
  exact qaDy dC dI cyB cyI cyJ cyP a0 jh8 jaT jbb jhy jaR jb6 jcF jaK jfP ja1 jcp jbc jbV ja3 jbH jaq jac jbI jbl jbn jba jaa jbA jiJ jbr jcB jcC jbo jbp jbk jbe jbq jef jbi jbQ jbm jdB jfQ E Q C0 n9 _ _ _ x2 f3 (.ref jaR) (.ref jb6) p1 p2 0 hP hD hS (lv_sub hl [1, 2, 3, 0] rfl) hw
theorem qaz5 : (.classLink RL 13 "java/lang/IllegalArgumentException" : Cond) ∈ wsL_ahead := qadd 595 (by decide +kernel)
theorem qaRC : (.codeWith yL_ahead cL_ahead 5 (some .int) [(0, 10, 13, 13)] : Cond) ∈ wsL_ahead := qadd 2956 (by decide +kernel)
set_option maxHeartbeats 4000000 in
set_option maxRecDepth 100000 in
theorem qa1d (l : Launch) (dC : Nat → ClassId) (dI : Nat → Nat → Nat) (cyB cyI cyJ cyP : ClassId) (a0 a3 jh8 jaT jbb jhy jaR jcF jb6 sz : Nat) (jaK ja1 jbc jbV ja3 jbH jaq jac jbI jbl jbn jba jaa jbA jiJ jbr jcB jcC jbo jbp jbk jbe jbq jef jbi : Value) (n3 : Nat) (jbQ : NI) (jbm jdB : Int32) (jfQ : NI) (jbz : Int32) (jjV : NI) (jkp jkP : Value) (f3 : Nat → Int64) (p1 p2 : Int32) {Q : Int32 → Int32 → NI → Value → Value → (Nat → Int64) → Prop} (hw : qaLt jaR jb6 n3 jbQ jbm jdB jfQ jbz jjV jkp jkP f3 p1 p2 Q) : Met l yL_ahead wsL_ahead ({ frames := 9, cells := 2, slots := 12, locals := 187 }) (va_Pc [.ref a0, .int p1, .int p2, .ref a3] (cPx l (dC, dI) (kT cyB cyI cyJ cyP) (qMM a0 jaK jaR ja1 jb6 jbc jbV ja3 jbH jaT jh8 jaq jac jbI jbl jbn jba jaa jbA jbz jh8 jhy jiJ jkp jkP jaT jbb jbr jaR jb6 jbb cyI jbQ jhy cyI jjV jaR jcB jcC jbo jbp jbk jcF jbe jbq jef jbm jbi jdB jcF cyI jfQ a3 cyJ n3 f3) sz)) (va_Qi (fun (r : Int32) (u : Int32 × NI × Value × Value × (Nat → Int64)) => Q r u.1 u.2.1 u.2.2.1 u.2.2.2.1 u.2.2.2.2) (cB (dC, dI) (kT cyB cyI cyJ cyP) (va_A (qMM a0 jaK jaR ja1 jb6 jbc jbV ja3 jbH jaT jh8 jaq jac jbI jbl jbn jba jaa jbA jbz jh8 jhy jiJ jkp jkP jaT jbb jbr jaR jb6 jbb cyI jbQ jhy cyI jjV jaR jcB jcC jbo jbp jbk jcF jbe jbq jef jbm jbi jdB jcF cyI jfQ a3 cyJ n3 f3) sz) (fun u : Int32 × NI × Value × Value × (Nat → Int64) => ((qMM a0 jaK jaR ja1 jb6 jbc jbV ja3 jbH jaT jh8 jaq jac jbI jbl jbn jba jaa jbA u.1 jh8 jhy jiJ u.2.2.1 u.2.2.2.1 jaT jbb jbr jaR jb6 jbb cyI jbQ jhy cyI u.2.1 jaR jcB jcC jbo jbp jbk jcF jbe jbq jef jbm jbi jdB jcF cyI jfQ a3 cyJ n3 u.2.2.2.2) : va_W))) (va_A (qMM a0 jaK jaR ja1 jb6 jbc jbV ja3 jbH jaT jh8 jaq jac jbI jbl jbn jba jaa jbA jbz jh8 jhy jiJ jkp jkP jaT jbb jbr jaR jb6 jbb cyI jbQ jhy cyI jjV jaR jcB jcC jbo jbp jbk jcF jbe jbq jef jbm jbi jdB jcF cyI jfQ a3 cyJ n3 f3) sz)) 2 12 (va_A (qMM a0 jaK jaR ja1 jb6 jbc jbV ja3 jbH jaT jh8 jaq jac jbI jbl jbn jba jaa jbA jbz jh8 jhy jiJ jkp jkP jaT jbb jbr jaR jb6 jbb cyI jbQ jhy cyI jjV jaR jcB jcC jbo jbp jbk jcF jbe jbq jef jbm jbi jdB jcF cyI jfQ a3 cyJ n3 f3) sz) := by
  refine va_MetW (cc := cL_ahead) (maxL := 5) (ret := (some .int)) (by decide) rfl ?_
  intro p e s m args below meth c s₁ B hml hv
  obtain ⟨rfl, hsz, hP, hK, hD0, hNw, hXl, hXu, hXn, hXt⟩ := hv
  have hx := B.exec
  have hb := B.bytes
  have hr := B.returns
  have hts := atoms_spec (ws := wsL_ahead) B.pre
  have hown : s.vm.findClass RL = some m.cls := findClass_of_methodNamed B.named
  have hlocks := B.notSynchronized
  subst hsz
  have hD := hD0.self (sz := s.heap.size)
  generalize hAe : va_A (qMM a0 jaK jaR ja1 jb6 jbc jbV ja3 jbH jaT jh8 jaq jac jbI jbl jbn jba jaa jbA jbz jh8 jhy jiJ jkp jkP jaT jbb jbr jaR jb6 jbb cyI jbQ jhy cyI jjV jaR jcB jcC jbo jbp jbk jcF jbe jbq jef jbm jbi jdB jcF cyI jfQ a3 cyJ n3 f3) s.heap.size = A at hD hXu hXn ⊢
  have hA : ∀ q : Nat, s.heap.size ≤ q → A q := fun q h => by rw [← hAe]; exact Or.inr h
  have hS : va_S A s.heap s.heap [] := va_S.rf
  have hP : va_P (dC, dI) vwCl (qMM a0 jaK jaR ja1 jb6 jbc jbV ja3 jbH jaT jh8 jaq jac jbI jbl jbn jba jaa jbA jbz jh8 jhy jiJ jkp jkP jaT jbb jbr jaR jb6 jbb cyI jbQ jhy cyI jjV jaR jcB jcC jbo jbp jbk jcF jbe jbq jef jbm jbi jdB jcF cyI jfQ a3 cyJ n3 f3) s.heap := hP
  have hl := lv_entry ([.ref a0, .int p1, .int p2, .ref a3]) (n := 5) (nbq rfl)
  rw [lg_entry_eq]
  generalize (lg_sl ([.ref a0, .int p1, .int p2, .ref a3]) ++ List.replicate (5 - (lg_sl ([.ref a0, .int p1, .int p2, .ref a3])).length) Slot.unset).toArray = ls at hl ⊢
  have hl : lv_has ls 5 [(0, .ref a0), (1, .int p1), (2, .int p2), (3, .ref a3)] := hl
  have hY : cfY l s A := ⟨hXl, hXu, hXn, hXt⟩
  have hTb := vx_table (x := yL_ahead) B (hts _ qaRC)
  clear hAe
  obtain ⟨H, hH⟩ : ∃ H, H = s.heap := ⟨_, rfl⟩
  rw [← hH] at hP ⊢
  have hS : va_S A s.heap H [] := by rw [hH]; exact va_S.rf
  have hS := hS
  refine lv_aload_n hx hb (qaa qqi 0 rfl) rfl (lv_at hl 3 rfl) ?_
  refine lv_iconst (v := 0) hx hb (qaa qqi 1 rfl) (by decide) ?_
  refine lv_aload_n hx hb (qaa qqi 2 rfl) rfl (lv_at hl 0 rfl) ?_
  refine lv_iload_n hx hb (qaa qqi 3 rfl) rfl (lv_at hl 1 rfl) ?_
  refine lv_iload_n hx hb (qaa qqi 4 rfl) rfl (lv_at hl 2 rfl) ?_
  obtain ⟨hCc, hPc, hDc, hFc⟩ := qac (ws' := (qaXm a0 jaK jaR ja1 jb6 jbc jbV ja3 jbH jaT jh8 jaq jac jbI jbl jbn jba jaa jbA jbz jh8 jhy jiJ jkp jkP jaT jbb jbr jaR jb6 jbb cyI jbQ jhy cyI jjV jaR jcB jcC jbo jbp jbk jcF jbe jbq jef jbm jbi jdB jcF cyI jfQ)) hP hD hS hA [0, 1, 2, 3, 4, 5, 6] (by decide +kernel) rfl
  refine vx_calli (vx_runV (As := [.int p1, .int p2]) (rest := [.int 0, .ref a3]) ⟨hx, hb, hml, hown, hts⟩ (qaVX l dC dI cyB cyI cyJ cyP a0 jh8 jaT jbb jhy jaR jb6 jcF H.size (jaK) (.ref jaR) (ja1) (.ref jb6) (jbc) (jbV) (ja3) (jbH) (jaq) (jac) (jbI) (jbl) (jbn) (jba) (jaa) (jbA) (jiJ) (jbr) (jcB) (jcC) (jbo) (jbp) (jbk) (jbe) (jbq) (jef) (jbi) jbQ jbm jdB jfQ jbz jjV jkp jkP p1 p2 hw) (cwV 2 hts gL_ahead_X10_ahead rfl rfl rfl (by decide +kernel) ⟨nbq rfl, nbq rfl⟩) ⟨qau, va_recv (q := (RX10, TX10, 19)) hK hPc (ci := 10) (q0 := 0) rfl rfl, qbk hPc hK hDc hNw hY hS hFc⟩ rfl rfl hl.1 rfl (lv_room (nbq rfl)) (qaa qqi 5 rfl) ⟨nbq rfl, nbq rfl⟩) hS (fun q _ h => hFc q h) hFc (fun q _ h => hFc q h) (fun en ce qx9 u t H1 locs ht hvm hpx hB hz1 hk1 hS hc9 hv9 hcl9 => ?_) (fun r5 u t H1 locs ht hvm hw hB hz1 hk1 hS => ?_)
  · obtain ⟨x1, f2, q3, q4⟩ := u
    obtain ⟨hw, hP1, hK1, hD1⟩ := hB
    rw [ht] at hP1
    obtain ⟨hP, hD⟩ := qad (wr := [(a3, .inl (cyJ, n3, .inr (.inl f3)))]) (w1 := (qaXm a0 jaK jaR ja1 jb6 jbc jbV ja3 jbH jaT jh8 jaq jac jbI jbl jbn jba jaa jbA x1 jh8 jhy jiJ q3 q4 jaT jbb jbr jaR jb6 jbb cyI jbQ jhy cyI f2 jaR jcB jcC jbo jbp jbk jcF jbe jbq jef jbm jbi jdB jcF cyI jfQ)) (wn := (qMM a0 jaK jaR ja1 jb6 jbc jbV ja3 jbH jaT jh8 jaq jac jbI jbl jbn jba jaa jbA x1 jh8 jhy jiJ q3 q4 jaT jbb jbr jaR jb6 jbb cyI jbQ jhy cyI f2 jaR jcB jcC jbo jbp jbk jcF jbe jbq jef jbm jbi jdB jcF cyI jfQ a3 cyJ n3 f3)) hP hD [0, 1, 2, 3, 4, 5, 6] [7] [1, 2, 3, 4, 5, 6, 7, 0] hCc rfl (by decide +kernel) (by decide +kernel) (by decide +kernel) rfl hk1 hFc hP1 hD1
    generalize H1 = H at hP hS hc9 ⊢
    obtain ⟨rfl, hw⟩ := hw
    refine vx_catch (own := RL) (name := "java/lang/IllegalArgumentException") hown [] ⟨0, 10, 13, 13⟩ [] (hTb.trans rfl) (fun z hz => nomatch hz) (by decide) (by decide) (hts _ qaz5) (va_Nw.use rfl (hY.2.2.2.1.2 _ (List.mem_of_getElem? (i := 0) rfl))) hc9 hv9 hcl9 ?_
    refine lv_astore (lv' := [(4, .ref qx9), (0, .ref a0), (1, .int p1), (2, .int p2), (3, .ref a3)]) hx hb (qaa qqi 9 rfl) hl (by decide) rfl (fun ls hl => ?_)
    refine lv_iconst (v := 1) hx hb (qaa qqi 10 rfl) (by decide) ?_
    exact (W.widen (k := 2) (n := 12) (nbq rfl) (nbq rfl) (W.iret (v := 1) hx hb hr (fun t ht hW => ⟨⟨1, (x1, f2, q3, q4, f3), rfl, hw, by rw [ht]; exact hP, va_K.moved hW.alike hK, hD⟩, hS.F ht⟩) hS.2.2 (qaa qqi 11 rfl)))
  obtain ⟨x1, f2, q3, q4⟩ := u
  obtain ⟨hP1, hK1, hD1⟩ := hB
  rw [ht] at hP1
  obtain ⟨hP, hD⟩ := va_join (wr := [(a3, .inl (cyJ, n3, .inr (.inl f3)))]) (w1 := (qaXm a0 jaK jaR ja1 jb6 jbc jbV ja3 jbH jaT jh8 jaq jac jbI jbl jbn jba jaa jbA x1 jh8 jhy jiJ q3 q4 jaT jbb jbr jaR jb6 jbb cyI jbQ jhy cyI f2 jaR jcB jcC jbo jbp jbk jcF jbe jbq jef jbm jbi jdB jcF cyI jfQ)) hP hD [0, 1, 2, 3, 4, 5, 6] [7] rfl rfl (by decide) (by decide) hk1 hFc hP1 hD1
  have hP : va_P (dC, dI) vwCl (qMM a0 jaK jaR ja1 jb6 jbc jbV ja3 jbH jaT jh8 jaq jac jbI jbl jbn jba jaa jbA x1 jh8 jhy jiJ q3 q4 jaT jbb jbr jaR jb6 jbb cyI jbQ jhy cyI f2 jaR jcB jcC jbo jbp jbk jcF jbe jbq jef jbm jbi jdB jcF cyI jfQ a3 cyJ n3 f3) H1 := hP.sub [1, 2, 3, 4, 5, 6, 7, 0] rfl
  have hD : va_D A (qMM a0 jaK jaR ja1 jb6 jbc jbV ja3 jbH jaT jh8 jaq jac jbI jbl jbn jba jaa jbA x1 jh8 jhy jiJ q3 q4 jaT jbb jbr jaR jb6 jbb cyI jbQ jhy cyI f2 jaR jcB jcC jbo jbp jbk jcF jbe jbq jef jbm jbi jdB jcF cyI jfQ a3 cyJ n3 f3) := hD.sub [1, 2, 3, 4, 5, 6, 7, 0] (by decide) rfl
  generalize H1 = H at hP hS ⊢
  refine lv_i2l (v := r5.toInt64) hx hb (qaa qqi 6 rfl) rfl ?_
  refine lv_topl (fun x6 ex6 => ?_)
  have hw := hw x6 ex6
  obtain ⟨hi9, hw⟩ := hw
  refine va_last hx hb hK hP hD hS 7 2 rfl rfl hi9 (qaa qqi 7 rfl) (fun H locs hP hD hS => ?_)
  obtain ⟨f7, ef7⟩ : ∃ y : Nat → Int64, y = vp_updL f3 (0 : Int32).toNatClampNeg x6 := ⟨_, rfl⟩
  have hw := hw f7 ef7
  have hP : va_P (dC, dI) vwCl (qMM a0 jaK jaR ja1 jb6 jbc jbV ja3 jbH jaT jh8 jaq jac jbI jbl jbn jba jaa jbA x1 jh8 jhy jiJ q3 q4 jaT jbb jbr jaR jb6 jbb cyI jbQ jhy cyI f2 jaR jcB jcC jbo jbp jbk jcF jbe jbq jef jbm jbi jdB jcF cyI jfQ a3 cyJ n3 f7) H := by rw [ef7]; exact hP
  have hD : va_D A (qMM a0 jaK jaR ja1 jb6 jbc jbV ja3 jbH jaT jh8 jaq jac jbI jbl jbn jba jaa jbA x1 jh8 jhy jiJ q3 q4 jaT jbb jbr jaR jb6 jbb cyI jbQ jhy cyI f2 jaR jcB jcC jbo jbp jbk jcF jbe jbq jef jbm jbi jdB jcF cyI jfQ a3 cyJ n3 f7) := by rw [ef7]; exact hD
  refine lv_goto (tgt := 17) hx hb (qaa qqi 8 rfl) (by decide) ?_
  refine lv_iconst (v := 0) hx hb (qaa qqi 12 rfl) (by decide) ?_
  exact (W.widen (k := 2) (n := 12) (nbq rfl) (nbq rfl) (W.iret (v := 0) hx hb hr (fun t ht hW => ⟨⟨0, (x1, f2, q3, q4, f7), rfl, hw, by rw [ht]; exact hP, va_K.moved hW.alike hK, hD⟩, hS.F ht⟩) hS.2.2 (qaa qqi 13 rfl)))
theorem qCP : ∀ w ∈ u_ws RX8 TX8 7, w ∈ wsX8_open := uiM qBE euX8 (by decide +kernel)
theorem qaKP : (.fieldLink RX8 15 "MarchHares$Tape" "faultPlace" "I" : Cond) ∈ wsX8_open := qBE 143 (by decide +kernel)
theorem qaG2 : (.fieldLink RX8 19 "MarchHares$Tape" "filled" "I" : Cond) ∈ wsX8_open := qBE 580 (by decide +kernel)
theorem qaJF : (.fieldLink RX8 28 "MarchHares$Tape" "length" "I" : Cond) ∈ wsX8_open := qBE 712 (by decide +kernel)
theorem qaJU : (.fieldLink RX8 31 "MarchHares$Tape" "at" "I" : Cond) ∈ wsX8_open := qBE 713 (by decide +kernel)
theorem qaGB : (.fieldLink RX8 34 "MarchHares$Tape" "token" "I" : Cond) ∈ wsX8_open := qBE 714 (by decide +kernel)
theorem qaKG : (.fieldLink RX8 37 "MarchHares$Tape" "fault" "I" : Cond) ∈ wsX8_open := qBE 715 (by decide +kernel)
theorem qaDd : (.initialized "java/lang/Math" : Cond) ∈ wsX8_open := qBE 651 (by decide +kernel)
theorem qaEq : (.methodLink RX8 22 Lib.Math.min.name : Cond) ∈ wsX8_open := qBE 711 (by decide +kernel)
theorem qasn : (.code Lib.Math.min.name Lib.Math.min.code 2 (some .int) : Cond) ∈ wsX8_open := qBE 652 (by decide +kernel)
theorem qarX : (.static Lib.Math.min.name : Cond) ∈ wsX8_open := qBE 650 (by decide +kernel)
set_option maxHeartbeats 4000000 in
set_option maxRecDepth 100000 in
theorem qa1X (l : Launch) (dC : Nat → ClassId) (dI : Nat → Nat → Nat) (cyB cyI cyJ cyP : ClassId) (a0 sz : Nat) (jn7 : Value) (jb7 jcP jlr jnc jkC jj3 p1 : Int32) {Q : Int32 → Int32 → Int32 → Int32 → Int32 → Int32 → Prop} (hw : qaLC jb7 jcP jlr jnc jkC jj3 p1 Q) : Met l yX8_open wsX8_open ({ frames := 1, cells := 0, slots := 0, locals := 32 }) (va_Pc [.ref a0, .int p1] (cPc (dC, dI) (kT cyB cyI cyJ cyP) (qvU a0 jn7 jb7 jcP jlr jnc jkC jj3) sz)) (va_Qv (fun (u : Int32 × Int32 × Int32 × Int32 × Int32 × Int32) => Q u.1 u.2.1 u.2.2.1 u.2.2.2.1 u.2.2.2.2.1 u.2.2.2.2.2) (cB (dC, dI) (kT cyB cyI cyJ cyP) (va_A (qvU a0 jn7 jb7 jcP jlr jnc jkC jj3) sz) (fun u : Int32 × Int32 × Int32 × Int32 × Int32 × Int32 => ((qvU a0 jn7 u.1 u.2.1 u.2.2.1 u.2.2.2.1 u.2.2.2.2.1 u.2.2.2.2.2) : va_W))) (va_A (qvU a0 jn7 jb7 jcP jlr jnc jkC jj3) sz)) 0 0 (va_A (qvU a0 jn7 jb7 jcP jlr jnc jkC jj3) sz) := by
  refine Met.ofW (cc := cX8_open) (maxL := 2) (ret := none) (by decide) rfl ?_
  intro p e s m args below meth c s₁ B hml hv
  obtain ⟨rfl, hsz, hP, hK, hD0, hNw⟩ := hv
  have hx := B.exec
  have hb := B.bytes
  have hr := B.returns
  have hts := atoms_spec (ws := wsX8_open) B.pre
  have hown : s.vm.findClass RX8 = some m.cls := findClass_of_methodNamed B.named
  have hlocks := B.notSynchronized
  subst hsz
  have hD := hD0.self (sz := s.heap.size)
  generalize hAe : va_A (qvU a0 jn7 jb7 jcP jlr jnc jkC jj3) s.heap.size = A at hD ⊢
  have hA : ∀ q : Nat, s.heap.size ≤ q → A q := fun q h => by rw [← hAe]; exact Or.inr h
  have hS : va_S A s.heap s.heap [] := va_S.rf
  have hP : va_P (dC, dI) vwCl (qvU a0 jn7 jb7 jcP jlr jnc jkC jj3) s.heap := hP
  have hl := lv_entry ([.ref a0, .int p1]) (n := 2) (nbq rfl)
  rw [lg_entry_eq]
  generalize (lg_sl ([.ref a0, .int p1]) ++ List.replicate (2 - (lg_sl ([.ref a0, .int p1])).length) Slot.unset).toArray = ls at hl ⊢
  have hl : lv_has ls 2 [(0, .ref a0), (1, .int p1)] := hl
  have C0 : cfx p s m _ meth c cX8_open none wsX8_open RX8 2 A (dC, dI) (kT cyB cyI cyJ cyP) := ⟨hx, hb, hr, hts, hown, hlocks, hml, hA, hK, hNw⟩
  clear hAe
  obtain ⟨H, hH⟩ : ∃ H, H = s.heap := ⟨_, rfl⟩
  rw [← hH] at hP ⊢
  have hS : va_S A s.heap H [] := by rw [hH]; exact va_S.rf
  have hS := hS
  refine lv_aload_n hx hb (qaa qoi 0 rfl) rfl (lv_at hl 0 rfl) ?_
  refine lv_iload_n hx hb (qaa qoi 1 rfl) rfl (lv_at hl 1 rfl) ?_
  refine lv_sipush (v := 600) hx hb (qaa qoi 2 rfl) (by decide) ?_
  refine va_mmin hx hb (by rw [hml]; exact hl.1.symm) hown (hts _ qaEq) (hts _ qarX) (hts _ qaDd) (hts _ qasn) (nbq rfl) (nbq rfl) (nbq rfl) (nbq rfl) (qaa qoi 3 rfl) ?_
  refine lv_topi (fun x1 ex1 => ?_)
  have hw := hw x1 ex1
  refine va_put (D := (dC, dI)) (ci := 8) (v := .int x1) (ty := .int) (C := RX8) (T := TX8) (N := 7) hx hb hts qCP tyX8 tyX8_ok nmX8 hown hK hP hD hS 0 rfl rfl 1 (by decide) (hts _ qaJF) (fun _ h9 => h9) rfl (by decide +kernel) rfl rfl (nbq rfl) (qaa qoi 4 rfl) (fun H locs hP hD hS => ?_)
  have hP : va_P (dC, dI) vwCl (qvU a0 jn7 x1 jcP jlr jnc jkC jj3) H := hP
  have hD : va_D A (qvU a0 jn7 x1 jcP jlr jnc jkC jj3) := hD
  refine lv_aload_n hx hb (qaa qoi 5 rfl) rfl (lv_at hl 0 rfl) ?_
  refine lv_iconst (v := 0) hx hb (qaa qoi 6 rfl) (by decide) ?_
  refine va_put (D := (dC, dI)) (ci := 8) (v := .int 0) (ty := .int) (C := RX8) (T := TX8) (N := 7) hx hb hts qCP tyX8 tyX8_ok nmX8 hown hK hP hD hS 0 rfl rfl 2 (by decide) (hts _ qaJU) (fun _ h9 => h9) rfl (by decide +kernel) rfl rfl (nbq rfl) (qaa qoi 7 rfl) (fun H locs hP hD hS => ?_)
  have hP : va_P (dC, dI) vwCl (qvU a0 jn7 x1 0 jlr jnc jkC jj3) H := hP
  have hD : va_D A (qvU a0 jn7 x1 0 jlr jnc jkC jj3) := hD
  refine lv_aload_n hx hb (qaa qoi 8 rfl) rfl (lv_at hl 0 rfl) ?_
  refine lv_iconst (v := 0) hx hb (qaa qoi 9 rfl) (by decide) ?_
  refine va_put (D := (dC, dI)) (ci := 8) (v := .int 0) (ty := .int) (C := RX8) (T := TX8) (N := 7) hx hb hts qCP tyX8 tyX8_ok nmX8 hown hK hP hD hS 0 rfl rfl 3 (by decide) (hts _ qaGB) (fun _ h9 => h9) rfl (by decide +kernel) rfl rfl (nbq rfl) (qaa qoi 10 rfl) (fun H locs hP hD hS => ?_)
  have hP : va_P (dC, dI) vwCl (qvU a0 jn7 x1 0 0 jnc jkC jj3) H := hP
  have hD : va_D A (qvU a0 jn7 x1 0 0 jnc jkC jj3) := hD
  refine lv_aload_n hx hb (qaa qoi 11 rfl) rfl (lv_at hl 0 rfl) ?_
  refine lv_iconst (v := 0) hx hb (qaa qoi 12 rfl) (by decide) ?_
  refine va_put (D := (dC, dI)) (ci := 8) (v := .int 0) (ty := .int) (C := RX8) (T := TX8) (N := 7) hx hb hts qCP tyX8 tyX8_ok nmX8 hown hK hP hD hS 0 rfl rfl 4 (by decide) (hts _ qaG2) (fun _ h9 => h9) rfl (by decide +kernel) rfl rfl (nbq rfl) (qaa qoi 13 rfl) (fun H locs hP hD hS => ?_)
  have hP : va_P (dC, dI) vwCl (qvU a0 jn7 x1 0 0 0 jkC jj3) H := hP
  have hD : va_D A (qvU a0 jn7 x1 0 0 0 jkC jj3) := hD
  refine lv_aload_n hx hb (qaa qoi 14 rfl) rfl (lv_at hl 0 rfl) ?_
  refine lv_iconst (v := 0) hx hb (qaa qoi 15 rfl) (by decide) ?_
  refine va_put (D := (dC, dI)) (ci := 8) (v := .int 0) (ty := .int) (C := RX8) (T := TX8) (N := 7) hx hb hts qCP tyX8 tyX8_ok nmX8 hown hK hP hD hS 0 rfl rfl 5 (by decide) (hts _ qaKG) (fun _ h9 => h9) rfl (by decide +kernel) rfl rfl (nbq rfl) (qaa qH2 0 rfl) (fun H locs hP hD hS => ?_)
  have hP : va_P (dC, dI) vwCl (qvU a0 jn7 x1 0 0 0 0 jj3) H := hP
  have hD : va_D A (qvU a0 jn7 x1 0 0 0 0 jj3) := hD
  refine lv_aload_n hx hb (qaa qH2 1 rfl) rfl (lv_at hl 0 rfl) ?_
  refine lv_iconst (v := (-1)) hx hb (qaa qH2 2 rfl) (by decide) ?_
  refine va_put (D := (dC, dI)) (ci := 8) (v := .int (-1)) (ty := .int) (C := RX8) (T := TX8) (N := 7) hx hb hts qCP tyX8 tyX8_ok nmX8 hown hK hP hD hS 0 rfl rfl 6 (by decide) (hts _ qaKP) (fun _ h9 => h9) rfl (by decide +kernel) rfl rfl (nbq rfl) (qaa qH2 3 rfl) (fun H locs hP hD hS => ?_)
  have hP : va_P (dC, dI) vwCl (qvU a0 jn7 x1 0 0 0 0 (-1)) H := hP
  have hD : va_D A (qvU a0 jn7 x1 0 0 0 0 (-1)) := hD
  exact ((W.vret hx hb hr (fun t ht hW => ⟨⟨(x1, 0, 0, 0, 0, (-1)), rfl, hw, by rw [ht]; exact hP, va_K.moved hW.alike hK, hD⟩, hS.F ht⟩) hS.2.2 (qaa qH2 4 rfl)))
theorem qQT : ∀ w ∈ u_ws RX10 TX10 19, w ∈ wsX10_openText := uiM qpo qyE (by decide +kernel)
theorem qahL : ∀ w ∈ u_ws RX8 TX8 7, w ∈ wsX10_openText := uiM qpo euX8 (by decide +kernel)
theorem qPj : (.fieldLink RX10 10 "MarchHares" "tape" "LMarchHares$Tape;" : Cond) ∈ wsX10_openText := qpo 16 (by decide +kernel)
theorem q6y : (.fieldLink RX10 105 "MarchHares$Tape" "filled" "I" : Cond) ∈ wsX10_openText := qpo 535 (by decide +kernel)
theorem q6r : (.initialized "java/lang/Math" : Cond) ∈ wsX10_openText := qpo 651 (by decide +kernel)
theorem q6L : (.methodLink RX10 384 Lib.Math.min.name : Cond) ∈ wsX10_openText := qpo 649 (by decide +kernel)
theorem q3C : (.code Lib.Math.min.name Lib.Math.min.code 2 (some .int) : Cond) ∈ wsX10_openText := qpo 652 (by decide +kernel)
theorem q2T : (.static Lib.Math.min.name : Cond) ∈ wsX10_openText := qpo 650 (by decide +kernel)
set_option maxHeartbeats 4000000 in
set_option maxRecDepth 100000 in
theorem qH5 (l : Launch) (dC : Nat → ClassId) (dI : Nat → Nat → Nat) (cyB cyI cyJ cyP : ClassId) (a0 jaW sz : Nat) (jfP ja1 jcp jbc jbV ja3 jbH ja2 jbO jaq jac jbI jbl jbn jba jaa jbA jok : Value) (jbz jk4 jlW jll jj0 jlm jjE p1 p2 : Int32) {E : String → Int32 → Int32 → Int32 → Int32 → Int32 → Int32 → Int32 → Prop} {Q : Int32 → Int32 → Int32 → Int32 → Int32 → Int32 → Int32 → Prop} (hw : qyP jbz jk4 jlW jll jj0 jlm jjE p1 p2 E Q) : vx_Met l yX10_openText wsX10_openText ({ frames := 8, cells := 1, slots := 6, locals := 164 }) (va_Pc [.ref a0, .int p1, .int p2] (cPx l (dC, dI) (kT cyB cyI cyJ cyP) (qJJ a0 jaW jfP ja1 jcp jbc jbV ja3 jbH ja2 jbO jaq jac jbI jbl jbn jba jaa jbA jbz jaW jok jk4 jlW jll jj0 jlm jjE) sz)) (va_Qv (fun (u : Int32 × Int32 × Int32 × Int32 × Int32 × Int32 × Int32) => Q u.1 u.2.1 u.2.2.1 u.2.2.2.1 u.2.2.2.2.1 u.2.2.2.2.2.1 u.2.2.2.2.2.2) (cB (dC, dI) (kT cyB cyI cyJ cyP) (va_A (qJJ a0 jaW jfP ja1 jcp jbc jbV ja3 jbH ja2 jbO jaq jac jbI jbl jbn jba jaa jbA jbz jaW jok jk4 jlW jll jj0 jlm jjE) sz) (fun u : Int32 × Int32 × Int32 × Int32 × Int32 × Int32 × Int32 => ((qJJ a0 jaW jfP ja1 jcp jbc jbV ja3 jbH ja2 jbO jaq jac jbI jbl jbn jba jaa jbA u.1 jaW jok u.2.1 u.2.2.1 u.2.2.2.1 u.2.2.2.2.1 u.2.2.2.2.2.1 u.2.2.2.2.2.2) : va_W))) (va_A (qJJ a0 jaW jfP ja1 jcp jbc jbV ja3 jbH ja2 jbO jaq jac jbI jbl jbn jba jaa jbA jbz jaW jok jk4 jlW jll jj0 jlm jjE) sz)) (vx_X (fun _ => True) (fun (en : String) (u : Int32 × Int32 × Int32 × Int32 × Int32 × Int32 × Int32) (t : State) => E en u.1 u.2.1 u.2.2.1 u.2.2.2.1 u.2.2.2.2.1 u.2.2.2.2.2.1 u.2.2.2.2.2.2 ∧ cB (dC, dI) (kT cyB cyI cyJ cyP) (va_A (qJJ a0 jaW jfP ja1 jcp jbc jbV ja3 jbH ja2 jbO jaq jac jbI jbl jbn jba jaa jbA jbz jaW jok jk4 jlW jll jj0 jlm jjE) sz) (fun u : Int32 × Int32 × Int32 × Int32 × Int32 × Int32 × Int32 => ((qJJ a0 jaW jfP ja1 jcp jbc jbV ja3 jbH ja2 jbO jaq jac jbI jbl jbn jba jaa jbA u.1 jaW jok u.2.1 u.2.2.1 u.2.2.2.1 u.2.2.2.2.1 u.2.2.2.2.2.1 u.2.2.2.2.2.2) : va_W)) u t) (va_A (qJJ a0 jaW jfP ja1 jcp jbc jbV ja3 jbH ja2 jbO jaq jac jbI jbl jbn jba jaa jbA jbz jaW jok jk4 jlW jll jj0 jlm jjE) sz)) 1 6 (va_A (qJJ a0 jaW jfP ja1 jcp jbc jbV ja3 jbH ja2 jbO jaq jac jbI jbl jbn jba jaa jbA jbz jaW jok jk4 jlW jll jj0 jlm jjE) sz) := by
  refine vx_ofW (cc := cX10_openText) (maxL := 3) (ret := none) (by decide) rfl ?_
  intro p e s m args below meth c s₁ B hml hnt hv
  obtain ⟨rfl, hsz, hP, hK, hD0, hNw, hXl, hXu, hXn, hXt⟩ := hv
  have hx := B.exec
  have hb := B.bytes
  have hr := B.returns
  have hts := atoms_spec (ws := wsX10_openText) B.pre
  have hown : s.vm.findClass RX10 = some m.cls := findClass_of_methodNamed B.named
  have hlocks := B.notSynchronized
  subst hsz
  have hD := hD0.self (sz := s.heap.size)
  generalize hAe : va_A (qJJ a0 jaW jfP ja1 jcp jbc jbV ja3 jbH ja2 jbO jaq jac jbI jbl jbn jba jaa jbA jbz jaW jok jk4 jlW jll jj0 jlm jjE) s.heap.size = A at hD hXu hXn ⊢
  have hA : ∀ q : Nat, s.heap.size ≤ q → A q := fun q h => by rw [← hAe]; exact Or.inr h
  have hS : va_S A s.heap s.heap [] := va_S.rf
  have hP : va_P (dC, dI) vwCl (qJJ a0 jaW jfP ja1 jcp jbc jbV ja3 jbH ja2 jbO jaq jac jbI jbl jbn jba jaa jbA jbz jaW jok jk4 jlW jll jj0 jlm jjE) s.heap := hP
  have hl := lv_entry ([.ref a0, .int p1, .int p2]) (n := 3) (nbq rfl)
  rw [lg_entry_eq]
  generalize (lg_sl ([.ref a0, .int p1, .int p2]) ++ List.replicate (3 - (lg_sl ([.ref a0, .int p1, .int p2])).length) Slot.unset).toArray = ls at hl ⊢
  have hl : lv_has ls 3 [(0, .ref a0), (1, .int p1), (2, .int p2)] := hl
  have hY : cfY l s A := ⟨hXl, hXu, hXn, hXt⟩
  have hXs : cfX l s c A := ⟨hnt, hY⟩
  have C0 : cfx p s m _ meth c cX10_openText none wsX10_openText RX10 3 A (dC, dI) (kT cyB cyI cyJ cyP) ∧ cfX l s c A := ⟨⟨hx, hb, hr, hts, hown, hlocks, hml, hA, hK, hNw⟩, hXs⟩
  clear hAe
  obtain ⟨H, hH⟩ : ∃ H, H = s.heap := ⟨_, rfl⟩
  rw [← hH] at hP ⊢
  have hS : va_S A s.heap H [] := by rw [hH]; exact va_S.rf
  have hS := hS
  refine lv_aload_n hx hb (qaa qgm 0 rfl) rfl (lv_at hl 0 rfl) ?_
  refine lv_iload_n hx hb (qaa qgm 1 rfl) rfl (lv_at hl 1 rfl) ?_
  refine lv_iconst (v := 0) hx hb (qaa qgm 2 rfl) (by decide) ?_
  refine lv_iload_n hx hb (qaa qgm 3 rfl) rfl (lv_at hl 2 rfl) ?_
  refine lv_aload_n hx hb (qaa qgm 4 rfl) rfl (lv_at hl 0 rfl) ?_
  refine va_get (D := (dC, dI)) (ci := 10) (v := .ref jaW) (C := RX10) (T := TX10) (N := 19) hx hb hts qQT hown hK hP 0 rfl rfl 0 (by decide) (hts _ qPj) (fun _ h9 => h9) rfl (qaa qgm 5 rfl) ?_
  refine va_get (D := (dC, dI)) (ci := 8) (v := .int jj0) (C := RX8) (T := TX8) (N := 7) hx hb hts qahL hown hK hP 1 rfl rfl 4 (by decide) (hts _ q6y) (fun _ h9 => h9) rfl (qaa qgm 6 rfl) ?_
  refine va_mmin hx hb (by rw [hml]; exact hl.1.symm) hown (hts _ q6L) (hts _ q2T) (hts _ q6r) (hts _ q3C) (nbq rfl) (nbq rfl) (nbq rfl) (nbq rfl) (qaa qgm 7 rfl) ?_
  refine lv_topi (fun x1 ex1 => ?_)
  have hw := hw x1 ex1
  obtain ⟨hCc, hPc, hDc, hFc⟩ := qac (ws' := (qaNM a0 jaW jfP ja1 jcp jbc jbV ja3 jbH ja2 jbO jaq jac jbI jbl jbn jba jaa jbA jbz)) hP hD hS hA [0] (by decide +kernel) rfl
  refine vx_callv (vx_runV (As := [.int p1, .int 0, .int x1]) (rest := []) ⟨hx, hb, hml, hown, hts⟩ (qaV l dC dI cyB cyI cyJ cyP a0 H.size (.ref jaW) (jfP) (ja1) (jcp) (jbc) (jbV) (ja3) (jbH) (ja2) (jbO) (jaq) (jac) (jbI) (jbl) (jbn) (jba) (jaa) (jbA) jbz p1 0 x1 hw) (cwV 3 hts gX10_openText_X10_needWithin rfl rfl rfl (by decide +kernel) ⟨nbq rfl, nbq rfl⟩) ⟨qau, va_recv (q := (RX10, TX10, 19)) hK hPc (ci := 10) (q0 := 0) rfl rfl, qbk hPc hK hDc hNw hY hS hFc⟩ rfl rfl hl.1 rfl (lv_room (nbq rfl)) (qaa qgm 8 rfl) ⟨nbq rfl, nbq rfl⟩) hS (fun q _ h => hFc q h) hFc (fun q _ h => hFc q h) (fun en ce q9 u t H1 locs ht hvm hpx hB hz1 hk1 hS hc9 hv9 hcl9 => ?_) (fun u t H1 locs ht hvm hw hB hz1 hk1 hS => ?_)
  · obtain ⟨x2, rfl⟩ : ∃ z, z = u := ⟨_, rfl⟩
    obtain ⟨hw, hP1, hK1, hD1⟩ := hB
    rw [ht] at hP1
    obtain ⟨hP, hD⟩ := qad (wr := (qvU jaW jok jk4 jlW jll jj0 jlm jjE)) (w1 := (qaNM a0 jaW jfP ja1 jcp jbc jbV ja3 jbH ja2 jbO jaq jac jbI jbl jbn jba jaa jbA x2)) (wn := (qJJ a0 jaW jfP ja1 jcp jbc jbV ja3 jbH ja2 jbO jaq jac jbI jbl jbn jba jaa jbA x2 jaW jok jk4 jlW jll jj0 jlm jjE)) hP hD [0] [1] [1, 0] hCc rfl (by decide +kernel) (by decide +kernel) (by decide +kernel) rfl hk1 hFc hP1 hD1
    generalize H1 = H at hP hS hc9 ⊢
    exact vx_out (fun x hx9 => (hXs.1 x hx9).elim) hlocks hc9 hv9 hcl9 (fun t2 ht2 hal2 => ⟨(x2, jk4, jlW, jll, jj0, jlm, jjE), trivial, ⟨hw, by rw [ht2]; exact hP, va_K.moved hal2 hK, hD⟩, hS.F ht2⟩) hS.2.2 (nbq rfl) (nbq rfl)
  obtain ⟨x2, rfl⟩ : ∃ z, z = u := ⟨_, rfl⟩
  obtain ⟨hP1, hK1, hD1⟩ := hB
  rw [ht] at hP1
  obtain ⟨hP, hD⟩ := qad (wr := (qvU jaW jok jk4 jlW jll jj0 jlm jjE)) (w1 := (qaNM a0 jaW jfP ja1 jcp jbc jbV ja3 jbH ja2 jbO jaq jac jbI jbl jbn jba jaa jbA x2)) (wn := (qJJ a0 jaW jfP ja1 jcp jbc jbV ja3 jbH ja2 jbO jaq jac jbI jbl jbn jba jaa jbA x2 jaW jok jk4 jlW jll jj0 jlm jjE)) hP hD [0] [1] [1, 0] hCc rfl (by decide +kernel) (by decide +kernel) (by decide +kernel) rfl hk1 hFc hP1 hD1
  generalize H1 = H at hP hS ⊢
  refine lv_aload_n hx hb (qaa qgm 9 rfl) rfl (lv_at hl 0 rfl) ?_
  refine va_get (D := (dC, dI)) (ci := 10) (v := .ref jaW) (C := RX10) (T := TX10) (N := 19) hx hb hts qQT hown hK hP 0 rfl rfl 0 (by decide) (hts _ qPj) (fun _ h9 => h9) rfl (qaa qgm 10 rfl) ?_
  refine lv_iload_n hx hb (qaa qgm 11 rfl) rfl (lv_at hl 1 rfl) ?_
  obtain ⟨hCc, hPc, hDc, hFc⟩ := qac (ws' := (qvU jaW jok jk4 jlW jll jj0 jlm jjE)) hP hD hS hA [1] (by decide +kernel) rfl
  refine va_callv (va_runV (As := [.int p1]) (rest := []) ⟨hx, hb, hml, hown, hts⟩ (qa1X l dC dI cyB cyI cyJ cyP jaW H.size (jok) jk4 jlW jll jj0 jlm jjE p1 hw) (cwV 1 hts gX10_openText_X8_open rfl rfl rfl (by decide +kernel) ⟨nbq rfl, nbq rfl⟩) ⟨qab, va_recv (q := (RX8, TX8, 7)) hK hPc (ci := 8) (q0 := 0) rfl rfl, qae hPc hK hDc hNw⟩ rfl rfl hl.1 rfl (lv_room (nbq rfl)) (qaa qgm 12 rfl) ⟨nbq rfl, nbq rfl⟩) hS (fun q _ h => hFc q h) hFc (fun u t H1 locs ht hvm hw hB hz1 hk1 hS => ?_)
  obtain ⟨x3, x4, x5, x6, x7, x8⟩ := u
  obtain ⟨hP1, hK1, hD1⟩ := hB
  rw [ht] at hP1
  obtain ⟨hP, hD⟩ := qah (wr := (qaNM a0 jaW jfP ja1 jcp jbc jbV ja3 jbH ja2 jbO jaq jac jbI jbl jbn jba jaa jbA x2)) (w1 := (qvU jaW jok x3 x4 x5 x6 x7 x8)) (wn := (qJJ a0 jaW jfP ja1 jcp jbc jbV ja3 jbH ja2 jbO jaq jac jbI jbl jbn jba jaa jbA x2 jaW jok x3 x4 x5 x6 x7 x8)) hP hD [1] [0] hCc rfl (by decide +kernel) (by decide +kernel) rfl hk1 hFc hP1 hD1
  generalize H1 = H at hP hS ⊢
  exact vx_ret (W.widen (k := 1) (n := 6) (nbq rfl) (nbq rfl) (W.vret hx hb hr (fun t ht hW => ⟨⟨(x2, x3, x4, x5, x6, x7, x8), rfl, hw, by rw [ht]; exact hP, va_K.moved hW.alike hK, hD⟩, hS.F ht⟩) hS.2.2 (qaa qgm 13 rfl)))
theorem q7z : ∀ w ∈ u_ws RX0 TX0 2, w ∈ wsX0_clear := uiM qai4 euX0 (by decide +kernel)
theorem qaAh : (.fieldLink RX0 18 "MarchHares$Book" "many" "I" : Cond) ∈ wsX0_clear := qai4 262 (by decide +kernel)
theorem qaET : (.fieldLink RX0 9 "MarchHares$Book" "seen" "[I" : Cond) ∈ wsX0_clear := qai4 257 (by decide +kernel)
set_option maxHeartbeats 4000000 in
set_option maxRecDepth 100000 in
theorem qaSu {p : Program} {l : Launch} {e : Env} {s : State} {m : MethodId} {args : Array Value} {below : List Frame} {meth : Method} {c : Code} {A : Nat → Prop} (dC : Nat → ClassId) (dI : Nat → Nat → Nat) (cyB cyI cyJ cyP : ClassId) (a0 jjj : Nat) (Q : Int32 → NI → Prop) (C0 : cfx p s m args meth c cX0_clear none wsX0_clear RX0 2 A (dC, dI) (kT cyB cyI cyJ cyP)) : ∀ (n : Nat) (H : Heap) (locs : List Loc) (ls : Array Slot) (jkY : Int32) (jkG : NI) (l1 : Int32), va_P (dC, dI) vwCl (qwj a0 jjj jkY jjj cyI jkG) H → va_D A (qwj a0 jjj jkY jjj cyI jkG) → va_S A s.heap H locs → lv_has ls 2 [(0, .ref a0), (1, .int l1)] → qH8 Q n jkY jkG l1 → W p l e (headSpec wsX0_clear ({ frames := 0, cells := 0, slots := 0, locals := 0 })).room s m args below meth c H locs 0 0 (MQ below (va_Qv (fun (u : Int32 × NI) => Q u.1 u.2) (cB (dC, dI) (kT cyB cyI cyJ cyP) A (fun u : Int32 × NI => ((qwj a0 jjj u.1 jjj cyI u.2) : va_W))) A) args s 0 0 A) (F0 m 7 ls []) := by
  obtain ⟨hx, hb, hr, hts, hown, hlocks, hml, hA, hK, hNw⟩ := id C0
  intro n
  induction n with
  | zero => intro H locs ls jkY jkG l1 hP hD hS hl hw; exact False.elim hw
  | succ n ih =>
    intro H locs ls jkY jkG l1 hP hD hS hl hw
    refine lv_iload_n hx hb (qaa qmP 5 rfl) rfl (lv_at hl 1 rfl) ?_
    refine lv_bipush (v := 8) hx hb (qaa qmP 6 rfl) (by decide) ?_
    refine lv_icmp_ge (tgt := 26) hx hb (qaa qmP 7 rfl) (by decide) (fun c1 => ?_) (fun c1 => ?_)
    · have hw := hw.1 c1
      exact ((W.vret hx hb hr (fun t ht hW => ⟨⟨(jkY, jkG), rfl, hw, by rw [ht]; exact hP, va_K.moved hW.alike hK, hD⟩, hS.F ht⟩) hS.2.2 (qaa qmP 15 rfl)))
    · have hw := hw.2 c1
      refine lv_aload_n hx hb (qaa qmP 8 rfl) rfl (lv_at hl 0 rfl) ?_
      refine va_get (D := (dC, dI)) (ci := 0) (v := .ref jjj) (C := RX0) (T := TX0) (N := 2) hx hb hts q7z hown hK hP 0 rfl rfl 0 (by decide) (hts _ qaET) (fun _ h9 => h9) rfl (qaa qmP 9 rfl) ?_
      refine lv_iload_n hx hb (qaa qmP 10 rfl) rfl (lv_at hl 1 rfl) ?_
      refine lv_iconst (v := (-1)) hx hb (qaa qmP 11 rfl) (by decide) ?_
      obtain ⟨hi9, hw⟩ := hw
      refine va_iast hx hb hK hP hD hS 1 1 rfl rfl hi9 (qaa qmP 12 rfl) (fun H locs hP hD hS => ?_)
      obtain ⟨f2, ef2⟩ : ∃ y : NI, y = upd jkG l1.toNatClampNeg (-1) := ⟨_, rfl⟩
      have hw := hw f2 ef2
      have hP : va_P (dC, dI) vwCl (qwj a0 jjj jkY jjj cyI f2) H := by rw [ef2]; exact hP
      have hD : va_D A (qwj a0 jjj jkY jjj cyI f2) := by rw [ef2]; exact hD
      obtain ⟨x3, ex3⟩ : ∃ y : Int32, y = l1 + 1 := ⟨_, rfl⟩
      have hw := hw x3 ex3
      refine lv_iinc (v := x3) (lv' := [(1, .int x3), (0, .ref a0)]) hx hb (qaa qmP 13 rfl) hl (k := 1) rfl (by rw [ex3]; rfl) (by decide) rfl (fun ls hl => ?_)
      refine lv_goto (tgt := 7) hx hb (qaa qmP 14 rfl) (by decide) ?_
      exact ih _ _ _ jkY f2 x3 hP hD hS (lv_sub hl [1, 0] rfl) hw
set_option maxHeartbeats 4000000 in
set_option maxRecDepth 100000 in
theorem qace (l : Launch) (dC : Nat → ClassId) (dI : Nat → Nat → Nat) (cyB cyI cyJ cyP : ClassId) (a0 jjj sz : Nat) (jkY : Int32) (jkG : NI) {Q : Int32 → NI → Prop} (hw : qB4 jkY jkG Q) : Met l yX0_clear wsX0_clear ({ frames := 0, cells := 0, slots := 0, locals := 0 }) (va_Pc [.ref a0] (cPc (dC, dI) (kT cyB cyI cyJ cyP) (qwj a0 jjj jkY jjj cyI jkG) sz)) (va_Qv (fun (u : Int32 × NI) => Q u.1 u.2) (cB (dC, dI) (kT cyB cyI cyJ cyP) (va_A (qwj a0 jjj jkY jjj cyI jkG) sz) (fun u : Int32 × NI => ((qwj a0 jjj u.1 jjj cyI u.2) : va_W))) (va_A (qwj a0 jjj jkY jjj cyI jkG) sz)) 0 0 (va_A (qwj a0 jjj jkY jjj cyI jkG) sz) := by
  refine Met.ofW (cc := cX0_clear) (maxL := 2) (ret := none) (by decide) rfl ?_
  intro p e s m args below meth c s₁ B hml hv
  obtain ⟨rfl, hsz, hP, hK, hD0, hNw⟩ := hv
  have hx := B.exec
  have hb := B.bytes
  have hr := B.returns
  have hts := atoms_spec (ws := wsX0_clear) B.pre
  have hown : s.vm.findClass RX0 = some m.cls := findClass_of_methodNamed B.named
  have hlocks := B.notSynchronized
  subst hsz
  have hD := hD0.self (sz := s.heap.size)
  generalize hAe : va_A (qwj a0 jjj jkY jjj cyI jkG) s.heap.size = A at hD ⊢
  have hA : ∀ q : Nat, s.heap.size ≤ q → A q := fun q h => by rw [← hAe]; exact Or.inr h
  have hS : va_S A s.heap s.heap [] := va_S.rf
  have hP : va_P (dC, dI) vwCl (qwj a0 jjj jkY jjj cyI jkG) s.heap := hP
  have hl := lv_entry ([.ref a0]) (n := 2) (nbq rfl)
  rw [lg_entry_eq]
  generalize (lg_sl ([.ref a0]) ++ List.replicate (2 - (lg_sl ([.ref a0])).length) Slot.unset).toArray = ls at hl ⊢
  have hl : lv_has ls 2 [(0, .ref a0)] := hl
  have C0 : cfx p s m _ meth c cX0_clear none wsX0_clear RX0 2 A (dC, dI) (kT cyB cyI cyJ cyP) := ⟨hx, hb, hr, hts, hown, hlocks, hml, hA, hK, hNw⟩
  clear hAe
  obtain ⟨H, hH⟩ : ∃ H, H = s.heap := ⟨_, rfl⟩
  rw [← hH] at hP ⊢
  have hS : va_S A s.heap H [] := by rw [hH]; exact va_S.rf
  have hS := hS
  refine lv_aload_n hx hb (qaa qmP 0 rfl) rfl (lv_at hl 0 rfl) ?_
  refine lv_iconst (v := 0) hx hb (qaa qmP 1 rfl) (by decide) ?_
  refine va_put (D := (dC, dI)) (ci := 0) (v := .int 0) (ty := .int) (C := RX0) (T := TX0) (N := 2) hx hb hts q7z tyX0 tyX0_ok nmX0 hown hK hP hD hS 0 rfl rfl 1 (by decide) (hts _ qaAh) (fun _ h9 => h9) rfl (by decide +kernel) rfl rfl (nbq rfl) (qaa qmP 2 rfl) (fun H locs hP hD hS => ?_)
  have hP : va_P (dC, dI) vwCl (qwj a0 jjj 0 jjj cyI jkG) H := hP
  have hD : va_D A (qwj a0 jjj 0 jjj cyI jkG) := hD
  refine lv_iconst (v := 0) hx hb (qaa qmP 3 rfl) (by decide) ?_
  refine lv_istore_n (lv' := [(1, .int 0), (0, .ref a0)]) hx hb (qaa qmP 4 rfl) rfl hl (by decide) rfl (fun ls hl => ?_)
  obtain ⟨n9, hw⟩ := hw
  exact qaSu dC dI cyB cyI cyJ cyP a0 jjj Q C0 n9 _ _ _ 0 jkG 0 hP hD hS (lv_sub hl [1, 0] rfl) hw
theorem qajf : ∀ w ∈ u_ws RX8 TX8 7, w ∈ wsX8_isFaulty := uiM qadu euX8 (by decide +kernel)
theorem qag2 : (.fieldLink RX8 37 "MarchHares$Tape" "fault" "I" : Cond) ∈ wsX8_isFaulty := qadu 715 (by decide +kernel)
set_option maxHeartbeats 4000000 in
set_option maxRecDepth 100000 in
theorem qjR (l : Launch) (dC : Nat → ClassId) (dI : Nat → Nat → Nat) (cyB cyI cyJ cyP : ClassId) (a0 sz : Nat) (jn7 jjf jby jl9 jjY jkr : Value) (jkC : Int32) {Q : Int32 → Prop} (hw : qgt jkC Q) : Met l yX8_isFaulty wsX8_isFaulty ({ frames := 0, cells := 0, slots := 0, locals := 0 }) (va_Pc [.ref a0] (cPc (dC, dI) (kT cyB cyI cyJ cyP) (qabN a0 jn7 jjf jby jl9 jjY jkC jkr) sz)) (va_Qi (fun (r : Int32) (_ : Unit) => Q r ) (cB (dC, dI) (kT cyB cyI cyJ cyP) (va_A (qabN a0 jn7 jjf jby jl9 jjY jkC jkr) sz) (fun u : Unit => ((qabN a0 jn7 jjf jby jl9 jjY jkC jkr) : va_W))) (va_A (qabN a0 jn7 jjf jby jl9 jjY jkC jkr) sz)) 0 0 (va_A (qabN a0 jn7 jjf jby jl9 jjY jkC jkr) sz) := by
  refine Met.ofW (cc := cX8_isFaulty) (maxL := 1) (ret := (some .boolean)) (by decide) rfl ?_
  intro p e s m args below meth c s₁ B hml hv
  obtain ⟨rfl, hsz, hP, hK, hD0, hNw⟩ := hv
  have hx := B.exec
  have hb := B.bytes
  have hr := B.returns
  have hts := atoms_spec (ws := wsX8_isFaulty) B.pre
  have hown : s.vm.findClass RX8 = some m.cls := findClass_of_methodNamed B.named
  have hlocks := B.notSynchronized
  subst hsz
  have hD := hD0.self (sz := s.heap.size)
  generalize hAe : va_A (qabN a0 jn7 jjf jby jl9 jjY jkC jkr) s.heap.size = A at hD ⊢
  have hA : ∀ q : Nat, s.heap.size ≤ q → A q := fun q h => by rw [← hAe]; exact Or.inr h
  have hS : va_S A s.heap s.heap [] := va_S.rf
  have hP : va_P (dC, dI) vwCl (qabN a0 jn7 jjf jby jl9 jjY jkC jkr) s.heap := hP
  have hl := lv_entry ([.ref a0]) (n := 1) (nbq rfl)
  rw [lg_entry_eq]
  generalize (lg_sl ([.ref a0]) ++ List.replicate (1 - (lg_sl ([.ref a0])).length) Slot.unset).toArray = ls at hl ⊢
  have hl : lv_has ls 1 [(0, .ref a0)] := hl
  have C0 : cfx p s m _ meth c cX8_isFaulty (some .boolean) wsX8_isFaulty RX8 1 A (dC, dI) (kT cyB cyI cyJ cyP) := ⟨hx, hb, hr, hts, hown, hlocks, hml, hA, hK, hNw⟩
  clear hAe
  obtain ⟨H, hH⟩ : ∃ H, H = s.heap := ⟨_, rfl⟩
  rw [← hH] at hP ⊢
  have hS : va_S A s.heap H [] := by rw [hH]; exact va_S.rf
  have hS := hS
  refine lv_aload_n hx hb (qaa qsD 0 rfl) rfl (lv_at hl 0 rfl) ?_
  refine va_get (D := (dC, dI)) (ci := 8) (v := .int jkC) (C := RX8) (T := TX8) (N := 7) hx hb hts qajf hown hK hP 0 rfl rfl 5 (by decide) (hts _ qag2) (fun _ h9 => h9) rfl (qaa qsD 1 rfl) ?_
  refine lv_if_eq (tgt := 11) hx hb (qaa qsD 2 rfl) (by decide) (fun c1 => ?_) (fun c1 => ?_)
  · have hw := hw.1 c1
    refine lv_iconst (v := 0) hx hb (qaa qsD 5 rfl) (by decide) ?_
    exact ((W.zret (v := 0) hx hb hr rfl (fun t ht hW => ⟨⟨0, (), rfl, hw, by rw [ht]; exact hP, va_K.moved hW.alike hK, hD⟩, hS.F ht⟩) hS.2.2 (qaa qsD 6 rfl)))
  · have hw := hw.2 c1
    refine lv_iconst (v := 1) hx hb (qaa qsD 3 rfl) (by decide) ?_
    refine lv_goto (tgt := 12) hx hb (qaa qsD 4 rfl) (by decide) ?_
    exact ((W.zret (v := 1) hx hb hr rfl (fun t ht hW => ⟨⟨1, (), rfl, hw, by rw [ht]; exact hP, va_K.moved hW.alike hK, hD⟩, hS.F ht⟩) hS.2.2 (qaa qsD 6 rfl)))
theorem qtn : ∀ w ∈ u_ws RX8 TX8 7, w ∈ wsX8_skipBlanks := uiM qIH euX8 (by decide +kernel)
theorem q6P : (.fieldLink RX8 11 "MarchHares$Tape" "bytes" "[B" : Cond) ∈ wsX8_skipBlanks := qIH 142 (by decide +kernel)
theorem q6Y : (.fieldLink RX8 28 "MarchHares$Tape" "length" "I" : Cond) ∈ wsX8_skipBlanks := qIH 712 (by decide +kernel)
theorem qxV : (.fieldLink RX8 31 "MarchHares$Tape" "at" "I" : Cond) ∈ wsX8_skipBlanks := qIH 713 (by decide +kernel)
set_option maxHeartbeats 4000000 in
set_option maxRecDepth 100000 in
theorem qaeF {p : Program} {l : Launch} {e : Env} {s : State} {m : MethodId} {args : Array Value} {below : List Frame} {meth : Method} {c : Code} {A : Nat → Prop} (dC : Nat → ClassId) (dI : Nat → Nat → Nat) (cyB cyI cyJ cyP : ClassId) (a0 jif : Nat) (jl9 jjY jmS jkr : Value) (jb7 : Int32) (jjA : NI) (Q : Int32 → Prop) (C0 : cfx p s m args meth c cX8_skipBlanks none wsX8_skipBlanks RX8 1 A (dC, dI) (kT cyB cyI cyJ cyP)) : ∀ (n : Nat) (H : Heap) (locs : List Loc) (ls : Array Slot) (jcP : Int32), va_P (dC, dI) vwCl (qwl a0 jif jb7 jcP jl9 jjY jmS jkr jif cyB jjA) H → va_D A (qwl a0 jif jb7 jcP jl9 jjY jmS jkr jif cyB jjA) → va_S A s.heap H locs → lv_has ls 1 [(0, .ref a0)] → qBh jb7 jjA Q n jcP → W p l e (headSpec wsX8_skipBlanks ({ frames := 0, cells := 0, slots := 0, locals := 0 })).room s m args below meth c H locs 0 0 (MQ below (va_Qv (fun (u : Int32) => Q u) (cB (dC, dI) (kT cyB cyI cyJ cyP) A (fun u : Int32 => ((qwl a0 jif jb7 u jl9 jjY jmS jkr jif cyB jjA) : va_W))) A) args s 0 0 A) (F0 m 0 ls []) := by
  obtain ⟨hx, hb, hr, hts, hown, hlocks, hml, hA, hK, hNw⟩ := id C0
  intro n
  induction n with
  | zero => intro H locs ls jcP hP hD hS hl hw; exact False.elim hw
  | succ n ih =>
    intro H locs ls jcP hP hD hS hl hw
    refine lv_aload_n hx hb (qaa qc9 0 rfl) rfl (lv_at hl 0 rfl) ?_
    refine va_get (D := (dC, dI)) (ci := 8) (v := .int jcP) (C := RX8) (T := TX8) (N := 7) hx hb hts qtn hown hK hP 0 rfl rfl 2 (by decide) (hts _ qxV) (fun _ h9 => h9) rfl (qaa qc9 1 rfl) ?_
    refine lv_aload_n hx hb (qaa qc9 2 rfl) rfl (lv_at hl 0 rfl) ?_
    refine va_get (D := (dC, dI)) (ci := 8) (v := .int jb7) (C := RX8) (T := TX8) (N := 7) hx hb hts qtn hown hK hP 0 rfl rfl 1 (by decide) (hts _ q6Y) (fun _ h9 => h9) rfl (qaa qc9 3 rfl) ?_
    refine lv_icmp_ge (tgt := 38) hx hb (qaa qc9 4 rfl) (by decide) (fun c1 => ?_) (fun c1 => ?_)
    · have hw := hw.1 c1
      exact ((W.vret hx hb hr (fun t ht hW => ⟨⟨(jcP), rfl, hw, by rw [ht]; exact hP, va_K.moved hW.alike hK, hD⟩, hS.F ht⟩) hS.2.2 (qaa qvX 3 rfl)))
    · have hw := hw.2 c1
      refine lv_aload_n hx hb (qaa qc9 5 rfl) rfl (lv_at hl 0 rfl) ?_
      refine va_get (D := (dC, dI)) (ci := 8) (v := .ref jif) (C := RX8) (T := TX8) (N := 7) hx hb hts qtn hown hK hP 0 rfl rfl 0 (by decide) (hts _ q6P) (fun _ h9 => h9) rfl (qaa qc9 6 rfl) ?_
      refine lv_aload_n hx hb (qaa qc9 7 rfl) rfl (lv_at hl 0 rfl) ?_
      refine va_get (D := (dC, dI)) (ci := 8) (v := .int jcP) (C := RX8) (T := TX8) (N := 7) hx hb hts qtn hown hK hP 0 rfl rfl 2 (by decide) (hts _ qxV) (fun _ h9 => h9) rfl (qaa qc9 8 rfl) ?_
      obtain ⟨hi9, hw⟩ := hw
      refine va_bald hx hb hK hP 1 0 rfl rfl hi9 (qaa qc9 9 rfl) ?_
      refine lv_topi (fun x2 ex2 => ?_)
      have hw := hw x2 ex2
      refine lv_bipush (v := 32) hx hb (qaa qc9 10 rfl) (by decide) ?_
      refine lv_icmp_ne (tgt := 38) hx hb (qaa qc9 11 rfl) (by decide) (fun c3 => ?_) (fun c3 => ?_)
      · have hw := hw.1 c3
        exact ((W.vret hx hb hr (fun t ht hW => ⟨⟨(jcP), rfl, hw, by rw [ht]; exact hP, va_K.moved hW.alike hK, hD⟩, hS.F ht⟩) hS.2.2 (qaa qvX 3 rfl)))
      · have hw := hw.2 c3
        refine lv_aload_n hx hb (qaa qc9 12 rfl) rfl (lv_at hl 0 rfl) ?_
        refine lv_dup hx hb (qaa qc9 13 rfl) rfl ?_
        refine va_get (D := (dC, dI)) (ci := 8) (v := .int jcP) (C := RX8) (T := TX8) (N := 7) hx hb hts qtn hown hK hP 0 rfl rfl 2 (by decide) (hts _ qxV) (fun _ h9 => h9) rfl (qaa qc9 14 rfl) ?_
        refine lv_iconst (v := 1) hx hb (qaa qc9 15 rfl) (by decide) ?_
        refine lv_iadd hx hb (qaa qvX 0 rfl) ?_
        refine lv_topi (fun x4 ex4 => ?_)
        have hw := hw x4 ex4
        refine va_put (D := (dC, dI)) (ci := 8) (v := .int x4) (ty := .int) (C := RX8) (T := TX8) (N := 7) hx hb hts qtn tyX8 tyX8_ok nmX8 hown hK hP hD hS 0 rfl rfl 2 (by decide) (hts _ qxV) (fun _ h9 => h9) rfl (by decide +kernel) rfl rfl (nbq rfl) (qaa qvX 1 rfl) (fun H locs hP hD hS => ?_)
        have hP : va_P (dC, dI) vwCl (qwl a0 jif jb7 x4 jl9 jjY jmS jkr jif cyB jjA) H := hP
        have hD : va_D A (qwl a0 jif jb7 x4 jl9 jjY jmS jkr jif cyB jjA) := hD
        refine lv_goto (tgt := 0) hx hb (qaa qvX 2 rfl) (by decide) ?_
        exact ih _ _ _ x4 hP hD hS (lv_sub hl [0] rfl) hw
set_option maxHeartbeats 4000000 in
set_option maxRecDepth 100000 in
theorem qwA (l : Launch) (dC : Nat → ClassId) (dI : Nat → Nat → Nat) (cyB cyI cyJ cyP : ClassId) (a0 jif sz : Nat) (jl9 jjY jmS jkr : Value) (jb7 : Int32) (jjA : NI) (jcP : Int32) {Q : Int32 → Prop} (hw : qst jb7 jjA jcP Q) : Met l yX8_skipBlanks wsX8_skipBlanks ({ frames := 0, cells := 0, slots := 0, locals := 0 }) (va_Pc [.ref a0] (cPc (dC, dI) (kT cyB cyI cyJ cyP) (qwl a0 jif jb7 jcP jl9 jjY jmS jkr jif cyB jjA) sz)) (va_Qv (fun (u : Int32) => Q u) (cB (dC, dI) (kT cyB cyI cyJ cyP) (va_A (qwl a0 jif jb7 jcP jl9 jjY jmS jkr jif cyB jjA) sz) (fun u : Int32 => ((qwl a0 jif jb7 u jl9 jjY jmS jkr jif cyB jjA) : va_W))) (va_A (qwl a0 jif jb7 jcP jl9 jjY jmS jkr jif cyB jjA) sz)) 0 0 (va_A (qwl a0 jif jb7 jcP jl9 jjY jmS jkr jif cyB jjA) sz) := by
  refine Met.ofW (cc := cX8_skipBlanks) (maxL := 1) (ret := none) (by decide) rfl ?_
  intro p e s m args below meth c s₁ B hml hv
  obtain ⟨rfl, hsz, hP, hK, hD0, hNw⟩ := hv
  have hx := B.exec
  have hb := B.bytes
  have hr := B.returns
  have hts := atoms_spec (ws := wsX8_skipBlanks) B.pre
  have hown : s.vm.findClass RX8 = some m.cls := findClass_of_methodNamed B.named
  have hlocks := B.notSynchronized
  subst hsz
  have hD := hD0.self (sz := s.heap.size)
  generalize hAe : va_A (qwl a0 jif jb7 jcP jl9 jjY jmS jkr jif cyB jjA) s.heap.size = A at hD ⊢
  have hA : ∀ q : Nat, s.heap.size ≤ q → A q := fun q h => by rw [← hAe]; exact Or.inr h
  have hS : va_S A s.heap s.heap [] := va_S.rf
  have hP : va_P (dC, dI) vwCl (qwl a0 jif jb7 jcP jl9 jjY jmS jkr jif cyB jjA) s.heap := hP
  have hl := lv_entry ([.ref a0]) (n := 1) (nbq rfl)
  rw [lg_entry_eq]
  generalize (lg_sl ([.ref a0]) ++ List.replicate (1 - (lg_sl ([.ref a0])).length) Slot.unset).toArray = ls at hl ⊢
  have hl : lv_has ls 1 [(0, .ref a0)] := hl
  have C0 : cfx p s m _ meth c cX8_skipBlanks none wsX8_skipBlanks RX8 1 A (dC, dI) (kT cyB cyI cyJ cyP) := ⟨hx, hb, hr, hts, hown, hlocks, hml, hA, hK, hNw⟩
  clear hAe
  obtain ⟨H, hH⟩ : ∃ H, H = s.heap := ⟨_, rfl⟩
  rw [← hH] at hP ⊢
  have hS : va_S A s.heap H [] := by rw [hH]; exact va_S.rf
  have hS := hS
  obtain ⟨n9, hw⟩ := hw
  exact qaeF dC dI cyB cyI cyJ cyP a0 jif jl9 jjY jmS jkr jb7 jjA Q C0 n9 _ _ _ jcP hP hD hS (lv_sub hl [0] rfl) hw
theorem qZy : ∀ w ∈ u_ws RX8 TX8 7, w ∈ wsX8_isEnded := uiM qLF euX8 (by decide +kernel)
theorem qalQ : (.fieldLink RX8 28 "MarchHares$Tape" "length" "I" : Cond) ∈ wsX8_isEnded := qLF 712 (by decide +kernel)
theorem qamk : (.fieldLink RX8 31 "MarchHares$Tape" "at" "I" : Cond) ∈ wsX8_isEnded := qLF 713 (by decide +kernel)
set_option maxHeartbeats 4000000 in
set_option maxRecDepth 100000 in
theorem qN4 (l : Launch) (dC : Nat → ClassId) (dI : Nat → Nat → Nat) (cyB cyI cyJ cyP : ClassId) (a0 jif sz : Nat) (jl9 jjY jmS jkr : Value) (jb7 : Int32) (jjA : NI) (jcP : Int32) {Q : Int32 → Int32 → Prop} (hw : qzT jb7 jjA jcP Q) : Met l yX8_isEnded wsX8_isEnded ({ frames := 1, cells := 0, slots := 0, locals := 20 }) (va_Pc [.ref a0] (cPc (dC, dI) (kT cyB cyI cyJ cyP) (qwl a0 jif jb7 jcP jl9 jjY jmS jkr jif cyB jjA) sz)) (va_Qi (fun (r u : Int32) => Q r u) (cB (dC, dI) (kT cyB cyI cyJ cyP) (va_A (qwl a0 jif jb7 jcP jl9 jjY jmS jkr jif cyB jjA) sz) (fun u : Int32 => ((qwl a0 jif jb7 u jl9 jjY jmS jkr jif cyB jjA) : va_W))) (va_A (qwl a0 jif jb7 jcP jl9 jjY jmS jkr jif cyB jjA) sz)) 0 0 (va_A (qwl a0 jif jb7 jcP jl9 jjY jmS jkr jif cyB jjA) sz) := by
  refine Met.ofW (cc := cX8_isEnded) (maxL := 1) (ret := (some .boolean)) (by decide) rfl ?_
  intro p e s m args below meth c s₁ B hml hv
  obtain ⟨rfl, hsz, hP, hK, hD0, hNw⟩ := hv
  have hx := B.exec
  have hb := B.bytes
  have hr := B.returns
  have hts := atoms_spec (ws := wsX8_isEnded) B.pre
  have hown : s.vm.findClass RX8 = some m.cls := findClass_of_methodNamed B.named
  have hlocks := B.notSynchronized
  subst hsz
  have hD := hD0.self (sz := s.heap.size)
  generalize hAe : va_A (qwl a0 jif jb7 jcP jl9 jjY jmS jkr jif cyB jjA) s.heap.size = A at hD ⊢
  have hA : ∀ q : Nat, s.heap.size ≤ q → A q := fun q h => by rw [← hAe]; exact Or.inr h
  have hS : va_S A s.heap s.heap [] := va_S.rf
  have hP : va_P (dC, dI) vwCl (qwl a0 jif jb7 jcP jl9 jjY jmS jkr jif cyB jjA) s.heap := hP
  have hl := lv_entry ([.ref a0]) (n := 1) (nbq rfl)
  rw [lg_entry_eq]
  generalize (lg_sl ([.ref a0]) ++ List.replicate (1 - (lg_sl ([.ref a0])).length) Slot.unset).toArray = ls at hl ⊢
  have hl : lv_has ls 1 [(0, .ref a0)] := hl
  have C0 : cfx p s m _ meth c cX8_isEnded (some .boolean) wsX8_isEnded RX8 1 A (dC, dI) (kT cyB cyI cyJ cyP) := ⟨hx, hb, hr, hts, hown, hlocks, hml, hA, hK, hNw⟩
  clear hAe
  obtain ⟨H, hH⟩ : ∃ H, H = s.heap := ⟨_, rfl⟩
  rw [← hH] at hP ⊢
  have hS : va_S A s.heap H [] := by rw [hH]; exact va_S.rf
  have hS := hS
  refine lv_aload_n hx hb (qaa qnX 0 rfl) rfl (lv_at hl 0 rfl) ?_
  obtain ⟨hCc, hPc, hDc, hFc⟩ := qac (ws' := (qwl a0 jif jb7 jcP jl9 jjY jmS jkr jif cyB jjA)) hP hD hS hA [0, 1] (by decide +kernel) rfl
  refine va_callv (va_runV (As := []) (rest := []) ⟨hx, hb, hml, hown, hts⟩ (qwA l dC dI cyB cyI cyJ cyP a0 jif H.size (jl9) (jjY) (jmS) (jkr) jb7 jjA jcP hw) (cwV 0 hts gX8_isEnded_X8_skipBlanks rfl rfl rfl (by decide +kernel) ⟨nbq rfl, nbq rfl⟩) ⟨qab, va_recv (q := (RX8, TX8, 7)) hK hPc (ci := 8) (q0 := 0) rfl rfl, qae hPc hK hDc hNw⟩ rfl rfl hl.1 rfl (lv_room (nbq rfl)) (qaa qnX 1 rfl) ⟨nbq rfl, nbq rfl⟩) hS (fun q _ h => hFc q h) hFc (fun u t H1 locs ht hvm hw hB hz1 hk1 hS => ?_)
  obtain ⟨x1, rfl⟩ : ∃ z, z = u := ⟨_, rfl⟩
  obtain ⟨hP1, hK1, hD1⟩ := hB
  rw [ht] at hP1
  obtain ⟨hP, hD⟩ := qah (wr := []) (w1 := (qwl a0 jif jb7 x1 jl9 jjY jmS jkr jif cyB jjA)) (wn := (qwl a0 jif jb7 x1 jl9 jjY jmS jkr jif cyB jjA)) hP hD [0, 1] [] hCc rfl (by decide +kernel) (by decide +kernel) rfl hk1 hFc hP1 hD1
  generalize H1 = H at hP hS ⊢
  refine lv_aload_n hx hb (qaa qnX 2 rfl) rfl (lv_at hl 0 rfl) ?_
  refine va_get (D := (dC, dI)) (ci := 8) (v := .int x1) (C := RX8) (T := TX8) (N := 7) hx hb hts qZy hown hK hP 0 rfl rfl 2 (by decide) (hts _ qamk) (fun _ h9 => h9) rfl (qaa qnX 3 rfl) ?_
  refine lv_aload_n hx hb (qaa qnX 4 rfl) rfl (lv_at hl 0 rfl) ?_
  refine va_get (D := (dC, dI)) (ci := 8) (v := .int jb7) (C := RX8) (T := TX8) (N := 7) hx hb hts qZy hown hK hP 0 rfl rfl 1 (by decide) (hts _ qalQ) (fun _ h9 => h9) rfl (qaa qnX 5 rfl) ?_
  refine lv_icmp_lt (tgt := 19) hx hb (qaa qnX 6 rfl) (by decide) (fun c2 => ?_) (fun c2 => ?_)
  · have hw := hw.1 c2
    refine lv_iconst (v := 0) hx hb (qaa qnX 9 rfl) (by decide) ?_
    exact ((W.zret (v := 0) hx hb hr rfl (fun t ht hW => ⟨⟨0, (x1), rfl, hw, by rw [ht]; exact hP, va_K.moved hW.alike hK, hD⟩, hS.F ht⟩) hS.2.2 (qaa qnX 10 rfl)))
  · have hw := hw.2 c2
    refine lv_iconst (v := 1) hx hb (qaa qnX 7 rfl) (by decide) ?_
    refine lv_goto (tgt := 20) hx hb (qaa qnX 8 rfl) (by decide) ?_
    exact ((W.zret (v := 1) hx hb hr rfl (fun t ht hW => ⟨⟨1, (x1), rfl, hw, by rw [ht]; exact hP, va_K.moved hW.alike hK, hD⟩, hS.F ht⟩) hS.2.2 (qaa qnX 10 rfl)))
theorem qEw : ∀ w ∈ u_ws RX8 TX8 7, w ∈ wsX8_digitAt := uiM q4e euX8 (by decide +kernel)
theorem qKb : (.fieldLink RX8 11 "MarchHares$Tape" "bytes" "[B" : Cond) ∈ wsX8_digitAt := q4e 142 (by decide +kernel)
theorem qajA : (.fieldLink RX8 28 "MarchHares$Tape" "length" "I" : Cond) ∈ wsX8_digitAt := q4e 712 (by decide +kernel)
set_option maxHeartbeats 4000000 in
set_option maxRecDepth 100000 in
theorem qOg (l : Launch) (dC : Nat → ClassId) (dI : Nat → Nat → Nat) (cyB cyI cyJ cyP : ClassId) (a0 jif sz : Nat) (jby jl9 jjY jmS jkr : Value) (jb7 : Int32) (jjA : NI) (p1 : Int32) {Q : Int32 → Prop} (hw : qCW jb7 jjA p1 Q) : Met l yX8_digitAt wsX8_digitAt ({ frames := 0, cells := 0, slots := 0, locals := 0 }) (va_Pc [.ref a0, .int p1] (cPc (dC, dI) (kT cyB cyI cyJ cyP) (qabG a0 jif jb7 jby jl9 jjY jmS jkr jif cyB jjA) sz)) (va_Qi (fun (r : Int32) (_ : Unit) => Q r ) (cB (dC, dI) (kT cyB cyI cyJ cyP) (va_A (qabG a0 jif jb7 jby jl9 jjY jmS jkr jif cyB jjA) sz) (fun u : Unit => ((qabG a0 jif jb7 jby jl9 jjY jmS jkr jif cyB jjA) : va_W))) (va_A (qabG a0 jif jb7 jby jl9 jjY jmS jkr jif cyB jjA) sz)) 0 0 (va_A (qabG a0 jif jb7 jby jl9 jjY jmS jkr jif cyB jjA) sz) := by
  refine Met.ofW (cc := cX8_digitAt) (maxL := 2) (ret := (some .int)) (by decide) rfl ?_
  intro p e s m args below meth c s₁ B hml hv
  obtain ⟨rfl, hsz, hP, hK, hD0, hNw⟩ := hv
  have hx := B.exec
  have hb := B.bytes
  have hr := B.returns
  have hts := atoms_spec (ws := wsX8_digitAt) B.pre
  have hown : s.vm.findClass RX8 = some m.cls := findClass_of_methodNamed B.named
  have hlocks := B.notSynchronized
  subst hsz
  have hD := hD0.self (sz := s.heap.size)
  generalize hAe : va_A (qabG a0 jif jb7 jby jl9 jjY jmS jkr jif cyB jjA) s.heap.size = A at hD ⊢
  have hA : ∀ q : Nat, s.heap.size ≤ q → A q := fun q h => by rw [← hAe]; exact Or.inr h
  have hS : va_S A s.heap s.heap [] := va_S.rf
  have hP : va_P (dC, dI) vwCl (qabG a0 jif jb7 jby jl9 jjY jmS jkr jif cyB jjA) s.heap := hP
  have hl := lv_entry ([.ref a0, .int p1]) (n := 2) (nbq rfl)
  rw [lg_entry_eq]
  generalize (lg_sl ([.ref a0, .int p1]) ++ List.replicate (2 - (lg_sl ([.ref a0, .int p1])).length) Slot.unset).toArray = ls at hl ⊢
  have hl : lv_has ls 2 [(0, .ref a0), (1, .int p1)] := hl
  have C0 : cfx p s m _ meth c cX8_digitAt (some .int) wsX8_digitAt RX8 2 A (dC, dI) (kT cyB cyI cyJ cyP) := ⟨hx, hb, hr, hts, hown, hlocks, hml, hA, hK, hNw⟩
  clear hAe
  obtain ⟨H, hH⟩ : ∃ H, H = s.heap := ⟨_, rfl⟩
  rw [← hH] at hP ⊢
  have hS : va_S A s.heap H [] := by rw [hH]; exact va_S.rf
  have hS := hS
  refine lv_iload_n hx hb (qaa qha 0 rfl) rfl (lv_at hl 1 rfl) ?_
  refine lv_aload_n hx hb (qaa qha 1 rfl) rfl (lv_at hl 0 rfl) ?_
  refine va_get (D := (dC, dI)) (ci := 8) (v := .int jb7) (C := RX8) (T := TX8) (N := 7) hx hb hts qEw hown hK hP 0 rfl rfl 1 (by decide) (hts _ qajA) (fun _ h9 => h9) rfl (qaa qha 2 rfl) ?_
  refine lv_icmp_ge (tgt := 30) hx hb (qaa qha 3 rfl) (by decide) (fun c1 => ?_) (fun c1 => ?_)
  · have hw := hw.1 c1
    refine lv_iconst (v := (-1)) hx hb (qaa qkM 0 rfl) (by decide) ?_
    exact ((W.iret (v := (-1)) hx hb hr (fun t ht hW => ⟨⟨(-1), (), rfl, hw, by rw [ht]; exact hP, va_K.moved hW.alike hK, hD⟩, hS.F ht⟩) hS.2.2 (qaa qkM 1 rfl)))
  · have hw := hw.2 c1
    refine lv_aload_n hx hb (qaa qha 4 rfl) rfl (lv_at hl 0 rfl) ?_
    refine va_get (D := (dC, dI)) (ci := 8) (v := .ref jif) (C := RX8) (T := TX8) (N := 7) hx hb hts qEw hown hK hP 0 rfl rfl 0 (by decide) (hts _ qKb) (fun _ h9 => h9) rfl (qaa qha 5 rfl) ?_
    refine lv_iload_n hx hb (qaa qha 6 rfl) rfl (lv_at hl 1 rfl) ?_
    obtain ⟨hi9, hw⟩ := hw
    refine va_bald hx hb hK hP 1 0 rfl rfl hi9 (qaa qha 7 rfl) ?_
    refine lv_topi (fun x2 ex2 => ?_)
    have hw := hw x2 ex2
    refine lv_bipush (v := 48) hx hb (qaa qha 8 rfl) (by decide) ?_
    refine lv_icmp_lt (tgt := 30) hx hb (qaa qha 9 rfl) (by decide) (fun c3 => ?_) (fun c3 => ?_)
    · have hw := hw.1 c3
      refine lv_iconst (v := (-1)) hx hb (qaa qkM 0 rfl) (by decide) ?_
      exact ((W.iret (v := (-1)) hx hb hr (fun t ht hW => ⟨⟨(-1), (), rfl, hw, by rw [ht]; exact hP, va_K.moved hW.alike hK, hD⟩, hS.F ht⟩) hS.2.2 (qaa qkM 1 rfl)))
    · have hw := hw.2 c3
      refine lv_aload_n hx hb (qaa qha 10 rfl) rfl (lv_at hl 0 rfl) ?_
      refine va_get (D := (dC, dI)) (ci := 8) (v := .ref jif) (C := RX8) (T := TX8) (N := 7) hx hb hts qEw hown hK hP 0 rfl rfl 0 (by decide) (hts _ qKb) (fun _ h9 => h9) rfl (qaa qha 11 rfl) ?_
      refine lv_iload_n hx hb (qaa qha 12 rfl) rfl (lv_at hl 1 rfl) ?_
      obtain ⟨hi9, hw⟩ := hw
      refine va_bald hx hb hK hP 1 0 rfl rfl hi9 (qaa qha 13 rfl) ?_
      refine lv_topi (fun x4 ex4 => ?_)
      have hw := hw x4 ex4
      refine lv_bipush (v := 57) hx hb (qaa qha 14 rfl) (by decide) ?_
      refine lv_icmp_le (tgt := 32) hx hb (qaa qha 15 rfl) (by decide) (fun c5 => ?_) (fun c5 => ?_)
      · have hw := hw.1 c5
        refine lv_aload_n hx hb (qaa qkM 2 rfl) rfl (lv_at hl 0 rfl) ?_
        refine va_get (D := (dC, dI)) (ci := 8) (v := .ref jif) (C := RX8) (T := TX8) (N := 7) hx hb hts qEw hown hK hP 0 rfl rfl 0 (by decide) (hts _ qKb) (fun _ h9 => h9) rfl (qaa qkM 3 rfl) ?_
        refine lv_iload_n hx hb (qaa qkM 4 rfl) rfl (lv_at hl 1 rfl) ?_
        obtain ⟨hi9, hw⟩ := hw
        refine va_bald hx hb hK hP 1 0 rfl rfl hi9 (qaa qkM 5 rfl) ?_
        refine lv_topi (fun x6 ex6 => ?_)
        have hw := hw x6 ex6
        refine lv_bipush (v := 48) hx hb (qaa qkM 6 rfl) (by decide) ?_
        refine lv_isub hx hb (qaa qkM 7 rfl) ?_
        exact ((W.iret (v := (x6 - 48)) hx hb hr (fun t ht hW => ⟨⟨(x6 - 48), (), rfl, hw, by rw [ht]; exact hP, va_K.moved hW.alike hK, hD⟩, hS.F ht⟩) hS.2.2 (qaa qkM 8 rfl)))
      · have hw := hw.2 c5
        refine lv_iconst (v := (-1)) hx hb (qaa qkM 0 rfl) (by decide) ?_
        exact ((W.iret (v := (-1)) hx hb hr (fun t ht hW => ⟨⟨(-1), (), rfl, hw, by rw [ht]; exact hP, va_K.moved hW.alike hK, hD⟩, hS.F ht⟩) hS.2.2 (qaa qkM 1 rfl)))
theorem qT8 : ∀ w ∈ u_ws RX8 TX8 7, w ∈ wsX8_blame := uiM qalU euX8 (by decide +kernel)
theorem qaCN : (.fieldLink RX8 15 "MarchHares$Tape" "faultPlace" "I" : Cond) ∈ wsX8_blame := qalU 143 (by decide +kernel)
theorem q2B : (.fieldLink RX8 37 "MarchHares$Tape" "fault" "I" : Cond) ∈ wsX8_blame := qalU 715 (by decide +kernel)
set_option maxHeartbeats 4000000 in
set_option maxRecDepth 100000 in
theorem qXa (l : Launch) (dC : Nat → ClassId) (dI : Nat → Nat → Nat) (cyB cyI cyJ cyP : ClassId) (a0 sz : Nat) (jn7 jjf jby jl9 jjY : Value) (jkC jj3 p1 p2 : Int32) {Q : Int32 → Int32 → Prop} (hw : qJ5 jkC jj3 p1 p2 Q) : Met l yX8_blame wsX8_blame ({ frames := 0, cells := 0, slots := 0, locals := 0 }) (va_Pc [.ref a0, .int p1, .int p2] (cPc (dC, dI) (kT cyB cyI cyJ cyP) (qPr a0 jn7 jjf jby jl9 jjY jkC jj3) sz)) (va_Qv (fun (u : Int32 × Int32) => Q u.1 u.2) (cB (dC, dI) (kT cyB cyI cyJ cyP) (va_A (qPr a0 jn7 jjf jby jl9 jjY jkC jj3) sz) (fun u : Int32 × Int32 => ((qPr a0 jn7 jjf jby jl9 jjY u.1 u.2) : va_W))) (va_A (qPr a0 jn7 jjf jby jl9 jjY jkC jj3) sz)) 0 0 (va_A (qPr a0 jn7 jjf jby jl9 jjY jkC jj3) sz) := by
  refine Met.ofW (cc := cX8_blame) (maxL := 3) (ret := none) (by decide) rfl ?_
  intro p e s m args below meth c s₁ B hml hv
  obtain ⟨rfl, hsz, hP, hK, hD0, hNw⟩ := hv
  have hx := B.exec
  have hb := B.bytes
  have hr := B.returns
  have hts := atoms_spec (ws := wsX8_blame) B.pre
  have hown : s.vm.findClass RX8 = some m.cls := findClass_of_methodNamed B.named
  have hlocks := B.notSynchronized
  subst hsz
  have hD := hD0.self (sz := s.heap.size)
  generalize hAe : va_A (qPr a0 jn7 jjf jby jl9 jjY jkC jj3) s.heap.size = A at hD ⊢
  have hA : ∀ q : Nat, s.heap.size ≤ q → A q := fun q h => by rw [← hAe]; exact Or.inr h
  have hS : va_S A s.heap s.heap [] := va_S.rf
  have hP : va_P (dC, dI) vwCl (qPr a0 jn7 jjf jby jl9 jjY jkC jj3) s.heap := hP
  have hl := lv_entry ([.ref a0, .int p1, .int p2]) (n := 3) (nbq rfl)
  rw [lg_entry_eq]
  generalize (lg_sl ([.ref a0, .int p1, .int p2]) ++ List.replicate (3 - (lg_sl ([.ref a0, .int p1, .int p2])).length) Slot.unset).toArray = ls at hl ⊢
  have hl : lv_has ls 3 [(0, .ref a0), (1, .int p1), (2, .int p2)] := hl
  have C0 : cfx p s m _ meth c cX8_blame none wsX8_blame RX8 3 A (dC, dI) (kT cyB cyI cyJ cyP) := ⟨hx, hb, hr, hts, hown, hlocks, hml, hA, hK, hNw⟩
  clear hAe
  obtain ⟨H, hH⟩ : ∃ H, H = s.heap := ⟨_, rfl⟩
  rw [← hH] at hP ⊢
  have hS : va_S A s.heap H [] := by rw [hH]; exact va_S.rf
  have hS := hS
  refine lv_aload_n hx hb (qaa qse 0 rfl) rfl (lv_at hl 0 rfl) ?_
  refine va_get (D := (dC, dI)) (ci := 8) (v := .int jkC) (C := RX8) (T := TX8) (N := 7) hx hb hts qT8 hown hK hP 0 rfl rfl 5 (by decide) (hts _ q2B) (fun _ h9 => h9) rfl (qaa qse 1 rfl) ?_
  refine lv_if_ne (tgt := 17) hx hb (qaa qse 2 rfl) (by decide) (fun c1 => ?_) (fun c1 => ?_)
  · have hw := hw.1 c1
    exact ((W.vret hx hb hr (fun t ht hW => ⟨⟨(jkC, jj3), rfl, hw, by rw [ht]; exact hP, va_K.moved hW.alike hK, hD⟩, hS.F ht⟩) hS.2.2 (qaa qse 9 rfl)))
  · have hw := hw.2 c1
    refine lv_aload_n hx hb (qaa qse 3 rfl) rfl (lv_at hl 0 rfl) ?_
    refine lv_iload_n hx hb (qaa qse 4 rfl) rfl (lv_at hl 1 rfl) ?_
    refine va_put (D := (dC, dI)) (ci := 8) (v := .int p1) (ty := .int) (C := RX8) (T := TX8) (N := 7) hx hb hts qT8 tyX8 tyX8_ok nmX8 hown hK hP hD hS 0 rfl rfl 5 (by decide) (hts _ q2B) (fun _ h9 => h9) rfl (by decide +kernel) rfl rfl (nbq rfl) (qaa qse 5 rfl) (fun H locs hP hD hS => ?_)
    have hP : va_P (dC, dI) vwCl (qPr a0 jn7 jjf jby jl9 jjY p1 jj3) H := hP
    have hD : va_D A (qPr a0 jn7 jjf jby jl9 jjY p1 jj3) := hD
    refine lv_aload_n hx hb (qaa qse 6 rfl) rfl (lv_at hl 0 rfl) ?_
    refine lv_iload_n hx hb (qaa qse 7 rfl) rfl (lv_at hl 2 rfl) ?_
    refine va_put (D := (dC, dI)) (ci := 8) (v := .int p2) (ty := .int) (C := RX8) (T := TX8) (N := 7) hx hb hts qT8 tyX8 tyX8_ok nmX8 hown hK hP hD hS 0 rfl rfl 6 (by decide) (hts _ qaCN) (fun _ h9 => h9) rfl (by decide +kernel) rfl rfl (nbq rfl) (qaa qse 8 rfl) (fun H locs hP hD hS => ?_)
    have hP : va_P (dC, dI) vwCl (qPr a0 jn7 jjf jby jl9 jjY p1 p2) H := hP
    have hD : va_D A (qPr a0 jn7 jjf jby jl9 jjY p1 p2) := hD
    exact ((W.vret hx hb hr (fun t ht hW => ⟨⟨(p1, p2), rfl, hw, by rw [ht]; exact hP, va_K.moved hW.alike hK, hD⟩, hS.F ht⟩) hS.2.2 (qaa qse 9 rfl)))
theorem qpk : ∀ w ∈ u_ws RX8 TX8 7, w ∈ wsX8_number := uiM qm9 euX8 (by decide +kernel)
theorem qapY : (.fieldLink RX8 28 "MarchHares$Tape" "length" "I" : Cond) ∈ wsX8_number := qm9 712 (by decide +kernel)
theorem qsx : (.fieldLink RX8 31 "MarchHares$Tape" "at" "I" : Cond) ∈ wsX8_number := qm9 713 (by decide +kernel)
theorem qZA : (.fieldLink RX8 34 "MarchHares$Tape" "token" "I" : Cond) ∈ wsX8_number := qm9 714 (by decide +kernel)
theorem q6U : (.initialized RX10 : Cond) ∈ wsX8_number := qm9 2 (by decide +kernel)
theorem qajH : (.initialized "java/lang/Math" : Cond) ∈ wsX8_number := qm9 651 (by decide +kernel)
theorem qapw : (.constant RX8 78 (100000) : Cond) ∈ wsX8_number := qm9 973 (by decide +kernel)
theorem qauM : (.methodLink RX8 22 Lib.Math.min.name : Cond) ∈ wsX8_number := qm9 711 (by decide +kernel)
theorem qahu : (.code Lib.Math.min.name Lib.Math.min.code 2 (some .int) : Cond) ∈ wsX8_number := qm9 652 (by decide +kernel)
theorem qacY : (.static Lib.Math.min.name : Cond) ∈ wsX8_number := qm9 650 (by decide +kernel)
theorem qUb : (.static yX10_within : Cond) ∈ wsX8_number := qm9 658 (by decide +kernel)
set_option maxHeartbeats 4000000 in
set_option maxRecDepth 100000 in
theorem q2H {p : Program} {l : Launch} {e : Env} {s : State} {m : MethodId} {args : Array Value} {below : List Frame} {meth : Method} {c : Code} {A : Nat → Prop} (dC : Nat → ClassId) (dI : Nat → Nat → Nat) (cyB cyI cyJ cyP : ClassId) (a0 jif : Nat) (jjY : Value) (jb7 : Int32) (jjA : NI) (Q : Int32 → Int32 → Int32 → Int32 → Int32 → Prop) (C0 : cfx p s m args meth c cX8_number (some .int) wsX8_number RX8 4 A (dC, dI) (kT cyB cyI cyJ cyP)) : ∀ (H : Heap) (locs : List Loc) (ls : Array Slot) (jcP jkC jj3 jlr l1 l2 l3 : Int32), va_P (dC, dI) vwCl (qdK a0 jif jb7 jcP jlr jjY jkC jj3 jif cyB jjA) H → va_D A (qdK a0 jif jb7 jcP jlr jjY jkC jj3 jif cyB jjA) → va_S A s.heap H locs → lv_has ls 4 [(0, .ref a0), (1, .int l1), (2, .int l2), (3, .int l3)] → qBs jb7 jjA Q jcP jkC jj3 jlr l1 l2 l3 → W p l e (headSpec wsX8_number ({ frames := 1, cells := 0, slots := 0, locals := 32 })).room s m args below meth c H locs 0 0 (MQ below (va_Qi (fun (r : Int32) (u : Int32 × Int32 × Int32 × Int32) => Q r u.1 u.2.1 u.2.2.1 u.2.2.2) (cB (dC, dI) (kT cyB cyI cyJ cyP) A (fun u : Int32 × Int32 × Int32 × Int32 => ((qdK a0 jif jb7 u.1 u.2.2.2 jjY u.2.1 u.2.2.1 jif cyB jjA) : va_W))) A) args s 0 0 A) (F0 m 97 ls []) := by
  obtain ⟨hx, hb, hr, hts, hown, hlocks, hml, hA, hK, hNw⟩ := id C0
  intro H locs ls jcP jkC jj3 jlr l1 l2 l3 hP hD hS hl hw
  refine lv_iload_n hx hb (qaa qgf 3 rfl) rfl (lv_at hl 3 rfl) ?_
  refine lv_iload_n hx hb (qaa qgf 4 rfl) rfl (lv_at hl 1 rfl) ?_
  refine lv_iload_n hx hb (qaa qgf 5 rfl) rfl (lv_at hl 2 rfl) ?_
  obtain ⟨hCc, hPc, hDc, hFc⟩ := qac (ws' := []) hP hD hS hA [] (by decide +kernel) rfl
  refine va_calli (va_runSN (As := [.int l3, .int l1, .int l2]) (rest := []) ⟨hx, hb, hml, hown, hts⟩ (qzJ l dC dI cyB cyI cyJ cyP H.size l3 l1 l2 hw) ⟨(va_cnB 3 hts gX8_number_X10_within_n79 rfl rfl rfl (qbmC hNw) (hts _ q6U) (by decide +kernel) ⟨nbq rfl, nbq rfl⟩), (hts _ qUb), trivial⟩ ⟨qab, qae hPc hK hDc hNw⟩ rfl rfl hl.1 rfl (lv_room (nbq rfl)) (qaa qgf 6 rfl) ⟨nbq rfl, nbq rfl⟩) hS (fun q _ h => hFc q h) hFc (fun r14 u t H1 locs ht hvm hw hB hz1 hk1 hS => ?_)
  obtain ⟨hP1, hK1, hD1⟩ := hB
  rw [ht] at hP1
  obtain ⟨hP, hD⟩ := qah (wr := (qdK a0 jif jb7 jcP jlr jjY jkC jj3 jif cyB jjA)) (w1 := []) (wn := (qdK a0 jif jb7 jcP jlr jjY jkC jj3 jif cyB jjA)) hP hD [] [0, 1] hCc rfl (by decide +kernel) (by decide +kernel) rfl hk1 hFc hP1 hD1
  generalize H1 = H at hP hS ⊢
  refine lv_if_ne (tgt := 115) hx hb (qaa qgf 7 rfl) (by decide) (fun c15 => ?_) (fun c15 => ?_)
  · have hw := hw.1 c15
    refine lv_iload_n hx hb (qaa qgf 13 rfl) rfl (lv_at hl 3 rfl) ?_
    exact ((W.iret (v := l3) hx hb hr (fun t ht hW => ⟨⟨l3, (jcP, jkC, jj3, jlr), rfl, hw, by rw [ht]; exact hP, va_K.moved hW.alike hK, hD⟩, hS.F ht⟩) hS.2.2 (qaa qgf 14 rfl)))
  · have hw := hw.2 c15
    refine lv_aload_n hx hb (qaa qgf 8 rfl) rfl (lv_at hl 0 rfl) ?_
    refine lv_iconst (v := 2) hx hb (qaa qgf 9 rfl) (by decide) ?_
    refine lv_aload_n hx hb (qaa qgf 10 rfl) rfl (lv_at hl 0 rfl) ?_
    refine va_get (D := (dC, dI)) (ci := 8) (v := .int jlr) (C := RX8) (T := TX8) (N := 7) hx hb hts qpk hown hK hP 0 rfl rfl 3 (by decide) (hts _ qZA) (fun _ h9 => h9) rfl (qaa qgf 11 rfl) ?_
    obtain ⟨hCc, hPc, hDc, hFc⟩ := qac (ws' := (qM7 a0 jif jb7 jcP jlr jjY jkC jj3)) hP hD hS hA [0] (by decide +kernel) rfl
    refine va_callv (va_runV (As := [.int 2, .int jlr]) (rest := []) ⟨hx, hb, hml, hown, hts⟩ (qXa l dC dI cyB cyI cyJ cyP a0 H.size (.ref jif) (.int jb7) (.int jcP) (.int jlr) (jjY) jkC jj3 2 jlr hw) (cwV 2 hts gX8_number_X8_blame rfl rfl rfl (by decide +kernel) ⟨nbq rfl, nbq rfl⟩) ⟨qab, va_recv (q := (RX8, TX8, 7)) hK hPc (ci := 8) (q0 := 0) rfl rfl, qae hPc hK hDc hNw⟩ rfl rfl hl.1 rfl (lv_room (nbq rfl)) (qaa qgf 12 rfl) ⟨nbq rfl, nbq rfl⟩) hS (fun q _ h => hFc q h) hFc (fun u t H1 locs ht hvm hw hB hz1 hk1 hS => ?_)
    obtain ⟨x16, x17⟩ := u
    obtain ⟨hP1, hK1, hD1⟩ := hB
    rw [ht] at hP1
    obtain ⟨hP, hD⟩ := qad (wr := (qaxB jif cyB jjA)) (w1 := (qM7 a0 jif jb7 jcP jlr jjY x16 x17)) (wn := (qdK a0 jif jb7 jcP jlr jjY x16 x17 jif cyB jjA)) hP hD [0] [1] [1, 0] hCc rfl (by decide +kernel) (by decide +kernel) (by decide +kernel) rfl hk1 hFc hP1 hD1
    generalize H1 = H at hP hS ⊢
    refine lv_iload_n hx hb (qaa qgf 13 rfl) rfl (lv_at hl 3 rfl) ?_
    exact ((W.iret (v := l3) hx hb hr (fun t ht hW => ⟨⟨l3, (jcP, x16, x17, jlr), rfl, hw, by rw [ht]; exact hP, va_K.moved hW.alike hK, hD⟩, hS.F ht⟩) hS.2.2 (qaa qgf 14 rfl)))
set_option maxHeartbeats 4000000 in
set_option maxRecDepth 100000 in
theorem qavI {p : Program} {l : Launch} {e : Env} {s : State} {m : MethodId} {args : Array Value} {below : List Frame} {meth : Method} {c : Code} {A : Nat → Prop} (dC : Nat → ClassId) (dI : Nat → Nat → Nat) (cyB cyI cyJ cyP : ClassId) (a0 jif : Nat) (jjY : Value) (jb7 : Int32) (jjA : NI) (Q : Int32 → Int32 → Int32 → Int32 → Int32 → Prop) (C0 : cfx p s m args meth c cX8_number (some .int) wsX8_number RX8 4 A (dC, dI) (kT cyB cyI cyJ cyP)) : ∀ (n : Nat) (H : Heap) (locs : List Loc) (ls : Array Slot) (jcP jkC jj3 jlr l1 l2 l3 : Int32), va_P (dC, dI) vwCl (qdK a0 jif jb7 jcP jlr jjY jkC jj3 jif cyB jjA) H → va_D A (qdK a0 jif jb7 jcP jlr jjY jkC jj3 jif cyB jjA) → va_S A s.heap H locs → lv_has ls 4 [(0, .ref a0), (1, .int l1), (2, .int l2), (3, .int l3)] → qIN jb7 jjA Q n jcP jkC jj3 jlr l1 l2 l3 → W p l e (headSpec wsX8_number ({ frames := 1, cells := 0, slots := 0, locals := 32 })).room s m args below meth c H locs 0 0 (MQ below (va_Qi (fun (r : Int32) (u : Int32 × Int32 × Int32 × Int32) => Q r u.1 u.2.1 u.2.2.1 u.2.2.2) (cB (dC, dI) (kT cyB cyI cyJ cyP) A (fun u : Int32 × Int32 × Int32 × Int32 => ((qdK a0 jif jb7 u.1 u.2.2.2 jjY u.2.1 u.2.2.1 jif cyB jjA) : va_W))) A) args s 0 0 A) (F0 m 43 ls []) := by
  obtain ⟨hx, hb, hr, hts, hown, hlocks, hml, hA, hK, hNw⟩ := id C0
  intro n
  induction n with
  | zero => intro H locs ls jcP jkC jj3 jlr l1 l2 l3 hP hD hS hl hw; exact False.elim hw
  | succ n ih =>
    intro H locs ls jcP jkC jj3 jlr l1 l2 l3 hP hD hS hl hw
    refine lv_aload_n hx hb (qaa qhO 7 rfl) rfl (lv_at hl 0 rfl) ?_
    refine va_get (D := (dC, dI)) (ci := 8) (v := .int jcP) (C := RX8) (T := TX8) (N := 7) hx hb hts qpk hown hK hP 0 rfl rfl 2 (by decide) (hts _ qsx) (fun _ h9 => h9) rfl (qaa qhO 8 rfl) ?_
    refine lv_aload_n hx hb (qaa qhO 9 rfl) rfl (lv_at hl 0 rfl) ?_
    refine va_get (D := (dC, dI)) (ci := 8) (v := .int jb7) (C := RX8) (T := TX8) (N := 7) hx hb hts qpk hown hK hP 0 rfl rfl 1 (by decide) (hts _ qapY) (fun _ h9 => h9) rfl (qaa qhO 10 rfl) ?_
    refine lv_icmp_ge (tgt := 97) hx hb (qaa qhO 11 rfl) (by decide) (fun c8 => ?_) (fun c8 => ?_)
    · have hw := hw.1 c8
      exact q2H dC dI cyB cyI cyJ cyP a0 jif jjY jb7 jjA Q C0 _ _ _ jcP jkC jj3 jlr l1 l2 l3 hP hD hS (lv_sub hl [0, 1, 2, 3] rfl) hw
    · have hw := hw.2 c8
      refine lv_aload_n hx hb (qaa qhO 12 rfl) rfl (lv_at hl 0 rfl) ?_
      refine lv_aload_n hx hb (qaa qhO 13 rfl) rfl (lv_at hl 0 rfl) ?_
      refine va_get (D := (dC, dI)) (ci := 8) (v := .int jcP) (C := RX8) (T := TX8) (N := 7) hx hb hts qpk hown hK hP 0 rfl rfl 2 (by decide) (hts _ qsx) (fun _ h9 => h9) rfl (qaa qhO 14 rfl) ?_
      obtain ⟨hCc, hPc, hDc, hFc⟩ := qac (ws' := (qdK a0 jif jb7 jcP jlr jjY jkC jj3 jif cyB jjA)) hP hD hS hA [0, 1] (by decide +kernel) rfl
      refine va_calli (va_runV (As := [.int jcP]) (rest := []) ⟨hx, hb, hml, hown, hts⟩ (qOg l dC dI cyB cyI cyJ cyP a0 jif H.size (.int jcP) (.int jlr) (jjY) (.int jkC) (.int jj3) jb7 jjA jcP hw) (cwV 1 hts gX8_number_X8_digitAt rfl rfl rfl (by decide +kernel) ⟨nbq rfl, nbq rfl⟩) ⟨qab, va_recv (q := (RX8, TX8, 7)) hK hPc (ci := 8) (q0 := 0) rfl rfl, qae hPc hK hDc hNw⟩ rfl rfl hl.1 rfl (lv_room (nbq rfl)) (qaa qhO 15 rfl) ⟨nbq rfl, nbq rfl⟩) hS (fun q _ h => hFc q h) hFc (fun r9 u t H1 locs ht hvm hw hB hz1 hk1 hS => ?_)
      obtain ⟨hP1, hK1, hD1⟩ := hB
      rw [ht] at hP1
      obtain ⟨hP, hD⟩ := qah (wr := []) (w1 := (qdK a0 jif jb7 jcP jlr jjY jkC jj3 jif cyB jjA)) (wn := (qdK a0 jif jb7 jcP jlr jjY jkC jj3 jif cyB jjA)) hP hD [0, 1] [] hCc rfl (by decide +kernel) (by decide +kernel) rfl hk1 hFc hP1 hD1
      generalize H1 = H at hP hS ⊢
      refine lv_if_lt (tgt := 97) hx hb (qaa qhr 0 rfl) (by decide) (fun c10 => ?_) (fun c10 => ?_)
      · have hw := hw.1 c10
        exact q2H dC dI cyB cyI cyJ cyP a0 jif jjY jb7 jjA Q C0 _ _ _ jcP jkC jj3 jlr l1 l2 l3 hP hD hS (lv_sub hl [0, 1, 2, 3] rfl) hw
      · have hw := hw.2 c10
        refine lv_ldc (v := 100000) hx hb hown (hts _ qapw) (qaa qhr 1 rfl) ?_
        refine lv_iload_n hx hb (qaa qhr 2 rfl) rfl (lv_at hl 3 rfl) ?_
        refine lv_bipush (v := 10) hx hb (qaa qhr 3 rfl) (by decide) ?_
        refine lv_imul hx hb (qaa qhr 4 rfl) ?_
        refine lv_aload_n hx hb (qaa qhr 5 rfl) rfl (lv_at hl 0 rfl) ?_
        refine lv_aload_n hx hb (qaa qhr 6 rfl) rfl (lv_at hl 0 rfl) ?_
        refine va_get (D := (dC, dI)) (ci := 8) (v := .int jcP) (C := RX8) (T := TX8) (N := 7) hx hb hts qpk hown hK hP 0 rfl rfl 2 (by decide) (hts _ qsx) (fun _ h9 => h9) rfl (qaa qhr 7 rfl) ?_
        obtain ⟨hCc, hPc, hDc, hFc⟩ := qac (ws' := (qdK a0 jif jb7 jcP jlr jjY jkC jj3 jif cyB jjA)) hP hD hS hA [0, 1] (by decide +kernel) rfl
        refine va_calli (va_runV (As := [.int jcP]) (rest := [.int (l3 * 10), .int 100000]) ⟨hx, hb, hml, hown, hts⟩ (qOg l dC dI cyB cyI cyJ cyP a0 jif H.size (.int jcP) (.int jlr) (jjY) (.int jkC) (.int jj3) jb7 jjA jcP hw) (cwV 1 hts gX8_number_X8_digitAt rfl rfl rfl (by decide +kernel) ⟨nbq rfl, nbq rfl⟩) ⟨qab, va_recv (q := (RX8, TX8, 7)) hK hPc (ci := 8) (q0 := 0) rfl rfl, qae hPc hK hDc hNw⟩ rfl rfl hl.1 rfl (lv_room (nbq rfl)) (qaa qhr 8 rfl) ⟨nbq rfl, nbq rfl⟩) hS (fun q _ h => hFc q h) hFc (fun r11 u t H1 locs ht hvm hw hB hz1 hk1 hS => ?_)
        obtain ⟨hP1, hK1, hD1⟩ := hB
        rw [ht] at hP1
        obtain ⟨hP, hD⟩ := qah (wr := []) (w1 := (qdK a0 jif jb7 jcP jlr jjY jkC jj3 jif cyB jjA)) (wn := (qdK a0 jif jb7 jcP jlr jjY jkC jj3 jif cyB jjA)) hP hD [0, 1] [] hCc rfl (by decide +kernel) (by decide +kernel) rfl hk1 hFc hP1 hD1
        generalize H1 = H at hP hS ⊢
        refine lv_iadd hx hb (qaa qhr 9 rfl) ?_
        refine va_mmin hx hb (by rw [hml]; exact hl.1.symm) hown (hts _ qauM) (hts _ qacY) (hts _ qajH) (hts _ qahu) (nbq rfl) (nbq rfl) (nbq rfl) (nbq rfl) (qaa qhr 10 rfl) ?_
        refine lv_topi (fun x12 ex12 => ?_)
        have hw := hw x12 ex12
        refine lv_istore_n (lv' := [(3, .int x12), (0, .ref a0), (1, .int l1), (2, .int l2)]) hx hb (qaa qhr 11 rfl) rfl hl (by decide) rfl (fun ls hl => ?_)
        refine lv_aload_n hx hb (qaa qhr 12 rfl) rfl (lv_at hl 1 rfl) ?_
        refine lv_dup hx hb (qaa qhr 13 rfl) rfl ?_
        refine va_get (D := (dC, dI)) (ci := 8) (v := .int jcP) (C := RX8) (T := TX8) (N := 7) hx hb hts qpk hown hK hP 0 rfl rfl 2 (by decide) (hts _ qsx) (fun _ h9 => h9) rfl (qaa qhr 14 rfl) ?_
        refine lv_iconst (v := 1) hx hb (qaa qhr 15 rfl) (by decide) ?_
        refine lv_iadd hx hb (qaa qgf 0 rfl) ?_
        refine lv_topi (fun x13 ex13 => ?_)
        have hw := hw x13 ex13
        refine va_put (D := (dC, dI)) (ci := 8) (v := .int x13) (ty := .int) (C := RX8) (T := TX8) (N := 7) hx hb hts qpk tyX8 tyX8_ok nmX8 hown hK hP hD hS 0 rfl rfl 2 (by decide) (hts _ qsx) (fun _ h9 => h9) rfl (by decide +kernel) rfl rfl (nbq rfl) (qaa qgf 1 rfl) (fun H locs hP hD hS => ?_)
        have hP : va_P (dC, dI) vwCl (qdK a0 jif jb7 x13 jlr jjY jkC jj3 jif cyB jjA) H := hP
        have hD : va_D A (qdK a0 jif jb7 x13 jlr jjY jkC jj3 jif cyB jjA) := hD
        refine lv_goto (tgt := 43) hx hb (qaa qgf 2 rfl) (by decide) ?_
        exact ih _ _ _ x13 jkC jj3 jlr l1 l2 x12 hP hD hS (lv_sub hl [1, 2, 3, 0] rfl) hw
set_option maxHeartbeats 4000000 in
set_option maxRecDepth 100000 in
theorem q3Y {p : Program} {l : Launch} {e : Env} {s : State} {m : MethodId} {args : Array Value} {below : List Frame} {meth : Method} {c : Code} {A : Nat → Prop} (dC : Nat → ClassId) (dI : Nat → Nat → Nat) (cyB cyI cyJ cyP : ClassId) (a0 jif : Nat) (jjY : Value) (jb7 : Int32) (jjA : NI) (Q : Int32 → Int32 → Int32 → Int32 → Int32 → Prop) (C0 : cfx p s m args meth c cX8_number (some .int) wsX8_number RX8 4 A (dC, dI) (kT cyB cyI cyJ cyP)) : ∀ (H : Heap) (locs : List Loc) (ls : Array Slot) (jcP jkC jj3 jlr l1 l2 : Int32), va_P (dC, dI) vwCl (qdK a0 jif jb7 jcP jlr jjY jkC jj3 jif cyB jjA) H → va_D A (qdK a0 jif jb7 jcP jlr jjY jkC jj3 jif cyB jjA) → va_S A s.heap H locs → lv_has ls 4 [(0, .ref a0), (1, .int l1), (2, .int l2)] → qQP jb7 jjA Q jcP jkC jj3 jlr l1 l2 → W p l e (headSpec wsX8_number ({ frames := 1, cells := 0, slots := 0, locals := 32 })).room s m args below meth c H locs 0 0 (MQ below (va_Qi (fun (r : Int32) (u : Int32 × Int32 × Int32 × Int32) => Q r u.1 u.2.1 u.2.2.1 u.2.2.2) (cB (dC, dI) (kT cyB cyI cyJ cyP) A (fun u : Int32 × Int32 × Int32 × Int32 => ((qdK a0 jif jb7 u.1 u.2.2.2 jjY u.2.1 u.2.2.1 jif cyB jjA) : va_W))) A) args s 0 0 A) (F0 m 24 ls []) := by
  obtain ⟨hx, hb, hr, hts, hown, hlocks, hml, hA, hK, hNw⟩ := id C0
  intro H locs ls jcP jkC jj3 jlr l1 l2 hP hD hS hl hw
  refine lv_aload_n hx hb (qaa qjE 12 rfl) rfl (lv_at hl 0 rfl) ?_
  obtain ⟨hCc, hPc, hDc, hFc⟩ := qac (ws' := (qM7 a0 jif jb7 jcP jlr jjY jkC jj3)) hP hD hS hA [0] (by decide +kernel) rfl
  refine va_calli (va_runV (As := []) (rest := []) ⟨hx, hb, hml, hown, hts⟩ (qjR l dC dI cyB cyI cyJ cyP a0 H.size (.ref jif) (.int jb7) (.int jcP) (.int jlr) (jjY) (.int jj3) jkC hw) (cwV 0 hts gX8_number_X8_isFaulty rfl rfl rfl (by decide +kernel) ⟨nbq rfl, nbq rfl⟩) ⟨qab, va_recv (q := (RX8, TX8, 7)) hK hPc (ci := 8) (q0 := 0) rfl rfl, qae hPc hK hDc hNw⟩ rfl rfl hl.1 rfl (lv_room (nbq rfl)) (qaa qjE 13 rfl) ⟨nbq rfl, nbq rfl⟩) hS (fun q _ h => hFc q h) hFc (fun r6 u t H1 locs ht hvm hw hB hz1 hk1 hS => ?_)
  obtain ⟨hP1, hK1, hD1⟩ := hB
  rw [ht] at hP1
  obtain ⟨hP, hD⟩ := qad (wr := (qaxB jif cyB jjA)) (w1 := (qM7 a0 jif jb7 jcP jlr jjY jkC jj3)) (wn := (qdK a0 jif jb7 jcP jlr jjY jkC jj3 jif cyB jjA)) hP hD [0] [1] [1, 0] hCc rfl (by decide +kernel) (by decide +kernel) (by decide +kernel) rfl hk1 hFc hP1 hD1
  generalize H1 = H at hP hS ⊢
  refine lv_if_eq (tgt := 33) hx hb (qaa qjE 14 rfl) (by decide) (fun c7 => ?_) (fun c7 => ?_)
  · have hw := hw.1 c7
    refine lv_aload_n hx hb (qaa qhO 1 rfl) rfl (lv_at hl 0 rfl) ?_
    refine lv_aload_n hx hb (qaa qhO 2 rfl) rfl (lv_at hl 0 rfl) ?_
    refine va_get (D := (dC, dI)) (ci := 8) (v := .int jcP) (C := RX8) (T := TX8) (N := 7) hx hb hts qpk hown hK hP 0 rfl rfl 2 (by decide) (hts _ qsx) (fun _ h9 => h9) rfl (qaa qhO 3 rfl) ?_
    refine va_put (D := (dC, dI)) (ci := 8) (v := .int jcP) (ty := .int) (C := RX8) (T := TX8) (N := 7) hx hb hts qpk tyX8 tyX8_ok nmX8 hown hK hP hD hS 0 rfl rfl 3 (by decide) (hts _ qZA) (fun _ h9 => h9) rfl (by decide +kernel) rfl rfl (nbq rfl) (qaa qhO 4 rfl) (fun H locs hP hD hS => ?_)
    have hP : va_P (dC, dI) vwCl (qdK a0 jif jb7 jcP jcP jjY jkC jj3 jif cyB jjA) H := hP
    have hD : va_D A (qdK a0 jif jb7 jcP jcP jjY jkC jj3 jif cyB jjA) := hD
    refine lv_iconst (v := 0) hx hb (qaa qhO 5 rfl) (by decide) ?_
    refine lv_istore_n (lv' := [(3, .int 0), (0, .ref a0), (1, .int l1), (2, .int l2)]) hx hb (qaa qhO 6 rfl) rfl hl (by decide) rfl (fun ls hl => ?_)
    obtain ⟨n9, hw⟩ := hw
    exact qavI dC dI cyB cyI cyJ cyP a0 jif jjY jb7 jjA Q C0 n9 _ _ _ jcP jkC jj3 jcP l1 l2 0 hP hD hS (lv_sub hl [1, 2, 3, 0] rfl) hw
  · have hw := hw.2 c7
    refine lv_iconst (v := 0) hx hb (qaa qjE 15 rfl) (by decide) ?_
    exact ((W.iret (v := 0) hx hb hr (fun t ht hW => ⟨⟨0, (jcP, jkC, jj3, jlr), rfl, hw, by rw [ht]; exact hP, va_K.moved hW.alike hK, hD⟩, hS.F ht⟩) hS.2.2 (qaa qhO 0 rfl)))
set_option maxHeartbeats 4000000 in
set_option maxRecDepth 100000 in
theorem qia (l : Launch) (dC : Nat → ClassId) (dI : Nat → Nat → Nat) (cyB cyI cyJ cyP : ClassId) (a0 jif sz : Nat) (jjY : Value) (jb7 : Int32) (jjA : NI) (jcP jkC jj3 jlr p1 p2 : Int32) {Q : Int32 → Int32 → Int32 → Int32 → Int32 → Prop} (hw : qe0 jb7 jjA jcP jkC jj3 jlr p1 p2 Q) : Met l yX8_number wsX8_number ({ frames := 1, cells := 0, slots := 0, locals := 32 }) (va_Pc [.ref a0, .int p1, .int p2] (cPc (dC, dI) (kT cyB cyI cyJ cyP) (qdK a0 jif jb7 jcP jlr jjY jkC jj3 jif cyB jjA) sz)) (va_Qi (fun (r : Int32) (u : Int32 × Int32 × Int32 × Int32) => Q r u.1 u.2.1 u.2.2.1 u.2.2.2) (cB (dC, dI) (kT cyB cyI cyJ cyP) (va_A (qdK a0 jif jb7 jcP jlr jjY jkC jj3 jif cyB jjA) sz) (fun u : Int32 × Int32 × Int32 × Int32 => ((qdK a0 jif jb7 u.1 u.2.2.2 jjY u.2.1 u.2.2.1 jif cyB jjA) : va_W))) (va_A (qdK a0 jif jb7 jcP jlr jjY jkC jj3 jif cyB jjA) sz)) 0 0 (va_A (qdK a0 jif jb7 jcP jlr jjY jkC jj3 jif cyB jjA) sz) := by
  refine Met.ofW (cc := cX8_number) (maxL := 4) (ret := (some .int)) (by decide) rfl ?_
  intro p e s m args below meth c s₁ B hml hv
  obtain ⟨rfl, hsz, hP, hK, hD0, hNw⟩ := hv
  have hx := B.exec
  have hb := B.bytes
  have hr := B.returns
  have hts := atoms_spec (ws := wsX8_number) B.pre
  have hown : s.vm.findClass RX8 = some m.cls := findClass_of_methodNamed B.named
  have hlocks := B.notSynchronized
  subst hsz
  have hD := hD0.self (sz := s.heap.size)
  generalize hAe : va_A (qdK a0 jif jb7 jcP jlr jjY jkC jj3 jif cyB jjA) s.heap.size = A at hD ⊢
  have hA : ∀ q : Nat, s.heap.size ≤ q → A q := fun q h => by rw [← hAe]; exact Or.inr h
  have hS : va_S A s.heap s.heap [] := va_S.rf
  have hP : va_P (dC, dI) vwCl (qdK a0 jif jb7 jcP jlr jjY jkC jj3 jif cyB jjA) s.heap := hP
  have hl := lv_entry ([.ref a0, .int p1, .int p2]) (n := 4) (nbq rfl)
  rw [lg_entry_eq]
  generalize (lg_sl ([.ref a0, .int p1, .int p2]) ++ List.replicate (4 - (lg_sl ([.ref a0, .int p1, .int p2])).length) Slot.unset).toArray = ls at hl ⊢
  have hl : lv_has ls 4 [(0, .ref a0), (1, .int p1), (2, .int p2)] := hl
  have C0 : cfx p s m _ meth c cX8_number (some .int) wsX8_number RX8 4 A (dC, dI) (kT cyB cyI cyJ cyP) := ⟨hx, hb, hr, hts, hown, hlocks, hml, hA, hK, hNw⟩
  clear hAe
  obtain ⟨H, hH⟩ : ∃ H, H = s.heap := ⟨_, rfl⟩
  rw [← hH] at hP ⊢
  have hS : va_S A s.heap H [] := by rw [hH]; exact va_S.rf
  have hS := hS
  refine lv_aload_n hx hb (qaa qjE 0 rfl) rfl (lv_at hl 0 rfl) ?_
  obtain ⟨hCc, hPc, hDc, hFc⟩ := qac (ws' := (qdK a0 jif jb7 jcP jlr jjY jkC jj3 jif cyB jjA)) hP hD hS hA [0, 1] (by decide +kernel) rfl
  refine va_callv (va_runV (As := []) (rest := []) ⟨hx, hb, hml, hown, hts⟩ (qwA l dC dI cyB cyI cyJ cyP a0 jif H.size (.int jlr) (jjY) (.int jkC) (.int jj3) jb7 jjA jcP hw) (cwV 0 hts gX8_number_X8_skipBlanks rfl rfl rfl (by decide +kernel) ⟨nbq rfl, nbq rfl⟩) ⟨qab, va_recv (q := (RX8, TX8, 7)) hK hPc (ci := 8) (q0 := 0) rfl rfl, qae hPc hK hDc hNw⟩ rfl rfl hl.1 rfl (lv_room (nbq rfl)) (qaa qjE 1 rfl) ⟨nbq rfl, nbq rfl⟩) hS (fun q _ h => hFc q h) hFc (fun u t H1 locs ht hvm hw hB hz1 hk1 hS => ?_)
  obtain ⟨x1, rfl⟩ : ∃ z, z = u := ⟨_, rfl⟩
  obtain ⟨hP1, hK1, hD1⟩ := hB
  rw [ht] at hP1
  obtain ⟨hP, hD⟩ := qah (wr := []) (w1 := (qdK a0 jif jb7 x1 jlr jjY jkC jj3 jif cyB jjA)) (wn := (qdK a0 jif jb7 x1 jlr jjY jkC jj3 jif cyB jjA)) hP hD [0, 1] [] hCc rfl (by decide +kernel) (by decide +kernel) rfl hk1 hFc hP1 hD1
  generalize H1 = H at hP hS ⊢
  refine lv_aload_n hx hb (qaa qjE 2 rfl) rfl (lv_at hl 0 rfl) ?_
  refine lv_aload_n hx hb (qaa qjE 3 rfl) rfl (lv_at hl 0 rfl) ?_
  refine va_get (D := (dC, dI)) (ci := 8) (v := .int x1) (C := RX8) (T := TX8) (N := 7) hx hb hts qpk hown hK hP 0 rfl rfl 2 (by decide) (hts _ qsx) (fun _ h9 => h9) rfl (qaa qjE 4 rfl) ?_
  obtain ⟨hCc, hPc, hDc, hFc⟩ := qac (ws' := (qdK a0 jif jb7 x1 jlr jjY jkC jj3 jif cyB jjA)) hP hD hS hA [0, 1] (by decide +kernel) rfl
  refine va_calli (va_runV (As := [.int x1]) (rest := []) ⟨hx, hb, hml, hown, hts⟩ (qOg l dC dI cyB cyI cyJ cyP a0 jif H.size (.int x1) (.int jlr) (jjY) (.int jkC) (.int jj3) jb7 jjA x1 hw) (cwV 1 hts gX8_number_X8_digitAt rfl rfl rfl (by decide +kernel) ⟨nbq rfl, nbq rfl⟩) ⟨qab, va_recv (q := (RX8, TX8, 7)) hK hPc (ci := 8) (q0 := 0) rfl rfl, qae hPc hK hDc hNw⟩ rfl rfl hl.1 rfl (lv_room (nbq rfl)) (qaa qjE 5 rfl) ⟨nbq rfl, nbq rfl⟩) hS (fun q _ h => hFc q h) hFc (fun r2 u t H1 locs ht hvm hw hB hz1 hk1 hS => ?_)
  obtain ⟨hP1, hK1, hD1⟩ := hB
  rw [ht] at hP1
  obtain ⟨hP, hD⟩ := qah (wr := []) (w1 := (qdK a0 jif jb7 x1 jlr jjY jkC jj3 jif cyB jjA)) (wn := (qdK a0 jif jb7 x1 jlr jjY jkC jj3 jif cyB jjA)) hP hD [0, 1] [] hCc rfl (by decide +kernel) (by decide +kernel) rfl hk1 hFc hP1 hD1
  generalize H1 = H at hP hS ⊢
  refine lv_if_ge (tgt := 24) hx hb (qaa qjE 6 rfl) (by decide) (fun c3 => ?_) (fun c3 => ?_)
  · have hw := hw.1 c3
    exact q3Y dC dI cyB cyI cyJ cyP a0 jif jjY jb7 jjA Q C0 _ _ _ x1 jkC jj3 jlr p1 p2 hP hD hS (lv_sub hl [0, 1, 2] rfl) hw
  · have hw := hw.2 c3
    refine lv_aload_n hx hb (qaa qjE 7 rfl) rfl (lv_at hl 0 rfl) ?_
    refine lv_iconst (v := 1) hx hb (qaa qjE 8 rfl) (by decide) ?_
    refine lv_aload_n hx hb (qaa qjE 9 rfl) rfl (lv_at hl 0 rfl) ?_
    refine va_get (D := (dC, dI)) (ci := 8) (v := .int x1) (C := RX8) (T := TX8) (N := 7) hx hb hts qpk hown hK hP 0 rfl rfl 2 (by decide) (hts _ qsx) (fun _ h9 => h9) rfl (qaa qjE 10 rfl) ?_
    obtain ⟨hCc, hPc, hDc, hFc⟩ := qac (ws' := (qM7 a0 jif jb7 x1 jlr jjY jkC jj3)) hP hD hS hA [0] (by decide +kernel) rfl
    refine va_callv (va_runV (As := [.int 1, .int x1]) (rest := []) ⟨hx, hb, hml, hown, hts⟩ (qXa l dC dI cyB cyI cyJ cyP a0 H.size (.ref jif) (.int jb7) (.int x1) (.int jlr) (jjY) jkC jj3 1 x1 hw) (cwV 2 hts gX8_number_X8_blame rfl rfl rfl (by decide +kernel) ⟨nbq rfl, nbq rfl⟩) ⟨qab, va_recv (q := (RX8, TX8, 7)) hK hPc (ci := 8) (q0 := 0) rfl rfl, qae hPc hK hDc hNw⟩ rfl rfl hl.1 rfl (lv_room (nbq rfl)) (qaa qjE 11 rfl) ⟨nbq rfl, nbq rfl⟩) hS (fun q _ h => hFc q h) hFc (fun u t H1 locs ht hvm hw hB hz1 hk1 hS => ?_)
    obtain ⟨x4, x5⟩ := u
    obtain ⟨hP1, hK1, hD1⟩ := hB
    rw [ht] at hP1
    obtain ⟨hP, hD⟩ := qad (wr := (qaxB jif cyB jjA)) (w1 := (qM7 a0 jif jb7 x1 jlr jjY x4 x5)) (wn := (qdK a0 jif jb7 x1 jlr jjY x4 x5 jif cyB jjA)) hP hD [0] [1] [1, 0] hCc rfl (by decide +kernel) (by decide +kernel) (by decide +kernel) rfl hk1 hFc hP1 hD1
    generalize H1 = H at hP hS ⊢
    exact q3Y dC dI cyB cyI cyJ cyP a0 jif jjY jb7 jjA Q C0 _ _ _ x1 x4 x5 jlr p1 p2 hP hD hS (lv_sub hl [0, 1, 2] rfl) hw
theorem qaJl : ∀ w ∈ u_ws RX0 TX0 2, w ∈ wsX0_tells := uiM qaL6 euX0 (by decide +kernel)
theorem qaK5 : (.fieldLink RX0 9 "MarchHares$Book" "seen" "[I" : Cond) ∈ wsX0_tells := qaL6 257 (by decide +kernel)
set_option maxHeartbeats 4000000 in
set_option maxRecDepth 100000 in
theorem qaDK (l : Launch) (dC : Nat → ClassId) (dI : Nat → Nat → Nat) (cyB cyI cyJ cyP : ClassId) (a0 jjj sz : Nat) (jmb : Value) (jkG : NI) (p1 : Int32) {Q : Int32 → Prop} (hw : qXC jkG p1 Q) : Met l yX0_tells wsX0_tells ({ frames := 0, cells := 0, slots := 0, locals := 0 }) (va_Pc [.ref a0, .int p1] (cPc (dC, dI) (kT cyB cyI cyJ cyP) (qaal a0 jjj jmb jjj cyI jkG) sz)) (va_Qi (fun (r : Int32) (_ : Unit) => Q r ) (cB (dC, dI) (kT cyB cyI cyJ cyP) (va_A (qaal a0 jjj jmb jjj cyI jkG) sz) (fun u : Unit => ((qaal a0 jjj jmb jjj cyI jkG) : va_W))) (va_A (qaal a0 jjj jmb jjj cyI jkG) sz)) 0 0 (va_A (qaal a0 jjj jmb jjj cyI jkG) sz) := by
  refine Met.ofW (cc := cX0_tells) (maxL := 2) (ret := (some .boolean)) (by decide) rfl ?_
  intro p e s m args below meth c s₁ B hml hv
  obtain ⟨rfl, hsz, hP, hK, hD0, hNw⟩ := hv
  have hx := B.exec
  have hb := B.bytes
  have hr := B.returns
  have hts := atoms_spec (ws := wsX0_tells) B.pre
  have hown : s.vm.findClass RX0 = some m.cls := findClass_of_methodNamed B.named
  have hlocks := B.notSynchronized
  subst hsz
  have hD := hD0.self (sz := s.heap.size)
  generalize hAe : va_A (qaal a0 jjj jmb jjj cyI jkG) s.heap.size = A at hD ⊢
  have hA : ∀ q : Nat, s.heap.size ≤ q → A q := fun q h => by rw [← hAe]; exact Or.inr h
  have hS : va_S A s.heap s.heap [] := va_S.rf
  have hP : va_P (dC, dI) vwCl (qaal a0 jjj jmb jjj cyI jkG) s.heap := hP
  have hl := lv_entry ([.ref a0, .int p1]) (n := 2) (nbq rfl)
  rw [lg_entry_eq]
  generalize (lg_sl ([.ref a0, .int p1]) ++ List.replicate (2 - (lg_sl ([.ref a0, .int p1])).length) Slot.unset).toArray = ls at hl ⊢
  have hl : lv_has ls 2 [(0, .ref a0), (1, .int p1)] := hl
  have C0 : cfx p s m _ meth c cX0_tells (some .boolean) wsX0_tells RX0 2 A (dC, dI) (kT cyB cyI cyJ cyP) := ⟨hx, hb, hr, hts, hown, hlocks, hml, hA, hK, hNw⟩
  clear hAe
  obtain ⟨H, hH⟩ : ∃ H, H = s.heap := ⟨_, rfl⟩
  rw [← hH] at hP ⊢
  have hS : va_S A s.heap H [] := by rw [hH]; exact va_S.rf
  have hS := hS
  refine lv_aload_n hx hb (qaa qsk 0 rfl) rfl (lv_at hl 0 rfl) ?_
  refine va_get (D := (dC, dI)) (ci := 0) (v := .ref jjj) (C := RX0) (T := TX0) (N := 2) hx hb hts qaJl hown hK hP 0 rfl rfl 0 (by decide) (hts _ qaK5) (fun _ h9 => h9) rfl (qaa qsk 1 rfl) ?_
  refine lv_iload_n hx hb (qaa qsk 2 rfl) rfl (lv_at hl 1 rfl) ?_
  obtain ⟨hi9, hw⟩ := hw
  refine va_iald hx hb hK hP 1 1 rfl rfl hi9 (qaa qsk 3 rfl) ?_
  refine lv_topi (fun x1 ex1 => ?_)
  have hw := hw x1 ex1
  refine lv_iconst (v := (-1)) hx hb (qaa qsk 4 rfl) (by decide) ?_
  refine lv_icmp_eq (tgt := 14) hx hb (qaa qsk 5 rfl) (by decide) (fun c2 => ?_) (fun c2 => ?_)
  · have hw := hw.1 c2
    refine lv_iconst (v := 0) hx hb (qaa qsk 8 rfl) (by decide) ?_
    exact ((W.zret (v := 0) hx hb hr rfl (fun t ht hW => ⟨⟨0, (), rfl, hw, by rw [ht]; exact hP, va_K.moved hW.alike hK, hD⟩, hS.F ht⟩) hS.2.2 (qaa qsk 9 rfl)))
  · have hw := hw.2 c2
    refine lv_iconst (v := 1) hx hb (qaa qsk 6 rfl) (by decide) ?_
    refine lv_goto (tgt := 15) hx hb (qaa qsk 7 rfl) (by decide) ?_
    exact ((W.zret (v := 1) hx hb hr rfl (fun t ht hW => ⟨⟨1, (), rfl, hw, by rw [ht]; exact hP, va_K.moved hW.alike hK, hD⟩, hS.F ht⟩) hS.2.2 (qaa qsk 9 rfl)))
theorem qabq : ∀ w ∈ u_ws RX8 TX8 7, w ∈ wsX8_blameToken := uiM qGS euX8 (by decide +kernel)
theorem q6I : (.fieldLink RX8 34 "MarchHares$Tape" "token" "I" : Cond) ∈ wsX8_blameToken := qGS 714 (by decide +kernel)
set_option maxHeartbeats 4000000 in
set_option maxRecDepth 100000 in
theorem qn6 (l : Launch) (dC : Nat → ClassId) (dI : Nat → Nat → Nat) (cyB cyI cyJ cyP : ClassId) (a0 sz : Nat) (jn7 jjf jby jjY : Value) (jlr jkC jj3 p1 : Int32) {Q : Int32 → Int32 → Prop} (hw : qkH jlr jkC jj3 p1 Q) : Met l yX8_blameToken wsX8_blameToken ({ frames := 1, cells := 0, slots := 0, locals := 22 }) (va_Pc [.ref a0, .int p1] (cPc (dC, dI) (kT cyB cyI cyJ cyP) (qUp a0 jn7 jjf jby jlr jjY jkC jj3) sz)) (va_Qv (fun (u : Int32 × Int32) => Q u.1 u.2) (cB (dC, dI) (kT cyB cyI cyJ cyP) (va_A (qUp a0 jn7 jjf jby jlr jjY jkC jj3) sz) (fun u : Int32 × Int32 => ((qUp a0 jn7 jjf jby jlr jjY u.1 u.2) : va_W))) (va_A (qUp a0 jn7 jjf jby jlr jjY jkC jj3) sz)) 0 0 (va_A (qUp a0 jn7 jjf jby jlr jjY jkC jj3) sz) := by
  refine Met.ofW (cc := cX8_blameToken) (maxL := 2) (ret := none) (by decide) rfl ?_
  intro p e s m args below meth c s₁ B hml hv
  obtain ⟨rfl, hsz, hP, hK, hD0, hNw⟩ := hv
  have hx := B.exec
  have hb := B.bytes
  have hr := B.returns
  have hts := atoms_spec (ws := wsX8_blameToken) B.pre
  have hown : s.vm.findClass RX8 = some m.cls := findClass_of_methodNamed B.named
  have hlocks := B.notSynchronized
  subst hsz
  have hD := hD0.self (sz := s.heap.size)
  generalize hAe : va_A (qUp a0 jn7 jjf jby jlr jjY jkC jj3) s.heap.size = A at hD ⊢
  have hA : ∀ q : Nat, s.heap.size ≤ q → A q := fun q h => by rw [← hAe]; exact Or.inr h
  have hS : va_S A s.heap s.heap [] := va_S.rf
  have hP : va_P (dC, dI) vwCl (qUp a0 jn7 jjf jby jlr jjY jkC jj3) s.heap := hP
  have hl := lv_entry ([.ref a0, .int p1]) (n := 2) (nbq rfl)
  rw [lg_entry_eq]
  generalize (lg_sl ([.ref a0, .int p1]) ++ List.replicate (2 - (lg_sl ([.ref a0, .int p1])).length) Slot.unset).toArray = ls at hl ⊢
  have hl : lv_has ls 2 [(0, .ref a0), (1, .int p1)] := hl
  have C0 : cfx p s m _ meth c cX8_blameToken none wsX8_blameToken RX8 2 A (dC, dI) (kT cyB cyI cyJ cyP) := ⟨hx, hb, hr, hts, hown, hlocks, hml, hA, hK, hNw⟩
  clear hAe
  obtain ⟨H, hH⟩ : ∃ H, H = s.heap := ⟨_, rfl⟩
  rw [← hH] at hP ⊢
  have hS : va_S A s.heap H [] := by rw [hH]; exact va_S.rf
  have hS := hS
  refine lv_aload_n hx hb (qaa qut 0 rfl) rfl (lv_at hl 0 rfl) ?_
  refine lv_iload_n hx hb (qaa qut 1 rfl) rfl (lv_at hl 1 rfl) ?_
  refine lv_aload_n hx hb (qaa qut 2 rfl) rfl (lv_at hl 0 rfl) ?_
  refine va_get (D := (dC, dI)) (ci := 8) (v := .int jlr) (C := RX8) (T := TX8) (N := 7) hx hb hts qabq hown hK hP 0 rfl rfl 3 (by decide) (hts _ q6I) (fun _ h9 => h9) rfl (qaa qut 3 rfl) ?_
  obtain ⟨hCc, hPc, hDc, hFc⟩ := qac (ws' := (qUp a0 jn7 jjf jby jlr jjY jkC jj3)) hP hD hS hA [0] (by decide +kernel) rfl
  refine va_callv (va_runV (As := [.int p1, .int jlr]) (rest := []) ⟨hx, hb, hml, hown, hts⟩ (qXa l dC dI cyB cyI cyJ cyP a0 H.size (jn7) (jjf) (jby) (.int jlr) (jjY) jkC jj3 p1 jlr hw) (cwV 2 hts gX8_blameToken_X8_blame rfl rfl rfl (by decide +kernel) ⟨nbq rfl, nbq rfl⟩) ⟨qab, va_recv (q := (RX8, TX8, 7)) hK hPc (ci := 8) (q0 := 0) rfl rfl, qae hPc hK hDc hNw⟩ rfl rfl hl.1 rfl (lv_room (nbq rfl)) (qaa qut 4 rfl) ⟨nbq rfl, nbq rfl⟩) hS (fun q _ h => hFc q h) hFc (fun u t H1 locs ht hvm hw hB hz1 hk1 hS => ?_)
  obtain ⟨x1, x2⟩ := u
  obtain ⟨hP1, hK1, hD1⟩ := hB
  rw [ht] at hP1
  obtain ⟨hP, hD⟩ := qah (wr := []) (w1 := (qUp a0 jn7 jjf jby jlr jjY x1 x2)) (wn := (qUp a0 jn7 jjf jby jlr jjY x1 x2)) hP hD [0] [] hCc rfl (by decide +kernel) (by decide +kernel) rfl hk1 hFc hP1 hD1
  generalize H1 = H at hP hS ⊢
  exact ((W.vret hx hb hr (fun t ht hW => ⟨⟨(x1, x2), rfl, hw, by rw [ht]; exact hP, va_K.moved hW.alike hK, hD⟩, hS.F ht⟩) hS.2.2 (qaa qut 5 rfl)))
theorem qvk : ∀ w ∈ u_ws RX8 TX8 7, w ∈ wsX8_takes := uiM qCR euX8 (by decide +kernel)
theorem qaBS : (.fieldLink RX8 11 "MarchHares$Tape" "bytes" "[B" : Cond) ∈ wsX8_takes := qCR 142 (by decide +kernel)
theorem qaCU : (.fieldLink RX8 28 "MarchHares$Tape" "length" "I" : Cond) ∈ wsX8_takes := qCR 712 (by decide +kernel)
theorem qBP : (.fieldLink RX8 31 "MarchHares$Tape" "at" "I" : Cond) ∈ wsX8_takes := qCR 713 (by decide +kernel)
theorem qavO : (.fieldLink RX8 34 "MarchHares$Tape" "token" "I" : Cond) ∈ wsX8_takes := qCR 714 (by decide +kernel)
set_option maxHeartbeats 4000000 in
set_option maxRecDepth 100000 in
theorem qr4 (l : Launch) (dC : Nat → ClassId) (dI : Nat → Nat → Nat) (cyB cyI cyJ cyP : ClassId) (a0 jif sz : Nat) (jjY jkr : Value) (jb7 jkC : Int32) (jjA : NI) (jcP jlr p1 : Int32) {Q : Int32 → Int32 → Int32 → Prop} (hw : qpT jb7 jkC jjA jcP jlr p1 Q) : Met l yX8_takes wsX8_takes ({ frames := 1, cells := 0, slots := 0, locals := 20 }) (va_Pc [.ref a0, .int p1] (cPc (dC, dI) (kT cyB cyI cyJ cyP) (qFe a0 jif jb7 jcP jlr jjY jkC jkr jif cyB jjA) sz)) (va_Qi (fun (r : Int32) (u : Int32 × Int32) => Q r u.1 u.2) (cB (dC, dI) (kT cyB cyI cyJ cyP) (va_A (qFe a0 jif jb7 jcP jlr jjY jkC jkr jif cyB jjA) sz) (fun u : Int32 × Int32 => ((qFe a0 jif jb7 u.1 u.2 jjY jkC jkr jif cyB jjA) : va_W))) (va_A (qFe a0 jif jb7 jcP jlr jjY jkC jkr jif cyB jjA) sz)) 0 0 (va_A (qFe a0 jif jb7 jcP jlr jjY jkC jkr jif cyB jjA) sz) := by
  refine Met.ofW (cc := cX8_takes) (maxL := 2) (ret := (some .boolean)) (by decide) rfl ?_
  intro p e s m args below meth c s₁ B hml hv
  obtain ⟨rfl, hsz, hP, hK, hD0, hNw⟩ := hv
  have hx := B.exec
  have hb := B.bytes
  have hr := B.returns
  have hts := atoms_spec (ws := wsX8_takes) B.pre
  have hown : s.vm.findClass RX8 = some m.cls := findClass_of_methodNamed B.named
  have hlocks := B.notSynchronized
  subst hsz
  have hD := hD0.self (sz := s.heap.size)
  generalize hAe : va_A (qFe a0 jif jb7 jcP jlr jjY jkC jkr jif cyB jjA) s.heap.size = A at hD ⊢
  have hA : ∀ q : Nat, s.heap.size ≤ q → A q := fun q h => by rw [← hAe]; exact Or.inr h
  have hS : va_S A s.heap s.heap [] := va_S.rf
  have hP : va_P (dC, dI) vwCl (qFe a0 jif jb7 jcP jlr jjY jkC jkr jif cyB jjA) s.heap := hP
  have hl := lv_entry ([.ref a0, .int p1]) (n := 2) (nbq rfl)
  rw [lg_entry_eq]
  generalize (lg_sl ([.ref a0, .int p1]) ++ List.replicate (2 - (lg_sl ([.ref a0, .int p1])).length) Slot.unset).toArray = ls at hl ⊢
  have hl : lv_has ls 2 [(0, .ref a0), (1, .int p1)] := hl
  have C0 : cfx p s m _ meth c cX8_takes (some .boolean) wsX8_takes RX8 2 A (dC, dI) (kT cyB cyI cyJ cyP) := ⟨hx, hb, hr, hts, hown, hlocks, hml, hA, hK, hNw⟩
  clear hAe
  obtain ⟨H, hH⟩ : ∃ H, H = s.heap := ⟨_, rfl⟩
  rw [← hH] at hP ⊢
  have hS : va_S A s.heap H [] := by rw [hH]; exact va_S.rf
  have hS := hS
  refine lv_aload_n hx hb (qaa qme 0 rfl) rfl (lv_at hl 0 rfl) ?_
  obtain ⟨hCc, hPc, hDc, hFc⟩ := qac (ws' := (qFe a0 jif jb7 jcP jlr jjY jkC jkr jif cyB jjA)) hP hD hS hA [0, 1] (by decide +kernel) rfl
  refine va_callv (va_runV (As := []) (rest := []) ⟨hx, hb, hml, hown, hts⟩ (qwA l dC dI cyB cyI cyJ cyP a0 jif H.size (.int jlr) (jjY) (.int jkC) (jkr) jb7 jjA jcP hw) (cwV 0 hts gX8_takes_X8_skipBlanks rfl rfl rfl (by decide +kernel) ⟨nbq rfl, nbq rfl⟩) ⟨qab, va_recv (q := (RX8, TX8, 7)) hK hPc (ci := 8) (q0 := 0) rfl rfl, qae hPc hK hDc hNw⟩ rfl rfl hl.1 rfl (lv_room (nbq rfl)) (qaa qme 1 rfl) ⟨nbq rfl, nbq rfl⟩) hS (fun q _ h => hFc q h) hFc (fun u t H1 locs ht hvm hw hB hz1 hk1 hS => ?_)
  obtain ⟨x1, rfl⟩ : ∃ z, z = u := ⟨_, rfl⟩
  obtain ⟨hP1, hK1, hD1⟩ := hB
  rw [ht] at hP1
  obtain ⟨hP, hD⟩ := qah (wr := []) (w1 := (qFe a0 jif jb7 x1 jlr jjY jkC jkr jif cyB jjA)) (wn := (qFe a0 jif jb7 x1 jlr jjY jkC jkr jif cyB jjA)) hP hD [0, 1] [] hCc rfl (by decide +kernel) (by decide +kernel) rfl hk1 hFc hP1 hD1
  generalize H1 = H at hP hS ⊢
  refine lv_aload_n hx hb (qaa qme 2 rfl) rfl (lv_at hl 0 rfl) ?_
  obtain ⟨hCc, hPc, hDc, hFc⟩ := qac (ws' := (qa6o a0 jif jb7 x1 jlr jjY jkC jkr)) hP hD hS hA [0] (by decide +kernel) rfl
  refine va_calli (va_runV (As := []) (rest := []) ⟨hx, hb, hml, hown, hts⟩ (qjR l dC dI cyB cyI cyJ cyP a0 H.size (.ref jif) (.int jb7) (.int x1) (.int jlr) (jjY) (jkr) jkC hw) (cwV 0 hts gX8_takes_X8_isFaulty rfl rfl rfl (by decide +kernel) ⟨nbq rfl, nbq rfl⟩) ⟨qab, va_recv (q := (RX8, TX8, 7)) hK hPc (ci := 8) (q0 := 0) rfl rfl, qae hPc hK hDc hNw⟩ rfl rfl hl.1 rfl (lv_room (nbq rfl)) (qaa qme 3 rfl) ⟨nbq rfl, nbq rfl⟩) hS (fun q _ h => hFc q h) hFc (fun r2 u t H1 locs ht hvm hw hB hz1 hk1 hS => ?_)
  obtain ⟨hP1, hK1, hD1⟩ := hB
  rw [ht] at hP1
  obtain ⟨hP, hD⟩ := qad (wr := (qaxB jif cyB jjA)) (w1 := (qa6o a0 jif jb7 x1 jlr jjY jkC jkr)) (wn := (qFe a0 jif jb7 x1 jlr jjY jkC jkr jif cyB jjA)) hP hD [0] [1] [1, 0] hCc rfl (by decide +kernel) (by decide +kernel) (by decide +kernel) rfl hk1 hFc hP1 hD1
  generalize H1 = H at hP hS ⊢
  refine lv_if_ne (tgt := 35) hx hb (qaa qme 4 rfl) (by decide) (fun c3 => ?_) (fun c3 => ?_)
  · have hw := hw.1 c3
    refine lv_iconst (v := 0) hx hb (qaa qgc 1 rfl) (by decide) ?_
    exact ((W.zret (v := 0) hx hb hr rfl (fun t ht hW => ⟨⟨0, (x1, jlr), rfl, hw, by rw [ht]; exact hP, va_K.moved hW.alike hK, hD⟩, hS.F ht⟩) hS.2.2 (qaa qgc 2 rfl)))
  · have hw := hw.2 c3
    refine lv_aload_n hx hb (qaa qme 5 rfl) rfl (lv_at hl 0 rfl) ?_
    refine va_get (D := (dC, dI)) (ci := 8) (v := .int x1) (C := RX8) (T := TX8) (N := 7) hx hb hts qvk hown hK hP 0 rfl rfl 2 (by decide) (hts _ qBP) (fun _ h9 => h9) rfl (qaa qme 6 rfl) ?_
    refine lv_aload_n hx hb (qaa qme 7 rfl) rfl (lv_at hl 0 rfl) ?_
    refine va_get (D := (dC, dI)) (ci := 8) (v := .int jb7) (C := RX8) (T := TX8) (N := 7) hx hb hts qvk hown hK hP 0 rfl rfl 1 (by decide) (hts _ qaCU) (fun _ h9 => h9) rfl (qaa qme 8 rfl) ?_
    refine lv_icmp_ge (tgt := 35) hx hb (qaa qme 9 rfl) (by decide) (fun c4 => ?_) (fun c4 => ?_)
    · have hw := hw.1 c4
      refine lv_iconst (v := 0) hx hb (qaa qgc 1 rfl) (by decide) ?_
      exact ((W.zret (v := 0) hx hb hr rfl (fun t ht hW => ⟨⟨0, (x1, jlr), rfl, hw, by rw [ht]; exact hP, va_K.moved hW.alike hK, hD⟩, hS.F ht⟩) hS.2.2 (qaa qgc 2 rfl)))
    · have hw := hw.2 c4
      refine lv_aload_n hx hb (qaa qme 10 rfl) rfl (lv_at hl 0 rfl) ?_
      refine va_get (D := (dC, dI)) (ci := 8) (v := .ref jif) (C := RX8) (T := TX8) (N := 7) hx hb hts qvk hown hK hP 0 rfl rfl 0 (by decide) (hts _ qaBS) (fun _ h9 => h9) rfl (qaa qme 11 rfl) ?_
      refine lv_aload_n hx hb (qaa qme 12 rfl) rfl (lv_at hl 0 rfl) ?_
      refine va_get (D := (dC, dI)) (ci := 8) (v := .int x1) (C := RX8) (T := TX8) (N := 7) hx hb hts qvk hown hK hP 0 rfl rfl 2 (by decide) (hts _ qBP) (fun _ h9 => h9) rfl (qaa qme 13 rfl) ?_
      obtain ⟨hi9, hw⟩ := hw
      refine va_bald hx hb hK hP 1 0 rfl rfl hi9 (qaa qme 14 rfl) ?_
      refine lv_topi (fun x5 ex5 => ?_)
      have hw := hw x5 ex5
      refine lv_iload_n hx hb (qaa qme 15 rfl) rfl (lv_at hl 1 rfl) ?_
      refine lv_icmp_eq (tgt := 37) hx hb (qaa qgc 0 rfl) (by decide) (fun c6 => ?_) (fun c6 => ?_)
      · have hw := hw.1 c6
        refine lv_aload_n hx hb (qaa qgc 3 rfl) rfl (lv_at hl 0 rfl) ?_
        refine lv_aload_n hx hb (qaa qgc 4 rfl) rfl (lv_at hl 0 rfl) ?_
        refine va_get (D := (dC, dI)) (ci := 8) (v := .int x1) (C := RX8) (T := TX8) (N := 7) hx hb hts qvk hown hK hP 0 rfl rfl 2 (by decide) (hts _ qBP) (fun _ h9 => h9) rfl (qaa qgc 5 rfl) ?_
        refine va_put (D := (dC, dI)) (ci := 8) (v := .int x1) (ty := .int) (C := RX8) (T := TX8) (N := 7) hx hb hts qvk tyX8 tyX8_ok nmX8 hown hK hP hD hS 0 rfl rfl 3 (by decide) (hts _ qavO) (fun _ h9 => h9) rfl (by decide +kernel) rfl rfl (nbq rfl) (qaa qgc 6 rfl) (fun H locs hP hD hS => ?_)
        have hP : va_P (dC, dI) vwCl (qFe a0 jif jb7 x1 x1 jjY jkC jkr jif cyB jjA) H := hP
        have hD : va_D A (qFe a0 jif jb7 x1 x1 jjY jkC jkr jif cyB jjA) := hD
        refine lv_aload_n hx hb (qaa qgc 7 rfl) rfl (lv_at hl 0 rfl) ?_
        refine lv_dup hx hb (qaa qgc 8 rfl) rfl ?_
        refine va_get (D := (dC, dI)) (ci := 8) (v := .int x1) (C := RX8) (T := TX8) (N := 7) hx hb hts qvk hown hK hP 0 rfl rfl 2 (by decide) (hts _ qBP) (fun _ h9 => h9) rfl (qaa qgc 9 rfl) ?_
        refine lv_iconst (v := 1) hx hb (qaa qgc 10 rfl) (by decide) ?_
        refine lv_iadd hx hb (qaa qgc 11 rfl) ?_
        refine lv_topi (fun x7 ex7 => ?_)
        have hw := hw x7 ex7
        refine va_put (D := (dC, dI)) (ci := 8) (v := .int x7) (ty := .int) (C := RX8) (T := TX8) (N := 7) hx hb hts qvk tyX8 tyX8_ok nmX8 hown hK hP hD hS 0 rfl rfl 2 (by decide) (hts _ qBP) (fun _ h9 => h9) rfl (by decide +kernel) rfl rfl (nbq rfl) (qaa qgc 12 rfl) (fun H locs hP hD hS => ?_)
        have hP : va_P (dC, dI) vwCl (qFe a0 jif jb7 x7 x1 jjY jkC jkr jif cyB jjA) H := hP
        have hD : va_D A (qFe a0 jif jb7 x7 x1 jjY jkC jkr jif cyB jjA) := hD
        refine lv_iconst (v := 1) hx hb (qaa qgc 13 rfl) (by decide) ?_
        exact ((W.zret (v := 1) hx hb hr rfl (fun t ht hW => ⟨⟨1, (x7, x1), rfl, hw, by rw [ht]; exact hP, va_K.moved hW.alike hK, hD⟩, hS.F ht⟩) hS.2.2 (qaa qgc 14 rfl)))
      · have hw := hw.2 c6
        refine lv_iconst (v := 0) hx hb (qaa qgc 1 rfl) (by decide) ?_
        exact ((W.zret (v := 0) hx hb hr rfl (fun t ht hW => ⟨⟨0, (x1, jlr), rfl, hw, by rw [ht]; exact hP, va_K.moved hW.alike hK, hD⟩, hS.F ht⟩) hS.2.2 (qaa qgc 2 rfl)))
theorem qagP : ∀ w ∈ u_ws RX8 TX8 7, w ∈ wsX8_blameSign := uiM qAz euX8 (by decide +kernel)
theorem q8Q : (.fieldLink RX8 31 "MarchHares$Tape" "at" "I" : Cond) ∈ wsX8_blameSign := qAz 713 (by decide +kernel)
set_option maxHeartbeats 4000000 in
set_option maxRecDepth 100000 in
theorem qBx (l : Launch) (dC : Nat → ClassId) (dI : Nat → Nat → Nat) (cyB cyI cyJ cyP : ClassId) (a0 jif sz : Nat) (jl9 jjY : Value) (jb7 : Int32) (jjA : NI) (jcP jkC jj3 : Int32) {Q : Int32 → Int32 → Int32 → Prop} (hw : qtU jb7 jjA jcP jkC jj3 Q) : Met l yX8_blameSign wsX8_blameSign ({ frames := 1, cells := 0, slots := 0, locals := 22 }) (va_Pc [.ref a0] (cPc (dC, dI) (kT cyB cyI cyJ cyP) (qPM a0 jif jb7 jcP jl9 jjY jkC jj3 jif cyB jjA) sz)) (va_Qv (fun (u : Int32 × Int32 × Int32) => Q u.1 u.2.1 u.2.2) (cB (dC, dI) (kT cyB cyI cyJ cyP) (va_A (qPM a0 jif jb7 jcP jl9 jjY jkC jj3 jif cyB jjA) sz) (fun u : Int32 × Int32 × Int32 => ((qPM a0 jif jb7 u.1 jl9 jjY u.2.1 u.2.2 jif cyB jjA) : va_W))) (va_A (qPM a0 jif jb7 jcP jl9 jjY jkC jj3 jif cyB jjA) sz)) 0 0 (va_A (qPM a0 jif jb7 jcP jl9 jjY jkC jj3 jif cyB jjA) sz) := by
  refine Met.ofW (cc := cX8_blameSign) (maxL := 1) (ret := none) (by decide) rfl ?_
  intro p e s m args below meth c s₁ B hml hv
  obtain ⟨rfl, hsz, hP, hK, hD0, hNw⟩ := hv
  have hx := B.exec
  have hb := B.bytes
  have hr := B.returns
  have hts := atoms_spec (ws := wsX8_blameSign) B.pre
  have hown : s.vm.findClass RX8 = some m.cls := findClass_of_methodNamed B.named
  have hlocks := B.notSynchronized
  subst hsz
  have hD := hD0.self (sz := s.heap.size)
  generalize hAe : va_A (qPM a0 jif jb7 jcP jl9 jjY jkC jj3 jif cyB jjA) s.heap.size = A at hD ⊢
  have hA : ∀ q : Nat, s.heap.size ≤ q → A q := fun q h => by rw [← hAe]; exact Or.inr h
  have hS : va_S A s.heap s.heap [] := va_S.rf
  have hP : va_P (dC, dI) vwCl (qPM a0 jif jb7 jcP jl9 jjY jkC jj3 jif cyB jjA) s.heap := hP
  have hl := lv_entry ([.ref a0]) (n := 1) (nbq rfl)
  rw [lg_entry_eq]
  generalize (lg_sl ([.ref a0]) ++ List.replicate (1 - (lg_sl ([.ref a0])).length) Slot.unset).toArray = ls at hl ⊢
  have hl : lv_has ls 1 [(0, .ref a0)] := hl
  have C0 : cfx p s m _ meth c cX8_blameSign none wsX8_blameSign RX8 1 A (dC, dI) (kT cyB cyI cyJ cyP) := ⟨hx, hb, hr, hts, hown, hlocks, hml, hA, hK, hNw⟩
  clear hAe
  obtain ⟨H, hH⟩ : ∃ H, H = s.heap := ⟨_, rfl⟩
  rw [← hH] at hP ⊢
  have hS : va_S A s.heap H [] := by rw [hH]; exact va_S.rf
  have hS := hS
  refine lv_aload_n hx hb (qaa qra 0 rfl) rfl (lv_at hl 0 rfl) ?_
  obtain ⟨hCc, hPc, hDc, hFc⟩ := qac (ws' := (qPM a0 jif jb7 jcP jl9 jjY jkC jj3 jif cyB jjA)) hP hD hS hA [0, 1] (by decide +kernel) rfl
  refine va_callv (va_runV (As := []) (rest := []) ⟨hx, hb, hml, hown, hts⟩ (qwA l dC dI cyB cyI cyJ cyP a0 jif H.size (jl9) (jjY) (.int jkC) (.int jj3) jb7 jjA jcP hw) (cwV 0 hts gX8_blameSign_X8_skipBlanks rfl rfl rfl (by decide +kernel) ⟨nbq rfl, nbq rfl⟩) ⟨qab, va_recv (q := (RX8, TX8, 7)) hK hPc (ci := 8) (q0 := 0) rfl rfl, qae hPc hK hDc hNw⟩ rfl rfl hl.1 rfl (lv_room (nbq rfl)) (qaa qra 1 rfl) ⟨nbq rfl, nbq rfl⟩) hS (fun q _ h => hFc q h) hFc (fun u t H1 locs ht hvm hw hB hz1 hk1 hS => ?_)
  obtain ⟨x1, rfl⟩ : ∃ z, z = u := ⟨_, rfl⟩
  obtain ⟨hP1, hK1, hD1⟩ := hB
  rw [ht] at hP1
  obtain ⟨hP, hD⟩ := qah (wr := []) (w1 := (qPM a0 jif jb7 x1 jl9 jjY jkC jj3 jif cyB jjA)) (wn := (qPM a0 jif jb7 x1 jl9 jjY jkC jj3 jif cyB jjA)) hP hD [0, 1] [] hCc rfl (by decide +kernel) (by decide +kernel) rfl hk1 hFc hP1 hD1
  generalize H1 = H at hP hS ⊢
  refine lv_aload_n hx hb (qaa qra 2 rfl) rfl (lv_at hl 0 rfl) ?_
  refine lv_iconst (v := 1) hx hb (qaa qra 3 rfl) (by decide) ?_
  refine lv_aload_n hx hb (qaa qra 4 rfl) rfl (lv_at hl 0 rfl) ?_
  refine va_get (D := (dC, dI)) (ci := 8) (v := .int x1) (C := RX8) (T := TX8) (N := 7) hx hb hts qagP hown hK hP 0 rfl rfl 2 (by decide) (hts _ q8Q) (fun _ h9 => h9) rfl (qaa qra 5 rfl) ?_
  obtain ⟨hCc, hPc, hDc, hFc⟩ := qac (ws' := (qa8E a0 jif jb7 x1 jl9 jjY jkC jj3)) hP hD hS hA [0] (by decide +kernel) rfl
  refine va_callv (va_runV (As := [.int 1, .int x1]) (rest := []) ⟨hx, hb, hml, hown, hts⟩ (qXa l dC dI cyB cyI cyJ cyP a0 H.size (.ref jif) (.int jb7) (.int x1) (jl9) (jjY) jkC jj3 1 x1 hw) (cwV 2 hts gX8_blameSign_X8_blame rfl rfl rfl (by decide +kernel) ⟨nbq rfl, nbq rfl⟩) ⟨qab, va_recv (q := (RX8, TX8, 7)) hK hPc (ci := 8) (q0 := 0) rfl rfl, qae hPc hK hDc hNw⟩ rfl rfl hl.1 rfl (lv_room (nbq rfl)) (qaa qra 6 rfl) ⟨nbq rfl, nbq rfl⟩) hS (fun q _ h => hFc q h) hFc (fun u t H1 locs ht hvm hw hB hz1 hk1 hS => ?_)
  obtain ⟨x2, x3⟩ := u
  obtain ⟨hP1, hK1, hD1⟩ := hB
  rw [ht] at hP1
  obtain ⟨hP, hD⟩ := qad (wr := (qaxB jif cyB jjA)) (w1 := (qa8E a0 jif jb7 x1 jl9 jjY x2 x3)) (wn := (qPM a0 jif jb7 x1 jl9 jjY x2 x3 jif cyB jjA)) hP hD [0] [1] [1, 0] hCc rfl (by decide +kernel) (by decide +kernel) (by decide +kernel) rfl hk1 hFc hP1 hD1
  generalize H1 = H at hP hS ⊢
  exact ((W.vret hx hb hr (fun t ht hW => ⟨⟨(x1, x2, x3), rfl, hw, by rw [ht]; exact hP, va_K.moved hW.alike hK, hD⟩, hS.F ht⟩) hS.2.2 (qaa qra 7 rfl)))
set_option maxHeartbeats 4000000 in
set_option maxRecDepth 100000 in
theorem qsY (l : Launch) (dC : Nat → ClassId) (dI : Nat → Nat → Nat) (cyB cyI cyJ cyP : ClassId) (a0 jif sz : Nat) (jjY : Value) (jb7 : Int32) (jjA : NI) (jcP jlr jkC jj3 p1 : Int32) {Q : Int32 → Int32 → Int32 → Int32 → Prop} (hw : qpW jb7 jjA jcP jlr jkC jj3 p1 Q) : Met l yX8_needs wsX8_needs ({ frames := 2, cells := 0, slots := 0, locals := 42 }) (va_Pc [.ref a0, .int p1] (cPc (dC, dI) (kT cyB cyI cyJ cyP) (qdK a0 jif jb7 jcP jlr jjY jkC jj3 jif cyB jjA) sz)) (va_Qv (fun (u : Int32 × Int32 × Int32 × Int32) => Q u.1 u.2.1 u.2.2.1 u.2.2.2) (cB (dC, dI) (kT cyB cyI cyJ cyP) (va_A (qdK a0 jif jb7 jcP jlr jjY jkC jj3 jif cyB jjA) sz) (fun u : Int32 × Int32 × Int32 × Int32 => ((qdK a0 jif jb7 u.1 u.2.1 jjY u.2.2.1 u.2.2.2 jif cyB jjA) : va_W))) (va_A (qdK a0 jif jb7 jcP jlr jjY jkC jj3 jif cyB jjA) sz)) 0 0 (va_A (qdK a0 jif jb7 jcP jlr jjY jkC jj3 jif cyB jjA) sz) := by
  refine Met.ofW (cc := cX8_needs) (maxL := 2) (ret := none) (by decide) rfl ?_
  intro p e s m args below meth c s₁ B hml hv
  obtain ⟨rfl, hsz, hP, hK, hD0, hNw⟩ := hv
  have hx := B.exec
  have hb := B.bytes
  have hr := B.returns
  have hts := atoms_spec (ws := wsX8_needs) B.pre
  have hown : s.vm.findClass RX8 = some m.cls := findClass_of_methodNamed B.named
  have hlocks := B.notSynchronized
  subst hsz
  have hD := hD0.self (sz := s.heap.size)
  generalize hAe : va_A (qdK a0 jif jb7 jcP jlr jjY jkC jj3 jif cyB jjA) s.heap.size = A at hD ⊢
  have hA : ∀ q : Nat, s.heap.size ≤ q → A q := fun q h => by rw [← hAe]; exact Or.inr h
  have hS : va_S A s.heap s.heap [] := va_S.rf
  have hP : va_P (dC, dI) vwCl (qdK a0 jif jb7 jcP jlr jjY jkC jj3 jif cyB jjA) s.heap := hP
  have hl := lv_entry ([.ref a0, .int p1]) (n := 2) (nbq rfl)
  rw [lg_entry_eq]
  generalize (lg_sl ([.ref a0, .int p1]) ++ List.replicate (2 - (lg_sl ([.ref a0, .int p1])).length) Slot.unset).toArray = ls at hl ⊢
  have hl : lv_has ls 2 [(0, .ref a0), (1, .int p1)] := hl
  have C0 : cfx p s m _ meth c cX8_needs none wsX8_needs RX8 2 A (dC, dI) (kT cyB cyI cyJ cyP) := ⟨hx, hb, hr, hts, hown, hlocks, hml, hA, hK, hNw⟩
  clear hAe
  obtain ⟨H, hH⟩ : ∃ H, H = s.heap := ⟨_, rfl⟩
  rw [← hH] at hP ⊢
  have hS : va_S A s.heap H [] := by rw [hH]; exact va_S.rf
  have hS := hS
  refine lv_aload_n hx hb (qaa qwH 0 rfl) rfl (lv_at hl 0 rfl) ?_
  refine lv_iload_n hx hb (qaa qwH 1 rfl) rfl (lv_at hl 1 rfl) ?_
  obtain ⟨hCc, hPc, hDc, hFc⟩ := qac (ws' := (qdK a0 jif jb7 jcP jlr jjY jkC jj3 jif cyB jjA)) hP hD hS hA [0, 1] (by decide +kernel) rfl
  refine va_calli (va_runV (As := [.int p1]) (rest := []) ⟨hx, hb, hml, hown, hts⟩ (qr4 l dC dI cyB cyI cyJ cyP a0 jif H.size (jjY) (.int jj3) jb7 jkC jjA jcP jlr p1 hw) (cwV 1 hts gX8_needs_X8_takes rfl rfl rfl (by decide +kernel) ⟨nbq rfl, nbq rfl⟩) ⟨qab, va_recv (q := (RX8, TX8, 7)) hK hPc (ci := 8) (q0 := 0) rfl rfl, qae hPc hK hDc hNw⟩ rfl rfl hl.1 rfl (lv_room (nbq rfl)) (qaa qwH 2 rfl) ⟨nbq rfl, nbq rfl⟩) hS (fun q _ h => hFc q h) hFc (fun r3 u t H1 locs ht hvm hw hB hz1 hk1 hS => ?_)
  obtain ⟨x1, x2⟩ := u
  obtain ⟨hP1, hK1, hD1⟩ := hB
  rw [ht] at hP1
  obtain ⟨hP, hD⟩ := qah (wr := []) (w1 := (qdK a0 jif jb7 x1 x2 jjY jkC jj3 jif cyB jjA)) (wn := (qdK a0 jif jb7 x1 x2 jjY jkC jj3 jif cyB jjA)) hP hD [0, 1] [] hCc rfl (by decide +kernel) (by decide +kernel) rfl hk1 hFc hP1 hD1
  generalize H1 = H at hP hS ⊢
  refine lv_if_ne (tgt := 12) hx hb (qaa qwH 3 rfl) (by decide) (fun c4 => ?_) (fun c4 => ?_)
  · have hw := hw.1 c4
    exact ((W.vret hx hb hr (fun t ht hW => ⟨⟨(x1, x2, jkC, jj3), rfl, hw, by rw [ht]; exact hP, va_K.moved hW.alike hK, hD⟩, hS.F ht⟩) hS.2.2 (qaa qwH 6 rfl)))
  · have hw := hw.2 c4
    refine lv_aload_n hx hb (qaa qwH 4 rfl) rfl (lv_at hl 0 rfl) ?_
    obtain ⟨hCc, hPc, hDc, hFc⟩ := qac (ws' := (qdK a0 jif jb7 x1 x2 jjY jkC jj3 jif cyB jjA)) hP hD hS hA [0, 1] (by decide +kernel) rfl
    refine va_callv (va_runV (As := []) (rest := []) ⟨hx, hb, hml, hown, hts⟩ (qBx l dC dI cyB cyI cyJ cyP a0 jif H.size (.int x2) (jjY) jb7 jjA x1 jkC jj3 hw) (cwV 0 hts gX8_needs_X8_blameSign rfl rfl rfl (by decide +kernel) ⟨nbq rfl, nbq rfl⟩) ⟨qab, va_recv (q := (RX8, TX8, 7)) hK hPc (ci := 8) (q0 := 0) rfl rfl, qae hPc hK hDc hNw⟩ rfl rfl hl.1 rfl (lv_room (nbq rfl)) (qaa qwH 5 rfl) ⟨nbq rfl, nbq rfl⟩) hS (fun q _ h => hFc q h) hFc (fun u t H1 locs ht hvm hw hB hz1 hk1 hS => ?_)
    obtain ⟨x5, x6, x7⟩ := u
    obtain ⟨hP1, hK1, hD1⟩ := hB
    rw [ht] at hP1
    obtain ⟨hP, hD⟩ := qah (wr := []) (w1 := (qdK a0 jif jb7 x5 x2 jjY x6 x7 jif cyB jjA)) (wn := (qdK a0 jif jb7 x5 x2 jjY x6 x7 jif cyB jjA)) hP hD [0, 1] [] hCc rfl (by decide +kernel) (by decide +kernel) rfl hk1 hFc hP1 hD1
    generalize H1 = H at hP hS ⊢
    exact ((W.vret hx hb hr (fun t ht hW => ⟨⟨(x5, x2, x6, x7), rfl, hw, by rw [ht]; exact hP, va_K.moved hW.alike hK, hD⟩, hS.F ht⟩) hS.2.2 (qaa qwH 6 rfl)))
theorem qJ0 : ∀ w ∈ u_ws RX0 TX0 2, w ∈ wsX0_readLine := uiM qmh euX0 (by decide +kernel)
theorem qSQ : (.fieldLink RX0 18 "MarchHares$Book" "many" "I" : Cond) ∈ wsX0_readLine := qmh 262 (by decide +kernel)
theorem qamq : (.fieldLink RX0 9 "MarchHares$Book" "seen" "[I" : Cond) ∈ wsX0_readLine := qmh 257 (by decide +kernel)
theorem q0l : (.initialized RX10 : Cond) ∈ wsX0_readLine := qmh 2 (by decide +kernel)
theorem qP7 : (.static yX10_within : Cond) ∈ wsX0_readLine := qmh 658 (by decide +kernel)
set_option maxHeartbeats 4000000 in
set_option maxRecDepth 100000 in
theorem qJB {p : Program} {l : Launch} {e : Env} {s : State} {m : MethodId} {args : Array Value} {below : List Frame} {meth : Method} {c : Code} {A : Nat → Prop} (dC : Nat → ClassId) (dI : Nat → Nat → Nat) (cyB cyI cyJ cyP : ClassId) (a0 a1 jbF jjj : Nat) (jcI : Value) (jb3 : Int32) (jcq : NI) (Q : Int32 → Int32 → Int32 → Int32 → NI → Int32 → Prop) (C0 : cfx p s m args meth c cX0_readLine none wsX0_readLine RX0 5 A (dC, dI) (kT cyB cyI cyJ cyP)) : ∀ (H : Heap) (locs : List Loc) (ls : Array Slot) (jhR jcU jbM jeF : Int32) (jkG : NI) (jkY l3 : Int32), va_P (dC, dI) vwCl (qu8 a0 jjj jkY a1 jbF jb3 jhR jeF jcI jcU jbM jbF cyB jcq jjj cyI jkG) H → va_D A (qu8 a0 jjj jkY a1 jbF jb3 jhR jeF jcI jcU jbM jbF cyB jcq jjj cyI jkG) → va_S A s.heap H locs → lv_has ls 5 [(0, .ref a0), (1, .ref a1), (3, .int l3)] → qvE jb3 jcq Q jhR jcU jbM jeF jkG jkY l3 → W p l e (headSpec wsX0_readLine ({ frames := 3, cells := 0, slots := 0, locals := 63 })).room s m args below meth c H locs 0 0 (MQ below (va_Qv (fun (u : Int32 × Int32 × Int32 × Int32 × NI × Int32) => Q u.1 u.2.1 u.2.2.1 u.2.2.2.1 u.2.2.2.2.1 u.2.2.2.2.2) (cB (dC, dI) (kT cyB cyI cyJ cyP) A (fun u : Int32 × Int32 × Int32 × Int32 × NI × Int32 => ((qu8 a0 jjj u.2.2.2.2.2 a1 jbF jb3 u.1 u.2.2.2.1 jcI u.2.1 u.2.2.1 jbF cyB jcq jjj cyI u.2.2.2.2.1) : va_W))) A) args s 0 0 A) (F0 m 33 ls []) := by
  obtain ⟨hx, hb, hr, hts, hown, hlocks, hml, hA, hK, hNw⟩ := id C0
  intro H locs ls jhR jcU jbM jeF jkG jkY l3 hP hD hS hl hw
  refine lv_aload_n hx hb (qaa qeE 5 rfl) rfl (lv_at hl 1 rfl) ?_
  refine lv_iconst (v := 0) hx hb (qaa qeE 6 rfl) (by decide) ?_
  refine lv_bipush (v := 6) hx hb (qaa qeE 7 rfl) (by decide) ?_
  obtain ⟨hCc, hPc, hDc, hFc⟩ := qac (ws' := (qdK a1 jbF jb3 jhR jeF jcI jcU jbM jbF cyB jcq)) hP hD hS hA [1, 2] (by decide +kernel) rfl
  refine va_calli (va_runV (As := [.int 0, .int 6]) (rest := []) ⟨hx, hb, hml, hown, hts⟩ (qia l dC dI cyB cyI cyJ cyP a1 jbF H.size (jcI) jb3 jcq jhR jcU jbM jeF 0 6 hw) (cwV 2 hts gX0_readLine_X8_number rfl rfl rfl (by decide +kernel) ⟨nbq rfl, nbq rfl⟩) ⟨qab, va_recv (q := (RX8, TX8, 7)) hK hPc (ci := 8) (q0 := 0) rfl rfl, qae hPc hK hDc hNw⟩ rfl rfl hl.1 rfl (lv_room (nbq rfl)) (qaa qeE 8 rfl) ⟨nbq rfl, nbq rfl⟩) hS (fun q _ h => hFc q h) hFc (fun r16 u t H1 locs ht hvm hw hB hz1 hk1 hS => ?_)
  obtain ⟨x12, x13, x14, x15⟩ := u
  obtain ⟨hP1, hK1, hD1⟩ := hB
  rw [ht] at hP1
  obtain ⟨hP, hD⟩ := qad (wr := (qwj a0 jjj jkY jjj cyI jkG)) (w1 := (qdK a1 jbF jb3 x12 x15 jcI x13 x14 jbF cyB jcq)) (wn := (qu8 a0 jjj jkY a1 jbF jb3 x12 x15 jcI x13 x14 jbF cyB jcq jjj cyI jkG)) hP hD [1, 2] [0, 3] [0, 2, 3, 1] hCc rfl (by decide +kernel) (by decide +kernel) (by decide +kernel) rfl hk1 hFc hP1 hD1
  generalize H1 = H at hP hS ⊢
  refine lv_istore (lv' := [(4, .int r16), (0, .ref a0), (1, .ref a1), (3, .int l3)]) hx hb (qaa qeE 9 rfl) hl (by decide) rfl (fun ls hl => ?_)
  refine lv_aload_n hx hb (qaa qeE 10 rfl) rfl (lv_at hl 2 rfl) ?_
  refine lv_bipush (v := 59) hx hb (qaa qeE 11 rfl) (by decide) ?_
  obtain ⟨hCc, hPc, hDc, hFc⟩ := qac (ws' := (qdK a1 jbF jb3 x12 x15 jcI x13 x14 jbF cyB jcq)) hP hD hS hA [1, 2] (by decide +kernel) rfl
  refine va_callv (va_runV (As := [.int 59]) (rest := []) ⟨hx, hb, hml, hown, hts⟩ (qsY l dC dI cyB cyI cyJ cyP a1 jbF H.size (jcI) jb3 jcq x12 x15 x13 x14 59 hw) (cwV 1 hts gX0_readLine_X8_needs rfl rfl rfl (by decide +kernel) ⟨nbq rfl, nbq rfl⟩) ⟨qab, va_recv (q := (RX8, TX8, 7)) hK hPc (ci := 8) (q0 := 0) rfl rfl, qae hPc hK hDc hNw⟩ rfl rfl hl.1 rfl (lv_room (nbq rfl)) (qaa qeE 12 rfl) ⟨nbq rfl, nbq rfl⟩) hS (fun q _ h => hFc q h) hFc (fun u t H1 locs ht hvm hw hB hz1 hk1 hS => ?_)
  obtain ⟨x17, x18, x19, x20⟩ := u
  obtain ⟨hP1, hK1, hD1⟩ := hB
  rw [ht] at hP1
  obtain ⟨hP, hD⟩ := qad (wr := (qwj a0 jjj jkY jjj cyI jkG)) (w1 := (qdK a1 jbF jb3 x17 x18 jcI x19 x20 jbF cyB jcq)) (wn := (qu8 a0 jjj jkY a1 jbF jb3 x17 x18 jcI x19 x20 jbF cyB jcq jjj cyI jkG)) hP hD [1, 2] [0, 3] [0, 2, 3, 1] hCc rfl (by decide +kernel) (by decide +kernel) (by decide +kernel) rfl hk1 hFc hP1 hD1
  generalize H1 = H at hP hS ⊢
  refine lv_aload_n hx hb (qaa qeE 13 rfl) rfl (lv_at hl 2 rfl) ?_
  obtain ⟨hCc, hPc, hDc, hFc⟩ := qac (ws' := (qM7 a1 jbF jb3 x17 x18 jcI x19 x20)) hP hD hS hA [1] (by decide +kernel) rfl
  refine va_calli (va_runV (As := []) (rest := []) ⟨hx, hb, hml, hown, hts⟩ (qjR l dC dI cyB cyI cyJ cyP a1 H.size (.ref jbF) (.int jb3) (.int x17) (.int x18) (jcI) (.int x20) x19 hw) (cwV 0 hts gX0_readLine_X8_isFaulty rfl rfl rfl (by decide +kernel) ⟨nbq rfl, nbq rfl⟩) ⟨qab, va_recv (q := (RX8, TX8, 7)) hK hPc (ci := 8) (q0 := 0) rfl rfl, qae hPc hK hDc hNw⟩ rfl rfl hl.1 rfl (lv_room (nbq rfl)) (qaa qeE 14 rfl) ⟨nbq rfl, nbq rfl⟩) hS (fun q _ h => hFc q h) hFc (fun r21 u t H1 locs ht hvm hw hB hz1 hk1 hS => ?_)
  obtain ⟨hP1, hK1, hD1⟩ := hB
  rw [ht] at hP1
  obtain ⟨hP, hD⟩ := qad (wr := (qa6n a0 jjj jkY jbF cyB jcq jjj cyI jkG)) (w1 := (qM7 a1 jbF jb3 x17 x18 jcI x19 x20)) (wn := (qu8 a0 jjj jkY a1 jbF jb3 x17 x18 jcI x19 x20 jbF cyB jcq jjj cyI jkG)) hP hD [1] [0, 2, 3] [0, 3, 1, 2] hCc rfl (by decide +kernel) (by decide +kernel) (by decide +kernel) rfl hk1 hFc hP1 hD1
  generalize H1 = H at hP hS ⊢
  refine lv_if_ne (tgt := 73) hx hb (qaa qeE 15 rfl) (by decide) (fun c22 => ?_) (fun c22 => ?_)
  · have hw := hw.1 c22
    exact ((W.vret hx hb hr (fun t ht hW => ⟨⟨(x17, x19, x20, x18, jkG, jkY), rfl, hw, by rw [ht]; exact hP, va_K.moved hW.alike hK, hD⟩, hS.F ht⟩) hS.2.2 (qaa qid 11 rfl)))
  · have hw := hw.2 c22
    refine lv_aload_n hx hb (qaa qid 0 rfl) rfl (lv_at hl 1 rfl) ?_
    refine va_get (D := (dC, dI)) (ci := 0) (v := .ref jjj) (C := RX0) (T := TX0) (N := 2) hx hb hts qJ0 hown hK hP 0 rfl rfl 0 (by decide) (hts _ qamq) (fun _ h9 => h9) rfl (qaa qid 1 rfl) ?_
    refine lv_iload_n hx hb (qaa qid 2 rfl) rfl (lv_at hl 3 rfl) ?_
    refine lv_iload hx hb (qaa qid 3 rfl) (lv_at hl 0 rfl) ?_
    obtain ⟨hi9, hw⟩ := hw
    refine va_iast hx hb hK hP hD hS 3 1 rfl rfl hi9 (qaa qid 4 rfl) (fun H locs hP hD hS => ?_)
    obtain ⟨f23, ef23⟩ : ∃ y : NI, y = upd jkG l3.toNatClampNeg r16 := ⟨_, rfl⟩
    have hw := hw f23 ef23
    have hP : va_P (dC, dI) vwCl (qu8 a0 jjj jkY a1 jbF jb3 x17 x18 jcI x19 x20 jbF cyB jcq jjj cyI f23) H := by rw [ef23]; exact hP
    have hD : va_D A (qu8 a0 jjj jkY a1 jbF jb3 x17 x18 jcI x19 x20 jbF cyB jcq jjj cyI f23) := by rw [ef23]; exact hD
    refine lv_aload_n hx hb (qaa qid 5 rfl) rfl (lv_at hl 1 rfl) ?_
    refine lv_dup hx hb (qaa qid 6 rfl) rfl ?_
    refine va_get (D := (dC, dI)) (ci := 0) (v := .int jkY) (C := RX0) (T := TX0) (N := 2) hx hb hts qJ0 hown hK hP 0 rfl rfl 1 (by decide) (hts _ qSQ) (fun _ h9 => h9) rfl (qaa qid 7 rfl) ?_
    refine lv_iconst (v := 1) hx hb (qaa qid 8 rfl) (by decide) ?_
    refine lv_iadd hx hb (qaa qid 9 rfl) ?_
    refine lv_topi (fun x24 ex24 => ?_)
    have hw := hw x24 ex24
    refine va_put (D := (dC, dI)) (ci := 0) (v := .int x24) (ty := .int) (C := RX0) (T := TX0) (N := 2) hx hb hts qJ0 tyX0 tyX0_ok nmX0 hown hK hP hD hS 0 rfl rfl 1 (by decide) (hts _ qSQ) (fun _ h9 => h9) rfl (by decide +kernel) rfl rfl (nbq rfl) (qaa qid 10 rfl) (fun H locs hP hD hS => ?_)
    have hP : va_P (dC, dI) vwCl (qu8 a0 jjj x24 a1 jbF jb3 x17 x18 jcI x19 x20 jbF cyB jcq jjj cyI f23) H := hP
    have hD : va_D A (qu8 a0 jjj x24 a1 jbF jb3 x17 x18 jcI x19 x20 jbF cyB jcq jjj cyI f23) := hD
    exact ((W.vret hx hb hr (fun t ht hW => ⟨⟨(x17, x19, x20, x18, f23, x24), rfl, hw, by rw [ht]; exact hP, va_K.moved hW.alike hK, hD⟩, hS.F ht⟩) hS.2.2 (qaa qid 11 rfl)))
set_option maxHeartbeats 4000000 in
set_option maxRecDepth 100000 in
theorem qaHc (l : Launch) (dC : Nat → ClassId) (dI : Nat → Nat → Nat) (cyB cyI cyJ cyP : ClassId) (a0 a1 jbF jjj sz : Nat) (jcI : Value) (jb3 : Int32) (jcq : NI) (jhR jcU jbM jeF : Int32) (jkG : NI) (jkY p2 : Int32) {Q : Int32 → Int32 → Int32 → Int32 → NI → Int32 → Prop} (hw : qUq jb3 jcq jhR jcU jbM jeF jkG jkY p2 Q) : Met l yX0_readLine wsX0_readLine ({ frames := 3, cells := 0, slots := 0, locals := 63 }) (va_Pc [.ref a0, .ref a1, .int p2] (cPc (dC, dI) (kT cyB cyI cyJ cyP) (qu8 a0 jjj jkY a1 jbF jb3 jhR jeF jcI jcU jbM jbF cyB jcq jjj cyI jkG) sz)) (va_Qv (fun (u : Int32 × Int32 × Int32 × Int32 × NI × Int32) => Q u.1 u.2.1 u.2.2.1 u.2.2.2.1 u.2.2.2.2.1 u.2.2.2.2.2) (cB (dC, dI) (kT cyB cyI cyJ cyP) (va_A (qu8 a0 jjj jkY a1 jbF jb3 jhR jeF jcI jcU jbM jbF cyB jcq jjj cyI jkG) sz) (fun u : Int32 × Int32 × Int32 × Int32 × NI × Int32 => ((qu8 a0 jjj u.2.2.2.2.2 a1 jbF jb3 u.1 u.2.2.2.1 jcI u.2.1 u.2.2.1 jbF cyB jcq jjj cyI u.2.2.2.2.1) : va_W))) (va_A (qu8 a0 jjj jkY a1 jbF jb3 jhR jeF jcI jcU jbM jbF cyB jcq jjj cyI jkG) sz)) 0 0 (va_A (qu8 a0 jjj jkY a1 jbF jb3 jhR jeF jcI jcU jbM jbF cyB jcq jjj cyI jkG) sz) := by
  refine Met.ofW (cc := cX0_readLine) (maxL := 5) (ret := none) (by decide) rfl ?_
  intro p e s m args below meth c s₁ B hml hv
  obtain ⟨rfl, hsz, hP, hK, hD0, hNw⟩ := hv
  have hx := B.exec
  have hb := B.bytes
  have hr := B.returns
  have hts := atoms_spec (ws := wsX0_readLine) B.pre
  have hown : s.vm.findClass RX0 = some m.cls := findClass_of_methodNamed B.named
  have hlocks := B.notSynchronized
  subst hsz
  have hD := hD0.self (sz := s.heap.size)
  generalize hAe : va_A (qu8 a0 jjj jkY a1 jbF jb3 jhR jeF jcI jcU jbM jbF cyB jcq jjj cyI jkG) s.heap.size = A at hD ⊢
  have hA : ∀ q : Nat, s.heap.size ≤ q → A q := fun q h => by rw [← hAe]; exact Or.inr h
  have hS : va_S A s.heap s.heap [] := va_S.rf
  have hP : va_P (dC, dI) vwCl (qu8 a0 jjj jkY a1 jbF jb3 jhR jeF jcI jcU jbM jbF cyB jcq jjj cyI jkG) s.heap := hP
  have hl := lv_entry ([.ref a0, .ref a1, .int p2]) (n := 5) (nbq rfl)
  rw [lg_entry_eq]
  generalize (lg_sl ([.ref a0, .ref a1, .int p2]) ++ List.replicate (5 - (lg_sl ([.ref a0, .ref a1, .int p2])).length) Slot.unset).toArray = ls at hl ⊢
  have hl : lv_has ls 5 [(0, .ref a0), (1, .ref a1), (2, .int p2)] := hl
  have C0 : cfx p s m _ meth c cX0_readLine none wsX0_readLine RX0 5 A (dC, dI) (kT cyB cyI cyJ cyP) := ⟨hx, hb, hr, hts, hown, hlocks, hml, hA, hK, hNw⟩
  clear hAe
  obtain ⟨H, hH⟩ : ∃ H, H = s.heap := ⟨_, rfl⟩
  rw [← hH] at hP ⊢
  have hS : va_S A s.heap H [] := by rw [hH]; exact va_S.rf
  have hS := hS
  refine lv_aload_n hx hb (qaa qfY 0 rfl) rfl (lv_at hl 1 rfl) ?_
  refine lv_iconst (v := 0) hx hb (qaa qfY 1 rfl) (by decide) ?_
  refine lv_iload_n hx hb (qaa qfY 2 rfl) rfl (lv_at hl 2 rfl) ?_
  refine lv_iconst (v := 1) hx hb (qaa qfY 3 rfl) (by decide) ?_
  refine lv_isub hx hb (qaa qfY 4 rfl) ?_
  obtain ⟨hCc, hPc, hDc, hFc⟩ := qac (ws' := (qdK a1 jbF jb3 jhR jeF jcI jcU jbM jbF cyB jcq)) hP hD hS hA [1, 2] (by decide +kernel) rfl
  refine va_calli (va_runV (As := [.int 0, .int (p2 - 1)]) (rest := []) ⟨hx, hb, hml, hown, hts⟩ (qia l dC dI cyB cyI cyJ cyP a1 jbF H.size (jcI) jb3 jcq jhR jcU jbM jeF 0 (p2 - 1) hw) (cwV 2 hts gX0_readLine_X8_number rfl rfl rfl (by decide +kernel) ⟨nbq rfl, nbq rfl⟩) ⟨qab, va_recv (q := (RX8, TX8, 7)) hK hPc (ci := 8) (q0 := 0) rfl rfl, qae hPc hK hDc hNw⟩ rfl rfl hl.1 rfl (lv_room (nbq rfl)) (qaa qfY 5 rfl) ⟨nbq rfl, nbq rfl⟩) hS (fun q _ h => hFc q h) hFc (fun r5 u t H1 locs ht hvm hw hB hz1 hk1 hS => ?_)
  obtain ⟨x1, x2, x3, x4⟩ := u
  obtain ⟨hP1, hK1, hD1⟩ := hB
  rw [ht] at hP1
  obtain ⟨hP, hD⟩ := qad (wr := (qwj a0 jjj jkY jjj cyI jkG)) (w1 := (qdK a1 jbF jb3 x1 x4 jcI x2 x3 jbF cyB jcq)) (wn := (qu8 a0 jjj jkY a1 jbF jb3 x1 x4 jcI x2 x3 jbF cyB jcq jjj cyI jkG)) hP hD [1, 2] [0, 3] [0, 2, 3, 1] hCc rfl (by decide +kernel) (by decide +kernel) (by decide +kernel) rfl hk1 hFc hP1 hD1
  generalize H1 = H at hP hS ⊢
  refine lv_istore_n (lv' := [(3, .int r5), (0, .ref a0), (1, .ref a1), (2, .int p2)]) hx hb (qaa qfY 6 rfl) rfl hl (by decide) rfl (fun ls hl => ?_)
  refine lv_iload_n hx hb (qaa qfY 7 rfl) rfl (lv_at hl 0 rfl) ?_
  refine lv_iconst (v := 0) hx hb (qaa qfY 8 rfl) (by decide) ?_
  refine lv_iload_n hx hb (qaa qfY 9 rfl) rfl (lv_at hl 3 rfl) ?_
  refine lv_iconst (v := 1) hx hb (qaa qfY 10 rfl) (by decide) ?_
  refine lv_isub hx hb (qaa qfY 11 rfl) ?_
  obtain ⟨hCc, hPc, hDc, hFc⟩ := qac (ws' := []) hP hD hS hA [] (by decide +kernel) rfl
  refine va_calli (va_runSN (As := [.int r5, .int 0, .int (p2 - 1)]) (rest := []) ⟨hx, hb, hml, hown, hts⟩ (qzJ l dC dI cyB cyI cyJ cyP H.size r5 0 (p2 - 1) hw) ⟨(va_cnB 3 hts gX0_readLine_X10_within_n39 rfl rfl rfl (nw_7 hNw) (hts _ q0l) (by decide +kernel) ⟨nbq rfl, nbq rfl⟩), (hts _ qP7), trivial⟩ ⟨qab, qae hPc hK hDc hNw⟩ rfl rfl hl.1 rfl (lv_room (nbq rfl)) (qaa qfY 12 rfl) ⟨nbq rfl, nbq rfl⟩) hS (fun q _ h => hFc q h) hFc (fun r6 u t H1 locs ht hvm hw hB hz1 hk1 hS => ?_)
  obtain ⟨hP1, hK1, hD1⟩ := hB
  rw [ht] at hP1
  obtain ⟨hP, hD⟩ := qah (wr := (qu8 a0 jjj jkY a1 jbF jb3 x1 x4 jcI x2 x3 jbF cyB jcq jjj cyI jkG)) (w1 := []) (wn := (qu8 a0 jjj jkY a1 jbF jb3 x1 x4 jcI x2 x3 jbF cyB jcq jjj cyI jkG)) hP hD [] [0, 1, 2, 3] hCc rfl (by decide +kernel) (by decide +kernel) rfl hk1 hFc hP1 hD1
  generalize H1 = H at hP hS ⊢
  refine lv_if_eq (tgt := 33) hx hb (qaa qfY 13 rfl) (by decide) (fun c7 => ?_) (fun c7 => ?_)
  · have hw := hw.1 c7
    exact qJB dC dI cyB cyI cyJ cyP a0 a1 jbF jjj jcI jb3 jcq Q C0 _ _ _ x1 x2 x3 x4 jkG jkY r5 hP hD hS (lv_sub hl [1, 2, 0] rfl) hw
  · have hw := hw.2 c7
    refine lv_aload_n hx hb (qaa qfY 14 rfl) rfl (lv_at hl 1 rfl) ?_
    refine lv_iload_n hx hb (qaa qfY 15 rfl) rfl (lv_at hl 0 rfl) ?_
    obtain ⟨hCc, hPc, hDc, hFc⟩ := qac (ws' := (qwj a0 jjj jkY jjj cyI jkG)) hP hD hS hA [0, 3] (by decide +kernel) rfl
    refine va_calli (va_runV (As := [.int r5]) (rest := []) ⟨hx, hb, hml, hown, hts⟩ (qaDK l dC dI cyB cyI cyJ cyP a0 jjj H.size (.int jkY) jkG r5 hw) (cwV 1 hts gX0_readLine_X0_tells rfl rfl rfl (by decide +kernel) ⟨nbq rfl, nbq rfl⟩) ⟨qab, va_recv (q := (RX0, TX0, 2)) hK hPc (ci := 0) (q0 := 0) rfl rfl, qae hPc hK hDc hNw⟩ rfl rfl hl.1 rfl (lv_room (nbq rfl)) (qaa qeE 0 rfl) ⟨nbq rfl, nbq rfl⟩) hS (fun q _ h => hFc q h) hFc (fun r8 u t H1 locs ht hvm hw hB hz1 hk1 hS => ?_)
    obtain ⟨hP1, hK1, hD1⟩ := hB
    rw [ht] at hP1
    obtain ⟨hP, hD⟩ := qad (wr := (qdK a1 jbF jb3 x1 x4 jcI x2 x3 jbF cyB jcq)) (w1 := (qwj a0 jjj jkY jjj cyI jkG)) (wn := (qu8 a0 jjj jkY a1 jbF jb3 x1 x4 jcI x2 x3 jbF cyB jcq jjj cyI jkG)) hP hD [0, 3] [1, 2] [2, 0, 1, 3] hCc rfl (by decide +kernel) (by decide +kernel) (by decide +kernel) rfl hk1 hFc hP1 hD1
    generalize H1 = H at hP hS ⊢
    refine lv_if_eq (tgt := 33) hx hb (qaa qeE 1 rfl) (by decide) (fun c9 => ?_) (fun c9 => ?_)
    · have hw := hw.1 c9
      exact qJB dC dI cyB cyI cyJ cyP a0 a1 jbF jjj jcI jb3 jcq Q C0 _ _ _ x1 x2 x3 x4 jkG jkY r5 hP hD hS (lv_sub hl [1, 2, 0] rfl) hw
    · have hw := hw.2 c9
      refine lv_aload_n hx hb (qaa qeE 2 rfl) rfl (lv_at hl 2 rfl) ?_
      refine lv_iconst (v := 2) hx hb (qaa qeE 3 rfl) (by decide) ?_
      obtain ⟨hCc, hPc, hDc, hFc⟩ := qac (ws' := (qM7 a1 jbF jb3 x1 x4 jcI x2 x3)) hP hD hS hA [1] (by decide +kernel) rfl
      refine va_callv (va_runV (As := [.int 2]) (rest := []) ⟨hx, hb, hml, hown, hts⟩ (qn6 l dC dI cyB cyI cyJ cyP a1 H.size (.ref jbF) (.int jb3) (.int x1) (jcI) x4 x2 x3 2 hw) (cwV 1 hts gX0_readLine_X8_blameToken rfl rfl rfl (by decide +kernel) ⟨nbq rfl, nbq rfl⟩) ⟨qab, va_recv (q := (RX8, TX8, 7)) hK hPc (ci := 8) (q0 := 0) rfl rfl, qae hPc hK hDc hNw⟩ rfl rfl hl.1 rfl (lv_room (nbq rfl)) (qaa qeE 4 rfl) ⟨nbq rfl, nbq rfl⟩) hS (fun q _ h => hFc q h) hFc (fun u t H1 locs ht hvm hw hB hz1 hk1 hS => ?_)
      obtain ⟨x10, x11⟩ := u
      obtain ⟨hP1, hK1, hD1⟩ := hB
      rw [ht] at hP1
      obtain ⟨hP, hD⟩ := qad (wr := (qa6n a0 jjj jkY jbF cyB jcq jjj cyI jkG)) (w1 := (qM7 a1 jbF jb3 x1 x4 jcI x10 x11)) (wn := (qu8 a0 jjj jkY a1 jbF jb3 x1 x4 jcI x10 x11 jbF cyB jcq jjj cyI jkG)) hP hD [1] [0, 2, 3] [0, 3, 1, 2] hCc rfl (by decide +kernel) (by decide +kernel) (by decide +kernel) rfl hk1 hFc hP1 hD1
      generalize H1 = H at hP hS ⊢
      exact qJB dC dI cyB cyI cyJ cyP a0 a1 jbF jjj jcI jb3 jcq Q C0 _ _ _ x1 x10 x11 x4 jkG jkY r5 hP hD hS (lv_sub hl [1, 2, 0] rfl) hw
set_option maxHeartbeats 4000000 in
set_option maxRecDepth 100000 in
theorem qauN {p : Program} {l : Launch} {e : Env} {s : State} {m : MethodId} {args : Array Value} {below : List Frame} {meth : Method} {c : Code} {A : Nat → Prop} (dC : Nat → ClassId) (dI : Nat → Nat → Nat) (cyB cyI cyJ cyP : ClassId) (a0 a1 jjj jbF : Nat) (jcI : Value) (jb3 : Int32) (jcq : NI) (Q : Int32 → NI → Int32 → Int32 → Int32 → Int32 → Prop) (C0 : cfx p s m args meth c cX0_readFrom none wsX0_readFrom RX0 4 A (dC, dI) (kT cyB cyI cyJ cyP)) : ∀ (n : Nat) (H : Heap) (locs : List Loc) (ls : Array Slot) (jkY : Int32) (jkG : NI) (jhR jcU jbM jeF l2 l3 : Int32), va_P (dC, dI) vwCl (qGR a0 jjj jkY jjj cyI jkG a1 jbF jb3 jhR jeF jcI jcU jbM jbF cyB jcq) H → va_D A (qGR a0 jjj jkY jjj cyI jkG a1 jbF jb3 jhR jeF jcI jcU jbM jbF cyB jcq) → va_S A s.heap H locs → lv_has ls 4 [(0, .ref a0), (1, .ref a1), (2, .int l2), (3, .int l3)] → qEy jb3 jcq Q n jkY jkG jhR jcU jbM jeF l2 l3 → W p l e (headSpec wsX0_readFrom ({ frames := 4, cells := 0, slots := 0, locals := 87 })).room s m args below meth c H locs 0 0 (MQ below (va_Qv (fun (u : Int32 × NI × Int32 × Int32 × Int32 × Int32) => Q u.1 u.2.1 u.2.2.1 u.2.2.2.1 u.2.2.2.2.1 u.2.2.2.2.2) (cB (dC, dI) (kT cyB cyI cyJ cyP) A (fun u : Int32 × NI × Int32 × Int32 × Int32 × Int32 => ((qGR a0 jjj u.1 jjj cyI u.2.1 a1 jbF jb3 u.2.2.1 u.2.2.2.2.2 jcI u.2.2.2.1 u.2.2.2.2.1 jbF cyB jcq) : va_W))) A) args s 0 0 A) (F0 m 6 ls []) := by
  obtain ⟨hx, hb, hr, hts, hown, hlocks, hml, hA, hK, hNw⟩ := id C0
  intro n
  induction n with
  | zero => intro H locs ls jkY jkG jhR jcU jbM jeF l2 l3 hP hD hS hl hw; exact False.elim hw
  | succ n ih =>
    intro H locs ls jkY jkG jhR jcU jbM jeF l2 l3 hP hD hS hl hw
    refine lv_iload_n hx hb (qaa qfq 4 rfl) rfl (lv_at hl 3 rfl) ?_
    refine lv_bipush (v := 8) hx hb (qaa qfq 5 rfl) (by decide) ?_
    refine lv_icmp_gt (tgt := 38) hx hb (qaa qfq 6 rfl) (by decide) (fun c3 => ?_) (fun c3 => ?_)
    · have hw := hw.1 c3
      exact ((W.vret hx hb hr (fun t ht hW => ⟨⟨(jkY, jkG, jhR, jcU, jbM, jeF), rfl, hw, by rw [ht]; exact hP, va_K.moved hW.alike hK, hD⟩, hS.F ht⟩) hS.2.2 (qaa qvz 3 rfl)))
    · have hw := hw.2 c3
      refine lv_aload_n hx hb (qaa qfq 7 rfl) rfl (lv_at hl 1 rfl) ?_
      obtain ⟨hCc, hPc, hDc, hFc⟩ := qac (ws' := (qM7 a1 jbF jb3 jhR jeF jcI jcU jbM)) hP hD hS hA [2] (by decide +kernel) rfl
      refine va_calli (va_runV (As := []) (rest := []) ⟨hx, hb, hml, hown, hts⟩ (qjR l dC dI cyB cyI cyJ cyP a1 H.size (.ref jbF) (.int jb3) (.int jhR) (.int jeF) (jcI) (.int jbM) jcU hw) (cwV 0 hts gX0_readFrom_X8_isFaulty rfl rfl rfl (by decide +kernel) ⟨nbq rfl, nbq rfl⟩) ⟨qab, va_recv (q := (RX8, TX8, 7)) hK hPc (ci := 8) (q0 := 0) rfl rfl, qae hPc hK hDc hNw⟩ rfl rfl hl.1 rfl (lv_room (nbq rfl)) (qaa qfq 8 rfl) ⟨nbq rfl, nbq rfl⟩) hS (fun q _ h => hFc q h) hFc (fun r4 u t H1 locs ht hvm hw hB hz1 hk1 hS => ?_)
      obtain ⟨hP1, hK1, hD1⟩ := hB
      rw [ht] at hP1
      obtain ⟨hP, hD⟩ := qad (wr := [(a0, .inr (0, [.ref jjj, .int jkY])), (jjj, .inl (cyI, 8, .inl jkG)), (jbF, .inl (cyB, 600, .inl jcq))]) (w1 := (qM7 a1 jbF jb3 jhR jeF jcI jcU jbM)) (wn := (qGR a0 jjj jkY jjj cyI jkG a1 jbF jb3 jhR jeF jcI jcU jbM jbF cyB jcq)) hP hD [2] [0, 1, 3] [0, 1, 3, 2] hCc rfl (by decide +kernel) (by decide +kernel) (by decide +kernel) rfl hk1 hFc hP1 hD1
      generalize H1 = H at hP hS ⊢
      refine lv_if_ne (tgt := 38) hx hb (qaa qfq 9 rfl) (by decide) (fun c5 => ?_) (fun c5 => ?_)
      · have hw := hw.1 c5
        exact ((W.vret hx hb hr (fun t ht hW => ⟨⟨(jkY, jkG, jhR, jcU, jbM, jeF), rfl, hw, by rw [ht]; exact hP, va_K.moved hW.alike hK, hD⟩, hS.F ht⟩) hS.2.2 (qaa qvz 3 rfl)))
      · have hw := hw.2 c5
        refine lv_aload_n hx hb (qaa qfq 10 rfl) rfl (lv_at hl 1 rfl) ?_
        obtain ⟨hCc, hPc, hDc, hFc⟩ := qac (ws' := (qdK a1 jbF jb3 jhR jeF jcI jcU jbM jbF cyB jcq)) hP hD hS hA [2, 3] (by decide +kernel) rfl
        refine va_calli (va_runV (As := []) (rest := []) ⟨hx, hb, hml, hown, hts⟩ (qN4 l dC dI cyB cyI cyJ cyP a1 jbF H.size (.int jeF) (jcI) (.int jcU) (.int jbM) jb3 jcq jhR hw) (cwV 0 hts gX0_readFrom_X8_isEnded rfl rfl rfl (by decide +kernel) ⟨nbq rfl, nbq rfl⟩) ⟨qab, va_recv (q := (RX8, TX8, 7)) hK hPc (ci := 8) (q0 := 0) rfl rfl, qae hPc hK hDc hNw⟩ rfl rfl hl.1 rfl (lv_room (nbq rfl)) (qaa qfq 11 rfl) ⟨nbq rfl, nbq rfl⟩) hS (fun q _ h => hFc q h) hFc (fun r7 u t H1 locs ht hvm hw hB hz1 hk1 hS => ?_)
        obtain ⟨x6, rfl⟩ : ∃ z, z = u := ⟨_, rfl⟩
        obtain ⟨hP1, hK1, hD1⟩ := hB
        rw [ht] at hP1
        obtain ⟨hP, hD⟩ := qah (wr := (qwj a0 jjj jkY jjj cyI jkG)) (w1 := (qdK a1 jbF jb3 x6 jeF jcI jcU jbM jbF cyB jcq)) (wn := (qGR a0 jjj jkY jjj cyI jkG a1 jbF jb3 x6 jeF jcI jcU jbM jbF cyB jcq)) hP hD [2, 3] [0, 1] hCc rfl (by decide +kernel) (by decide +kernel) rfl hk1 hFc hP1 hD1
        generalize H1 = H at hP hS ⊢
        refine lv_if_ne (tgt := 38) hx hb (qaa qfq 12 rfl) (by decide) (fun c8 => ?_) (fun c8 => ?_)
        · have hw := hw.1 c8
          exact ((W.vret hx hb hr (fun t ht hW => ⟨⟨(jkY, jkG, x6, jcU, jbM, jeF), rfl, hw, by rw [ht]; exact hP, va_K.moved hW.alike hK, hD⟩, hS.F ht⟩) hS.2.2 (qaa qvz 3 rfl)))
        · have hw := hw.2 c8
          refine lv_aload_n hx hb (qaa qfq 13 rfl) rfl (lv_at hl 0 rfl) ?_
          refine lv_aload_n hx hb (qaa qfq 14 rfl) rfl (lv_at hl 1 rfl) ?_
          refine lv_iload_n hx hb (qaa qfq 15 rfl) rfl (lv_at hl 2 rfl) ?_
          obtain ⟨hCc, hPc, hDc, hFc⟩ := qac (ws' := (qu8 a0 jjj jkY a1 jbF jb3 x6 jeF jcI jcU jbM jbF cyB jcq jjj cyI jkG)) hP hD hS hA [0, 2, 3, 1] (by decide +kernel) rfl
          refine va_callv (va_runV (As := [.ref a1, .int l2]) (rest := []) ⟨hx, hb, hml, hown, hts⟩ (qaHc l dC dI cyB cyI cyJ cyP a0 a1 jbF jjj H.size (jcI) jb3 jcq x6 jcU jbM jeF jkG jkY l2 hw) (cwV 2 hts gX0_readFrom_X0_readLine rfl rfl rfl (by decide +kernel) ⟨nbq rfl, nbq rfl⟩) ⟨qab, va_recv (q := (RX0, TX0, 2)) hK hPc (ci := 0) (q0 := 0) rfl rfl, qae hPc hK hDc hNw⟩ rfl rfl hl.1 rfl (lv_room (nbq rfl)) (qaa qvz 0 rfl) ⟨nbq rfl, nbq rfl⟩) hS (fun q _ h => hFc q h) hFc (fun u t H1 locs ht hvm hw hB hz1 hk1 hS => ?_)
          obtain ⟨x9, x10, x11, x12, f13, x14⟩ := u
          obtain ⟨hP1, hK1, hD1⟩ := hB
          rw [ht] at hP1
          obtain ⟨hP, hD⟩ := qad (wr := []) (w1 := (qu8 a0 jjj x14 a1 jbF jb3 x9 x12 jcI x10 x11 jbF cyB jcq jjj cyI f13)) (wn := (qGR a0 jjj x14 jjj cyI f13 a1 jbF jb3 x9 x12 jcI x10 x11 jbF cyB jcq)) hP hD [0, 2, 3, 1] [] [0, 3, 1, 2] hCc rfl (by decide +kernel) (by decide +kernel) (by decide +kernel) rfl hk1 hFc hP1 hD1
          generalize H1 = H at hP hS ⊢
          obtain ⟨x15, ex15⟩ : ∃ y : Int32, y = l3 + 1 := ⟨_, rfl⟩
          have hw := hw x15 ex15
          refine lv_iinc (v := x15) (lv' := [(3, .int x15), (0, .ref a0), (1, .ref a1), (2, .int l2)]) hx hb (qaa qvz 1 rfl) hl (k := 3) rfl (by rw [ex15]; rfl) (by decide) rfl (fun ls hl => ?_)
          refine lv_goto (tgt := 6) hx hb (qaa qvz 2 rfl) (by decide) ?_
          exact ih _ _ _ x14 f13 x9 x10 x11 x12 l2 x15 hP hD hS (lv_sub hl [1, 2, 3, 0] rfl) hw
set_option maxHeartbeats 4000000 in
set_option maxRecDepth 100000 in
theorem qaG5 (l : Launch) (dC : Nat → ClassId) (dI : Nat → Nat → Nat) (cyB cyI cyJ cyP : ClassId) (a0 a1 jjj jbF sz : Nat) (jcI : Value) (jb3 : Int32) (jcq : NI) (jkY : Int32) (jkG : NI) (jhR jcU jbM jeF p2 : Int32) {Q : Int32 → NI → Int32 → Int32 → Int32 → Int32 → Prop} (hw : q7H jb3 jcq jkY jkG jhR jcU jbM jeF p2 Q) : Met l yX0_readFrom wsX0_readFrom ({ frames := 4, cells := 0, slots := 0, locals := 87 }) (va_Pc [.ref a0, .ref a1, .int p2] (cPc (dC, dI) (kT cyB cyI cyJ cyP) (qGR a0 jjj jkY jjj cyI jkG a1 jbF jb3 jhR jeF jcI jcU jbM jbF cyB jcq) sz)) (va_Qv (fun (u : Int32 × NI × Int32 × Int32 × Int32 × Int32) => Q u.1 u.2.1 u.2.2.1 u.2.2.2.1 u.2.2.2.2.1 u.2.2.2.2.2) (cB (dC, dI) (kT cyB cyI cyJ cyP) (va_A (qGR a0 jjj jkY jjj cyI jkG a1 jbF jb3 jhR jeF jcI jcU jbM jbF cyB jcq) sz) (fun u : Int32 × NI × Int32 × Int32 × Int32 × Int32 => ((qGR a0 jjj u.1 jjj cyI u.2.1 a1 jbF jb3 u.2.2.1 u.2.2.2.2.2 jcI u.2.2.2.1 u.2.2.2.2.1 jbF cyB jcq) : va_W))) (va_A (qGR a0 jjj jkY jjj cyI jkG a1 jbF jb3 jhR jeF jcI jcU jbM jbF cyB jcq) sz)) 0 0 (va_A (qGR a0 jjj jkY jjj cyI jkG a1 jbF jb3 jhR jeF jcI jcU jbM jbF cyB jcq) sz) := by
  refine Met.ofW (cc := cX0_readFrom) (maxL := 4) (ret := none) (by decide) rfl ?_
  intro p e s m args below meth c s₁ B hml hv
  obtain ⟨rfl, hsz, hP, hK, hD0, hNw⟩ := hv
  have hx := B.exec
  have hb := B.bytes
  have hr := B.returns
  have hts := atoms_spec (ws := wsX0_readFrom) B.pre
  have hown : s.vm.findClass RX0 = some m.cls := findClass_of_methodNamed B.named
  have hlocks := B.notSynchronized
  subst hsz
  have hD := hD0.self (sz := s.heap.size)
  generalize hAe : va_A (qGR a0 jjj jkY jjj cyI jkG a1 jbF jb3 jhR jeF jcI jcU jbM jbF cyB jcq) s.heap.size = A at hD ⊢
  have hA : ∀ q : Nat, s.heap.size ≤ q → A q := fun q h => by rw [← hAe]; exact Or.inr h
  have hS : va_S A s.heap s.heap [] := va_S.rf
  have hP : va_P (dC, dI) vwCl (qGR a0 jjj jkY jjj cyI jkG a1 jbF jb3 jhR jeF jcI jcU jbM jbF cyB jcq) s.heap := hP
  have hl := lv_entry ([.ref a0, .ref a1, .int p2]) (n := 4) (nbq rfl)
  rw [lg_entry_eq]
  generalize (lg_sl ([.ref a0, .ref a1, .int p2]) ++ List.replicate (4 - (lg_sl ([.ref a0, .ref a1, .int p2])).length) Slot.unset).toArray = ls at hl ⊢
  have hl : lv_has ls 4 [(0, .ref a0), (1, .ref a1), (2, .int p2)] := hl
  have C0 : cfx p s m _ meth c cX0_readFrom none wsX0_readFrom RX0 4 A (dC, dI) (kT cyB cyI cyJ cyP) := ⟨hx, hb, hr, hts, hown, hlocks, hml, hA, hK, hNw⟩
  clear hAe
  obtain ⟨H, hH⟩ : ∃ H, H = s.heap := ⟨_, rfl⟩
  rw [← hH] at hP ⊢
  have hS : va_S A s.heap H [] := by rw [hH]; exact va_S.rf
  have hS := hS
  refine lv_aload_n hx hb (qaa qfq 0 rfl) rfl (lv_at hl 0 rfl) ?_
  obtain ⟨hCc, hPc, hDc, hFc⟩ := qac (ws' := (qwj a0 jjj jkY jjj cyI jkG)) hP hD hS hA [0, 1] (by decide +kernel) rfl
  refine va_callv (va_runV (As := []) (rest := []) ⟨hx, hb, hml, hown, hts⟩ (qace l dC dI cyB cyI cyJ cyP a0 jjj H.size jkY jkG hw) (cwV 0 hts gX0_readFrom_X0_clear rfl rfl rfl (by decide +kernel) ⟨nbq rfl, nbq rfl⟩) ⟨qab, va_recv (q := (RX0, TX0, 2)) hK hPc (ci := 0) (q0 := 0) rfl rfl, qae hPc hK hDc hNw⟩ rfl rfl hl.1 rfl (lv_room (nbq rfl)) (qaa qfq 1 rfl) ⟨nbq rfl, nbq rfl⟩) hS (fun q _ h => hFc q h) hFc (fun u t H1 locs ht hvm hw hB hz1 hk1 hS => ?_)
  obtain ⟨x1, f2⟩ := u
  obtain ⟨hP1, hK1, hD1⟩ := hB
  rw [ht] at hP1
  obtain ⟨hP, hD⟩ := qad (wr := (qdK a1 jbF jb3 jhR jeF jcI jcU jbM jbF cyB jcq)) (w1 := (qwj a0 jjj x1 jjj cyI f2)) (wn := (qGR a0 jjj x1 jjj cyI f2 a1 jbF jb3 jhR jeF jcI jcU jbM jbF cyB jcq)) hP hD [0, 1] [2, 3] [2, 3, 0, 1] hCc rfl (by decide +kernel) (by decide +kernel) (by decide +kernel) rfl hk1 hFc hP1 hD1
  generalize H1 = H at hP hS ⊢
  refine lv_iconst (v := 0) hx hb (qaa qfq 2 rfl) (by decide) ?_
  refine lv_istore_n (lv' := [(3, .int 0), (0, .ref a0), (1, .ref a1), (2, .int p2)]) hx hb (qaa qfq 3 rfl) rfl hl (by decide) rfl (fun ls hl => ?_)
  obtain ⟨n9, hw⟩ := hw
  exact qauN dC dI cyB cyI cyJ cyP a0 a1 jjj jbF jcI jb3 jcq Q C0 n9 _ _ _ x1 f2 jhR jcU jbM jeF p2 0 hP hD hS (lv_sub hl [1, 2, 3, 0] rfl) hw
theorem qaKh : ∀ w ∈ u_ws RX0 TX0 2, w ∈ wsX10_book := uiM qrf euX0 (by decide +kernel)
theorem qqo : ∀ w ∈ u_ws RX10 TX10 19, w ∈ wsX10_book := uiM qrf qyE (by decide +kernel)
theorem qaJN : ∀ w ∈ u_ws RX2 TX2 12, w ∈ wsX10_book := uiM qrf qLg (by decide +kernel)
theorem qaI1 : ∀ w ∈ u_ws RX8 TX8 7, w ∈ wsX10_book := uiM qrf euX8 (by decide +kernel)
theorem qO1 : (.fieldLink RX10 10 "MarchHares" "tape" "LMarchHares$Tape;" : Cond) ∈ wsX10_book := qrf 16 (by decide +kernel)
theorem qao3 : (.fieldLink RX10 120 "MarchHares$Tape" "fault" "I" : Cond) ∈ wsX10_book := qrf 640 (by decide +kernel)
theorem qapl : (.fieldLink RX10 149 "MarchHares$Down" "forms" "I" : Cond) ∈ wsX10_book := qrf 1557 (by decide +kernel)
theorem qauc : (.fieldLink RX10 171 "MarchHares$Book" "many" "I" : Cond) ∈ wsX10_book := qrf 2386 (by decide +kernel)
theorem qavp : (.fieldLink RX10 19 "MarchHares" "ground" "LMarchHares$Down;" : Cond) ∈ wsX10_book := qrf 20 (by decide +kernel)
theorem qPC : (.fieldLink RX10 39 "MarchHares" "lines" "LMarchHares$Book;" : Cond) ∈ wsX10_book := qrf 70 (by decide +kernel)
theorem qOX : (.fieldLink RX10 43 "MarchHares" "spareLines" "LMarchHares$Book;" : Cond) ∈ wsX10_book := qrf 71 (by decide +kernel)
set_option maxHeartbeats 4000000 in
set_option maxRecDepth 100000 in
theorem qaXo (l : Launch) (dC : Nat → ClassId) (dI : Nat → Nat → Nat) (cyB cyI cyJ cyP : ClassId) (a0 jaW jiZ jaR jlH jfZ jg2 sz : Nat) (ja1 jcp jbc jbH ja2 jbO jaq jac jbI jbl jbn jba jaa jbA jcB jcC jbo jbp jbk jbj jbe jbq jgP jbi jcd : Value) (jbE : Int32) (ji4 : NI) (jbz jk4 jlW jll jj0 jlm jjE jnH : Int32) (jnI : NI) (p1 : Int32) {E : String → Int32 → Int32 → Int32 → Int32 → Int32 → Int32 → Int32 → Int32 → NI → Value → Value → Prop} {Q : Int32 → Int32 → Int32 → Int32 → Int32 → Int32 → Int32 → Int32 → Int32 → NI → Value → Value → Prop} (hw : qabV jg2 jiZ jbE ji4 jbz jk4 jlW jll jj0 jlm jjE jnH jnI (.ref jg2) (.ref jiZ) p1 E Q) : vx_Met l yX10_book wsX10_book ({ frames := 9, cells := 1, slots := 6, locals := 186 }) (va_Pc [.ref a0, .int p1] (cPx l (dC, dI) (kT cyB cyI cyJ cyP) (qBY a0 jaW jaR ja1 jcp jbc jg2 jiZ jbH ja2 jbO jaq jac jbI jbl jbn jba jaa jbA jbz jaW jfZ jk4 jlW jll jj0 jlm jjE jaR jcB jcC jbo jbp jbk jbj jbe jbq jbE jgP jbi jcd jiZ jlH jnH jlH cyI jnI jfZ cyB ji4) sz)) (va_Qi (fun (r : Int32) (u : Int32 × Int32 × Int32 × Int32 × Int32 × Int32 × Int32 × Int32 × NI × Value × Value) => Q r u.1 u.2.1 u.2.2.1 u.2.2.2.1 u.2.2.2.2.1 u.2.2.2.2.2.1 u.2.2.2.2.2.2.1 u.2.2.2.2.2.2.2.1 u.2.2.2.2.2.2.2.2.1 u.2.2.2.2.2.2.2.2.2.1 u.2.2.2.2.2.2.2.2.2.2) (cB (dC, dI) (kT cyB cyI cyJ cyP) (va_A (qBY a0 jaW jaR ja1 jcp jbc jg2 jiZ jbH ja2 jbO jaq jac jbI jbl jbn jba jaa jbA jbz jaW jfZ jk4 jlW jll jj0 jlm jjE jaR jcB jcC jbo jbp jbk jbj jbe jbq jbE jgP jbi jcd jiZ jlH jnH jlH cyI jnI jfZ cyB ji4) sz) (fun u : Int32 × Int32 × Int32 × Int32 × Int32 × Int32 × Int32 × Int32 × NI × Value × Value => ((qaMT a0 jaW jaR ja1 jcp jbc u.2.2.2.2.2.2.2.2.2.1 u.2.2.2.2.2.2.2.2.2.2 jbH ja2 jbO jaq jac jbI jbl jbn jba jaa jbA u.1 jaW jfZ u.2.1 u.2.2.1 u.2.2.2.1 u.2.2.2.2.1 u.2.2.2.2.2.1 u.2.2.2.2.2.2.1 jaR jcB jcC jbo jbp jbk jbj jbe jbq jbE jgP jbi jcd jiZ jlH u.2.2.2.2.2.2.2.1 jlH cyI u.2.2.2.2.2.2.2.2.1 jfZ cyB ji4) : va_W))) (va_A (qBY a0 jaW jaR ja1 jcp jbc jg2 jiZ jbH ja2 jbO jaq jac jbI jbl jbn jba jaa jbA jbz jaW jfZ jk4 jlW jll jj0 jlm jjE jaR jcB jcC jbo jbp jbk jbj jbe jbq jbE jgP jbi jcd jiZ jlH jnH jlH cyI jnI jfZ cyB ji4) sz)) (vx_X (fun _ => True) (fun (en : String) (u : Int32 × Int32 × Int32 × Int32 × Int32 × Int32 × Int32 × Int32 × NI × Value × Value) (t : State) => E en u.1 u.2.1 u.2.2.1 u.2.2.2.1 u.2.2.2.2.1 u.2.2.2.2.2.1 u.2.2.2.2.2.2.1 u.2.2.2.2.2.2.2.1 u.2.2.2.2.2.2.2.2.1 u.2.2.2.2.2.2.2.2.2.1 u.2.2.2.2.2.2.2.2.2.2 ∧ cB (dC, dI) (kT cyB cyI cyJ cyP) (va_A (qBY a0 jaW jaR ja1 jcp jbc jg2 jiZ jbH ja2 jbO jaq jac jbI jbl jbn jba jaa jbA jbz jaW jfZ jk4 jlW jll jj0 jlm jjE jaR jcB jcC jbo jbp jbk jbj jbe jbq jbE jgP jbi jcd jiZ jlH jnH jlH cyI jnI jfZ cyB ji4) sz) (fun u : Int32 × Int32 × Int32 × Int32 × Int32 × Int32 × Int32 × Int32 × NI × Value × Value => ((qaMT a0 jaW jaR ja1 jcp jbc u.2.2.2.2.2.2.2.2.2.1 u.2.2.2.2.2.2.2.2.2.2 jbH ja2 jbO jaq jac jbI jbl jbn jba jaa jbA u.1 jaW jfZ u.2.1 u.2.2.1 u.2.2.2.1 u.2.2.2.2.1 u.2.2.2.2.2.1 u.2.2.2.2.2.2.1 jaR jcB jcC jbo jbp jbk jbj jbe jbq jbE jgP jbi jcd jiZ jlH u.2.2.2.2.2.2.2.1 jlH cyI u.2.2.2.2.2.2.2.2.1 jfZ cyB ji4) : va_W)) u t) (va_A (qBY a0 jaW jaR ja1 jcp jbc jg2 jiZ jbH ja2 jbO jaq jac jbI jbl jbn jba jaa jbA jbz jaW jfZ jk4 jlW jll jj0 jlm jjE jaR jcB jcC jbo jbp jbk jbj jbe jbq jbE jgP jbi jcd jiZ jlH jnH jlH cyI jnI jfZ cyB ji4) sz)) 1 6 (va_A (qBY a0 jaW jaR ja1 jcp jbc jg2 jiZ jbH ja2 jbO jaq jac jbI jbl jbn jba jaa jbA jbz jaW jfZ jk4 jlW jll jj0 jlm jjE jaR jcB jcC jbo jbp jbk jbj jbe jbq jbE jgP jbi jcd jiZ jlH jnH jlH cyI jnI jfZ cyB ji4) sz) := by
  refine vx_ofW (cc := cX10_book) (maxL := 3) (ret := (some .int)) (by decide) rfl ?_
  intro p e s m args below meth c s₁ B hml hnt hv
  obtain ⟨rfl, hsz, hP, hK, hD0, hNw, hXl, hXu, hXn, hXt⟩ := hv
  have hx := B.exec
  have hb := B.bytes
  have hr := B.returns
  have hts := atoms_spec (ws := wsX10_book) B.pre
  have hown : s.vm.findClass RX10 = some m.cls := findClass_of_methodNamed B.named
  have hlocks := B.notSynchronized
  subst hsz
  have hD := hD0.self (sz := s.heap.size)
  generalize hAe : va_A (qBY a0 jaW jaR ja1 jcp jbc jg2 jiZ jbH ja2 jbO jaq jac jbI jbl jbn jba jaa jbA jbz jaW jfZ jk4 jlW jll jj0 jlm jjE jaR jcB jcC jbo jbp jbk jbj jbe jbq jbE jgP jbi jcd jiZ jlH jnH jlH cyI jnI jfZ cyB ji4) s.heap.size = A at hD hXu hXn ⊢
  have hA : ∀ q : Nat, s.heap.size ≤ q → A q := fun q h => by rw [← hAe]; exact Or.inr h
  have hS : va_S A s.heap s.heap [] := va_S.rf
  have hP : va_P (dC, dI) vwCl (qBY a0 jaW jaR ja1 jcp jbc jg2 jiZ jbH ja2 jbO jaq jac jbI jbl jbn jba jaa jbA jbz jaW jfZ jk4 jlW jll jj0 jlm jjE jaR jcB jcC jbo jbp jbk jbj jbe jbq jbE jgP jbi jcd jiZ jlH jnH jlH cyI jnI jfZ cyB ji4) s.heap := hP
  have hl := lv_entry ([.ref a0, .int p1]) (n := 3) (nbq rfl)
  rw [lg_entry_eq]
  generalize (lg_sl ([.ref a0, .int p1]) ++ List.replicate (3 - (lg_sl ([.ref a0, .int p1])).length) Slot.unset).toArray = ls at hl ⊢
  have hl : lv_has ls 3 [(0, .ref a0), (1, .int p1)] := hl
  have hY : cfY l s A := ⟨hXl, hXu, hXn, hXt⟩
  have hXs : cfX l s c A := ⟨hnt, hY⟩
  have C0 : cfx p s m _ meth c cX10_book (some .int) wsX10_book RX10 3 A (dC, dI) (kT cyB cyI cyJ cyP) ∧ cfX l s c A := ⟨⟨hx, hb, hr, hts, hown, hlocks, hml, hA, hK, hNw⟩, hXs⟩
  clear hAe
  obtain ⟨H, hH⟩ : ∃ H, H = s.heap := ⟨_, rfl⟩
  rw [← hH] at hP ⊢
  have hS : va_S A s.heap H [] := by rw [hH]; exact va_S.rf
  have hS := hS
  refine lv_aload_n hx hb (qaa qlN 0 rfl) rfl (lv_at hl 0 rfl) ?_
  refine lv_iload_n hx hb (qaa qlN 1 rfl) rfl (lv_at hl 1 rfl) ?_
  refine lv_bipush (v := 60) hx hb (qaa qlN 2 rfl) (by decide) ?_
  obtain ⟨hCc, hPc, hDc, hFc⟩ := qac (ws' := (qaW9 a0 jaW jaR ja1 jcp jbc jg2 jiZ jbH ja2 jbO jaq jac jbI jbl jbn jba jaa jbA jbz jaW jfZ jk4 jlW jll jj0 jlm jjE)) hP hD hS hA [0, 1] (by decide +kernel) rfl
  refine vx_callv (vx_runV (As := [.int p1, .int 60]) (rest := []) ⟨hx, hb, hml, hown, hts⟩ (qH5 l dC dI cyB cyI cyJ cyP a0 jaW H.size (.ref jaR) (ja1) (jcp) (jbc) (.ref jg2) (.ref jiZ) (jbH) (ja2) (jbO) (jaq) (jac) (jbI) (jbl) (jbn) (jba) (jaa) (jbA) (.ref jfZ) jbz jk4 jlW jll jj0 jlm jjE p1 60 hw) (cwV 2 hts gX10_book_X10_openText rfl rfl rfl (by decide +kernel) ⟨nbq rfl, nbq rfl⟩) ⟨qau, va_recv (q := (RX10, TX10, 19)) hK hPc (ci := 10) (q0 := 0) rfl rfl, qbk hPc hK hDc hNw hY hS hFc⟩ rfl rfl hl.1 rfl (lv_room (nbq rfl)) (qaa qlN 3 rfl) ⟨nbq rfl, nbq rfl⟩) hS (fun q _ h => hFc q h) hFc (fun q _ h => hFc q h) (fun en ce q9 u t H1 locs ht hvm hpx hB hz1 hk1 hS hc9 hv9 hcl9 => ?_) (fun u t H1 locs ht hvm hw hB hz1 hk1 hS => ?_)
  · obtain ⟨x1, x2, x3, x4, x5, x6, x7⟩ := u
    obtain ⟨hw, hP1, hK1, hD1⟩ := hB
    rw [ht] at hP1
    obtain ⟨hP, hD⟩ := qad (wr := (qa3h jaR jcB jcC jbo jbp jbk jbj jbe jbq jbE jgP jbi jcd jiZ jlH jnH jlH cyI jnI jfZ cyB ji4)) (w1 := (qaW9 a0 jaW jaR ja1 jcp jbc jg2 jiZ jbH ja2 jbO jaq jac jbI jbl jbn jba jaa jbA x1 jaW jfZ x2 x3 x4 x5 x6 x7)) (wn := (qBY a0 jaW jaR ja1 jcp jbc jg2 jiZ jbH ja2 jbO jaq jac jbI jbl jbn jba jaa jbA x1 jaW jfZ x2 x3 x4 x5 x6 x7 jaR jcB jcC jbo jbp jbk jbj jbe jbq jbE jgP jbi jcd jiZ jlH jnH jlH cyI jnI jfZ cyB ji4)) hP hD [0, 1] [2, 3, 4, 5] [4, 5, 0, 1, 2, 3] hCc rfl (by decide +kernel) (by decide +kernel) (by decide +kernel) rfl hk1 hFc hP1 hD1
    generalize H1 = H at hP hS hc9 ⊢
    exact vx_out (fun x hx9 => (hXs.1 x hx9).elim) hlocks hc9 hv9 hcl9 (fun t2 ht2 hal2 => ⟨(x1, x2, x3, x4, x5, x6, x7, jnH, jnI, (.ref jg2), (.ref jiZ)), trivial, ⟨hw, by rw [ht2]; exact hP, va_K.moved hal2 hK, hD⟩, hS.F ht2⟩) hS.2.2 (nbq rfl) (nbq rfl)
  obtain ⟨x1, x2, x3, x4, x5, x6, x7⟩ := u
  obtain ⟨hP1, hK1, hD1⟩ := hB
  rw [ht] at hP1
  obtain ⟨hP, hD⟩ := qad (wr := (qa3h jaR jcB jcC jbo jbp jbk jbj jbe jbq jbE jgP jbi jcd jiZ jlH jnH jlH cyI jnI jfZ cyB ji4)) (w1 := (qaW9 a0 jaW jaR ja1 jcp jbc jg2 jiZ jbH ja2 jbO jaq jac jbI jbl jbn jba jaa jbA x1 jaW jfZ x2 x3 x4 x5 x6 x7)) (wn := (qBY a0 jaW jaR ja1 jcp jbc jg2 jiZ jbH ja2 jbO jaq jac jbI jbl jbn jba jaa jbA x1 jaW jfZ x2 x3 x4 x5 x6 x7 jaR jcB jcC jbo jbp jbk jbj jbe jbq jbE jgP jbi jcd jiZ jlH jnH jlH cyI jnI jfZ cyB ji4)) hP hD [0, 1] [2, 3, 4, 5] [4, 5, 0, 1, 2, 3] hCc rfl (by decide +kernel) (by decide +kernel) (by decide +kernel) rfl hk1 hFc hP1 hD1
  generalize H1 = H at hP hS ⊢
  refine lv_aload_n hx hb (qaa qlN 4 rfl) rfl (lv_at hl 0 rfl) ?_
  refine va_get (D := (dC, dI)) (ci := 10) (v := .ref jiZ) (C := RX10) (T := TX10) (N := 19) hx hb hts qqo hown hK hP 0 rfl rfl 6 (by decide) (hts _ qOX) (fun _ h9 => h9) rfl (qaa qlN 5 rfl) ?_
  refine lv_aload_n hx hb (qaa qlN 6 rfl) rfl (lv_at hl 0 rfl) ?_
  refine va_get (D := (dC, dI)) (ci := 10) (v := .ref jaW) (C := RX10) (T := TX10) (N := 19) hx hb hts qqo hown hK hP 0 rfl rfl 0 (by decide) (hts _ qO1) (fun _ h9 => h9) rfl (qaa qlN 7 rfl) ?_
  refine lv_aload_n hx hb (qaa qlN 8 rfl) rfl (lv_at hl 0 rfl) ?_
  refine va_get (D := (dC, dI)) (ci := 10) (v := .ref jaR) (C := RX10) (T := TX10) (N := 19) hx hb hts qqo hown hK hP 0 rfl rfl 1 (by decide) (hts _ qavp) (fun _ h9 => h9) rfl (qaa qlN 9 rfl) ?_
  refine va_get (D := (dC, dI)) (ci := 2) (v := .int jbE) (C := RX2) (T := TX2) (N := 12) hx hb hts qaJN hown hK hP 2 rfl rfl 8 (by decide) (hts _ qapl) (fun _ h9 => h9) rfl (qaa qlN 10 rfl) ?_
  obtain ⟨hCc, hPc, hDc, hFc⟩ := qac (ws' := (qa5E jiZ jlH jnH jlH cyI jnI jaW jfZ x2 x3 x4 x5 x6 x7 jfZ cyB ji4)) hP hD hS hA [3, 4, 1, 5] (by decide +kernel) rfl
  refine va_callv (va_runV (As := [.ref jaW, .int jbE]) (rest := []) ⟨hx, hb, hml, hown, hts⟩ (qaG5 l dC dI cyB cyI cyJ cyP jiZ jaW jlH jfZ H.size (.int x5) x2 ji4 jnH jnI x3 x6 x7 x4 jbE hw) (cwV 2 hts gX10_book_X0_readFrom rfl rfl rfl (by decide +kernel) ⟨nbq rfl, nbq rfl⟩) ⟨qab, va_recv (q := (RX0, TX0, 2)) hK hPc (ci := 0) (q0 := 0) rfl rfl, qae hPc hK hDc hNw⟩ rfl rfl hl.1 rfl (lv_room (nbq rfl)) (qaa qlN 11 rfl) ⟨nbq rfl, nbq rfl⟩) hS (fun q _ h => hFc q h) hFc (fun u t H1 locs ht hvm hw hB hz1 hk1 hS => ?_)
  obtain ⟨x8, f9, x10, x11, x12, x13⟩ := u
  obtain ⟨hP1, hK1, hD1⟩ := hB
  rw [ht] at hP1
  obtain ⟨hP, hD⟩ := qad (wr := [(a0, .inr (10, [.ref jaW, .ref jaR, ja1, jcp, jbc, .ref jg2, .ref jiZ, jbH, ja2, jbO, jaq, jac, jbI, jbl, jbn, jba, jaa, jbA, .int x1])), (jaR, .inr (2, [jcB, jcC, jbo, jbp, jbk, jbj, jbe, jbq, .int jbE, jgP, jbi, jcd]))]) (w1 := (qa5E jiZ jlH x8 jlH cyI f9 jaW jfZ x2 x10 x13 x5 x11 x12 jfZ cyB ji4)) (wn := (qBY a0 jaW jaR ja1 jcp jbc jg2 jiZ jbH ja2 jbO jaq jac jbI jbl jbn jba jaa jbA x1 jaW jfZ x2 x10 x13 x5 x11 x12 jaR jcB jcC jbo jbp jbk jbj jbe jbq jbE jgP jbi jcd jiZ jlH x8 jlH cyI f9 jfZ cyB ji4)) hP hD [3, 4, 1, 5] [0, 2] [0, 4, 1, 2, 3, 5] hCc rfl (by decide +kernel) (by decide +kernel) (by decide +kernel) rfl hk1 hFc hP1 hD1
  generalize H1 = H at hP hS ⊢
  refine lv_aload_n hx hb (qaa qlN 12 rfl) rfl (lv_at hl 0 rfl) ?_
  refine va_get (D := (dC, dI)) (ci := 10) (v := .ref jaW) (C := RX10) (T := TX10) (N := 19) hx hb hts qqo hown hK hP 0 rfl rfl 0 (by decide) (hts _ qO1) (fun _ h9 => h9) rfl (qaa qlN 13 rfl) ?_
  obtain ⟨hCc, hPc, hDc, hFc⟩ := qac (ws' := (qa6f jaW jfZ x2 x10 x13 x5 x11 x12)) hP hD hS hA [1] (by decide +kernel) rfl
  refine va_calli (va_runV (As := []) (rest := []) ⟨hx, hb, hml, hown, hts⟩ (qjR l dC dI cyB cyI cyJ cyP jaW H.size (.ref jfZ) (.int x2) (.int x10) (.int x13) (.int x5) (.int x12) x11 hw) (cwV 0 hts gX10_book_X8_isFaulty rfl rfl rfl (by decide +kernel) ⟨nbq rfl, nbq rfl⟩) ⟨qab, va_recv (q := (RX8, TX8, 7)) hK hPc (ci := 8) (q0 := 0) rfl rfl, qae hPc hK hDc hNw⟩ rfl rfl hl.1 rfl (lv_room (nbq rfl)) (qaa qlN 14 rfl) ⟨nbq rfl, nbq rfl⟩) hS (fun q _ h => hFc q h) hFc (fun r14 u t H1 locs ht hvm hw hB hz1 hk1 hS => ?_)
  obtain ⟨hP1, hK1, hD1⟩ := hB
  rw [ht] at hP1
  obtain ⟨hP, hD⟩ := qad (wr := [(a0, .inr (10, [.ref jaW, .ref jaR, ja1, jcp, jbc, .ref jg2, .ref jiZ, jbH, ja2, jbO, jaq, jac, jbI, jbl, jbn, jba, jaa, jbA, .int x1])), (jaR, .inr (2, [jcB, jcC, jbo, jbp, jbk, jbj, jbe, jbq, .int jbE, jgP, jbi, jcd])), (jiZ, .inr (0, [.ref jlH, .int x8])), (jlH, .inl (cyI, 8, .inl f9)), (jfZ, .inl (cyB, 600, .inl ji4))]) (w1 := (qa6f jaW jfZ x2 x10 x13 x5 x11 x12)) (wn := (qBY a0 jaW jaR ja1 jcp jbc jg2 jiZ jbH ja2 jbO jaq jac jbI jbl jbn jba jaa jbA x1 jaW jfZ x2 x10 x13 x5 x11 x12 jaR jcB jcC jbo jbp jbk jbj jbe jbq jbE jgP jbi jcd jiZ jlH x8 jlH cyI f9 jfZ cyB ji4)) hP hD [1] [0, 2, 3, 4, 5] [0, 5, 1, 2, 3, 4] hCc rfl (by decide +kernel) (by decide +kernel) (by decide +kernel) rfl hk1 hFc hP1 hD1
  generalize H1 = H at hP hS ⊢
  refine lv_if_eq (tgt := 46) hx hb (qaa qlN 15 rfl) (by decide) (fun c15 => ?_) (fun c15 => ?_)
  · have hw := hw.1 c15
    refine lv_aload_n hx hb (qaa qkt 6 rfl) rfl (lv_at hl 0 rfl) ?_
    refine va_get (D := (dC, dI)) (ci := 10) (v := .ref jg2) (C := RX10) (T := TX10) (N := 19) hx hb hts qqo hown hK hP 0 rfl rfl 5 (by decide) (hts _ qPC) (fun _ h9 => h9) rfl (qaa qkt 7 rfl) ?_
    refine lv_astore_n (lv' := [(2, .ref jg2), (0, .ref a0), (1, .int p1)]) hx hb (qaa qkt 8 rfl) rfl hl (by decide) rfl (fun ls hl => ?_)
    refine lv_aload_n hx hb (qaa qkt 9 rfl) rfl (lv_at hl 1 rfl) ?_
    refine lv_aload_n hx hb (qaa qkt 10 rfl) rfl (lv_at hl 1 rfl) ?_
    refine va_get (D := (dC, dI)) (ci := 10) (v := .ref jiZ) (C := RX10) (T := TX10) (N := 19) hx hb hts qqo hown hK hP 0 rfl rfl 6 (by decide) (hts _ qOX) (fun _ h9 => h9) rfl (qaa qkt 11 rfl) ?_
    refine va_put (D := (dC, dI)) (ci := 10) (v := .ref jiZ) (ty := .object "MarchHares$Book") (C := RX10) (T := TX10) (N := 19) hx hb hts qqo tyX10 tyX10_ok nmX10 hown hK hP hD hS 0 rfl rfl 5 (by decide) (hts _ qPC) (fun _ h9 => h9) rfl (by decide +kernel) rfl rfl (nbq rfl) (qaa qkt 12 rfl) (fun H locs hP hD hS => ?_)
    have hP : va_P (dC, dI) vwCl (qBY a0 jaW jaR ja1 jcp jbc jiZ jiZ jbH ja2 jbO jaq jac jbI jbl jbn jba jaa jbA x1 jaW jfZ x2 x10 x13 x5 x11 x12 jaR jcB jcC jbo jbp jbk jbj jbe jbq jbE jgP jbi jcd jiZ jlH x8 jlH cyI f9 jfZ cyB ji4) H := hP
    have hD : va_D A (qBY a0 jaW jaR ja1 jcp jbc jiZ jiZ jbH ja2 jbO jaq jac jbI jbl jbn jba jaa jbA x1 jaW jfZ x2 x10 x13 x5 x11 x12 jaR jcB jcC jbo jbp jbk jbj jbe jbq jbE jgP jbi jcd jiZ jlH x8 jlH cyI f9 jfZ cyB ji4) := hD
    refine lv_aload_n hx hb (qaa qkt 13 rfl) rfl (lv_at hl 1 rfl) ?_
    refine lv_aload_n hx hb (qaa qkt 14 rfl) rfl (lv_at hl 0 rfl) ?_
    refine va_put (D := (dC, dI)) (ci := 10) (v := .ref jg2) (ty := .object "MarchHares$Book") (C := RX10) (T := TX10) (N := 19) hx hb hts qqo tyX10 tyX10_ok nmX10 hown hK hP hD hS 0 rfl rfl 6 (by decide) (hts _ qOX) (fun _ h9 => h9) rfl (by decide +kernel) rfl rfl (nbq rfl) (qaa qkt 15 rfl) (fun H locs hP hD hS => ?_)
    have hP : va_P (dC, dI) vwCl (qBY a0 jaW jaR ja1 jcp jbc jiZ jg2 jbH ja2 jbO jaq jac jbI jbl jbn jba jaa jbA x1 jaW jfZ x2 x10 x13 x5 x11 x12 jaR jcB jcC jbo jbp jbk jbj jbe jbq jbE jgP jbi jcd jiZ jlH x8 jlH cyI f9 jfZ cyB ji4) H := hP
    have hD : va_D A (qBY a0 jaW jaR ja1 jcp jbc jiZ jg2 jbH ja2 jbO jaq jac jbI jbl jbn jba jaa jbA x1 jaW jfZ x2 x10 x13 x5 x11 x12 jaR jcB jcC jbo jbp jbk jbj jbe jbq jbE jgP jbi jcd jiZ jlH x8 jlH cyI f9 jfZ cyB ji4) := hD
    refine lv_aload_n hx hb (qaa qKO 0 rfl) rfl (lv_at hl 1 rfl) ?_
    refine va_get (D := (dC, dI)) (ci := 10) (v := .ref jiZ) (C := RX10) (T := TX10) (N := 19) hx hb hts qqo hown hK hP 0 rfl rfl 5 (by decide) (hts _ qPC) (fun _ h9 => h9) rfl (qaa qKO 1 rfl) ?_
    refine va_get (D := (dC, dI)) (ci := 0) (v := .int x8) (C := RX0) (T := TX0) (N := 2) hx hb hts qaKh hown hK hP 3 rfl rfl 1 (by decide) (hts _ qauc) (fun _ h9 => h9) rfl (qaa qKO 2 rfl) ?_
    exact vx_ret (W.widen (k := 1) (n := 6) (nbq rfl) (nbq rfl) (W.iret (v := x8) hx hb hr (fun t ht hW => ⟨⟨x8, (x1, x2, x10, x13, x5, x11, x12, x8, f9, (.ref jiZ), (.ref jg2)), rfl, hw, by rw [ht]; exact hP, va_K.moved hW.alike hK, hD⟩, hS.F ht⟩) hS.2.2 (qaa qKO 3 rfl)))
  · have hw := hw.2 c15
    refine lv_aload_n hx hb (qaa qkt 0 rfl) rfl (lv_at hl 0 rfl) ?_
    refine va_get (D := (dC, dI)) (ci := 10) (v := .ref jaW) (C := RX10) (T := TX10) (N := 19) hx hb hts qqo hown hK hP 0 rfl rfl 0 (by decide) (hts _ qO1) (fun _ h9 => h9) rfl (qaa qkt 1 rfl) ?_
    refine va_get (D := (dC, dI)) (ci := 8) (v := .int x11) (C := RX8) (T := TX8) (N := 7) hx hb hts qaI1 hown hK hP 1 rfl rfl 5 (by decide) (hts _ qao3) (fun _ h9 => h9) rfl (qaa qkt 2 rfl) ?_
    refine lv_bipush (v := 10) hx hb (qaa qkt 3 rfl) (by decide) ?_
    refine lv_isub hx hb (qaa qkt 4 rfl) ?_
    exact vx_ret (W.widen (k := 1) (n := 6) (nbq rfl) (nbq rfl) (W.iret (v := (x11 - 10)) hx hb hr (fun t ht hW => ⟨⟨(x11 - 10), (x1, x2, x10, x13, x5, x11, x12, x8, f9, (.ref jg2), (.ref jiZ)), rfl, hw, by rw [ht]; exact hP, va_K.moved hW.alike hK, hD⟩, hS.F ht⟩) hS.2.2 (qaa qkt 5 rfl)))
theorem qaHr : (.classLink RL 13 "java/lang/IllegalArgumentException" : Cond) ∈ wsL_book := qau1 595 (by decide +kernel)
theorem qaS8 : (.codeWith yL_book cL_book 4 (some .int) [(0, 9, 12, 13)] : Cond) ∈ wsL_book := qau1 2381 (by decide +kernel)
set_option maxHeartbeats 4000000 in
set_option maxRecDepth 100000 in
theorem qa4O (l : Launch) (dC : Nat → ClassId) (dI : Nat → Nat → Nat) (cyB cyI cyJ cyP : ClassId) (a0 a2 jaW jaR jiZ jlH jfZ jg2 sz : Nat) (ja1 jcp jbc jbH ja2 jbO jaq jac jbI jbl jbn jba jaa jbA jcB jcC jbo jbp jbk jbj jbe jbq jgP jbi jcd : Value) (n2 : Nat) (jbE : Int32) (ji4 : NI) (jbz jk4 jlW jll jj0 jlm jjE jnH : Int32) (jnI : NI) (f2 : Nat → Int64) (p1 : Int32) {Q : Int32 → Int32 → Int32 → Int32 → Int32 → Int32 → Int32 → Int32 → Int32 → NI → Value → Value → (Nat → Int64) → Prop} (hw : qaVP jg2 jiZ n2 jbE ji4 jbz jk4 jlW jll jj0 jlm jjE jnH jnI (.ref jg2) (.ref jiZ) f2 p1 Q) : Met l yL_book wsL_book ({ frames := 10, cells := 1, slots := 6, locals := 208 }) (va_Pc [.ref a0, .int p1, .ref a2] (cPx l (dC, dI) (kT cyB cyI cyJ cyP) (qanj a0 jaW jaR ja1 jcp jbc jg2 jiZ jbH ja2 jbO jaq jac jbI jbl jbn jba jaa jbA jbz jaW jfZ jk4 jlW jll jj0 jlm jjE jaR jcB jcC jbo jbp jbk jbj jbe jbq jbE jgP jbi jcd jiZ jlH jnH jlH cyI jnI jfZ cyB ji4 a2 cyJ n2 f2) sz)) (va_Qi (fun (r : Int32) (u : Int32 × Int32 × Int32 × Int32 × Int32 × Int32 × Int32 × Int32 × NI × Value × Value × (Nat → Int64)) => Q r u.1 u.2.1 u.2.2.1 u.2.2.2.1 u.2.2.2.2.1 u.2.2.2.2.2.1 u.2.2.2.2.2.2.1 u.2.2.2.2.2.2.2.1 u.2.2.2.2.2.2.2.2.1 u.2.2.2.2.2.2.2.2.2.1 u.2.2.2.2.2.2.2.2.2.2.1 u.2.2.2.2.2.2.2.2.2.2.2) (cB (dC, dI) (kT cyB cyI cyJ cyP) (va_A (qanj a0 jaW jaR ja1 jcp jbc jg2 jiZ jbH ja2 jbO jaq jac jbI jbl jbn jba jaa jbA jbz jaW jfZ jk4 jlW jll jj0 jlm jjE jaR jcB jcC jbo jbp jbk jbj jbe jbq jbE jgP jbi jcd jiZ jlH jnH jlH cyI jnI jfZ cyB ji4 a2 cyJ n2 f2) sz) (fun u : Int32 × Int32 × Int32 × Int32 × Int32 × Int32 × Int32 × Int32 × NI × Value × Value × (Nat → Int64) => ((qajT a0 jaW jaR ja1 jcp jbc u.2.2.2.2.2.2.2.2.2.1 u.2.2.2.2.2.2.2.2.2.2.1 jbH ja2 jbO jaq jac jbI jbl jbn jba jaa jbA u.1 jaW jfZ u.2.1 u.2.2.1 u.2.2.2.1 u.2.2.2.2.1 u.2.2.2.2.2.1 u.2.2.2.2.2.2.1 jaR jcB jcC jbo jbp jbk jbj jbe jbq jbE jgP jbi jcd jiZ jlH u.2.2.2.2.2.2.2.1 jlH cyI u.2.2.2.2.2.2.2.2.1 jfZ cyB ji4 a2 cyJ n2 u.2.2.2.2.2.2.2.2.2.2.2) : va_W))) (va_A (qanj a0 jaW jaR ja1 jcp jbc jg2 jiZ jbH ja2 jbO jaq jac jbI jbl jbn jba jaa jbA jbz jaW jfZ jk4 jlW jll jj0 jlm jjE jaR jcB jcC jbo jbp jbk jbj jbe jbq jbE jgP jbi jcd jiZ jlH jnH jlH cyI jnI jfZ cyB ji4 a2 cyJ n2 f2) sz)) 1 6 (va_A (qanj a0 jaW jaR ja1 jcp jbc jg2 jiZ jbH ja2 jbO jaq jac jbI jbl jbn jba jaa jbA jbz jaW jfZ jk4 jlW jll jj0 jlm jjE jaR jcB jcC jbo jbp jbk jbj jbe jbq jbE jgP jbi jcd jiZ jlH jnH jlH cyI jnI jfZ cyB ji4 a2 cyJ n2 f2) sz) := by
  refine va_MetW (cc := cL_book) (maxL := 4) (ret := (some .int)) (by decide) rfl ?_
  intro p e s m args below meth c s₁ B hml hv
  obtain ⟨rfl, hsz, hP, hK, hD0, hNw, hXl, hXu, hXn, hXt⟩ := hv
  have hx := B.exec
  have hb := B.bytes
  have hr := B.returns
  have hts := atoms_spec (ws := wsL_book) B.pre
  have hown : s.vm.findClass RL = some m.cls := findClass_of_methodNamed B.named
  have hlocks := B.notSynchronized
  subst hsz
  have hD := hD0.self (sz := s.heap.size)
  generalize hAe : va_A (qanj a0 jaW jaR ja1 jcp jbc jg2 jiZ jbH ja2 jbO jaq jac jbI jbl jbn jba jaa jbA jbz jaW jfZ jk4 jlW jll jj0 jlm jjE jaR jcB jcC jbo jbp jbk jbj jbe jbq jbE jgP jbi jcd jiZ jlH jnH jlH cyI jnI jfZ cyB ji4 a2 cyJ n2 f2) s.heap.size = A at hD hXu hXn ⊢
  have hA : ∀ q : Nat, s.heap.size ≤ q → A q := fun q h => by rw [← hAe]; exact Or.inr h
  have hS : va_S A s.heap s.heap [] := va_S.rf
  have hP : va_P (dC, dI) vwCl (qanj a0 jaW jaR ja1 jcp jbc jg2 jiZ jbH ja2 jbO jaq jac jbI jbl jbn jba jaa jbA jbz jaW jfZ jk4 jlW jll jj0 jlm jjE jaR jcB jcC jbo jbp jbk jbj jbe jbq jbE jgP jbi jcd jiZ jlH jnH jlH cyI jnI jfZ cyB ji4 a2 cyJ n2 f2) s.heap := hP
  have hl := lv_entry ([.ref a0, .int p1, .ref a2]) (n := 4) (nbq rfl)
  rw [lg_entry_eq]
  generalize (lg_sl ([.ref a0, .int p1, .ref a2]) ++ List.replicate (4 - (lg_sl ([.ref a0, .int p1, .ref a2])).length) Slot.unset).toArray = ls at hl ⊢
  have hl : lv_has ls 4 [(0, .ref a0), (1, .int p1), (2, .ref a2)] := hl
  have hY : cfY l s A := ⟨hXl, hXu, hXn, hXt⟩
  have hTb := vx_table (x := yL_book) B (hts _ qaS8)
  clear hAe
  obtain ⟨H, hH⟩ : ∃ H, H = s.heap := ⟨_, rfl⟩
  rw [← hH] at hP ⊢
  have hS : va_S A s.heap H [] := by rw [hH]; exact va_S.rf
  have hS := hS
  refine lv_aload_n hx hb (qaa qs5 0 rfl) rfl (lv_at hl 2 rfl) ?_
  refine lv_iconst (v := 0) hx hb (qaa qs5 1 rfl) (by decide) ?_
  refine lv_aload_n hx hb (qaa qs5 2 rfl) rfl (lv_at hl 0 rfl) ?_
  refine lv_iload_n hx hb (qaa qs5 3 rfl) rfl (lv_at hl 1 rfl) ?_
  obtain ⟨hCc, hPc, hDc, hFc⟩ := qac (ws' := (qBY a0 jaW jaR ja1 jcp jbc jg2 jiZ jbH ja2 jbO jaq jac jbI jbl jbn jba jaa jbA jbz jaW jfZ jk4 jlW jll jj0 jlm jjE jaR jcB jcC jbo jbp jbk jbj jbe jbq jbE jgP jbi jcd jiZ jlH jnH jlH cyI jnI jfZ cyB ji4)) hP hD hS hA [0, 1, 2, 3, 4, 5] (by decide +kernel) rfl
  refine vx_calli (vx_runV (As := [.int p1]) (rest := [.int 0, .ref a2]) ⟨hx, hb, hml, hown, hts⟩ (qaXo l dC dI cyB cyI cyJ cyP a0 jaW jiZ jaR jlH jfZ jg2 H.size (ja1) (jcp) (jbc) (jbH) (ja2) (jbO) (jaq) (jac) (jbI) (jbl) (jbn) (jba) (jaa) (jbA) (jcB) (jcC) (jbo) (jbp) (jbk) (jbj) (jbe) (jbq) (jgP) (jbi) (jcd) jbE ji4 jbz jk4 jlW jll jj0 jlm jjE jnH jnI p1 hw) (cwV 1 hts gL_book_X10_book rfl rfl rfl (by decide +kernel) ⟨nbq rfl, nbq rfl⟩) ⟨qau, va_recv (q := (RX10, TX10, 19)) hK hPc (ci := 10) (q0 := 0) rfl rfl, qbk hPc hK hDc hNw hY hS hFc⟩ rfl rfl hl.1 rfl (lv_room (nbq rfl)) (qaa qs5 4 rfl) ⟨nbq rfl, nbq rfl⟩) hS (fun q _ h => hFc q h) hFc (fun q _ h => hFc q h) (fun en ce qx9 u t H1 locs ht hvm hpx hB hz1 hk1 hS hc9 hv9 hcl9 => ?_) (fun r12 u t H1 locs ht hvm hw hB hz1 hk1 hS => ?_)
  · obtain ⟨x1, x2, x3, x4, x5, x6, x7, x8, f9, q10, q11⟩ := u
    obtain ⟨hw, hP1, hK1, hD1⟩ := hB
    rw [ht] at hP1
    obtain ⟨hP, hD⟩ := qad (wr := [(a2, .inl (cyJ, n2, .inr (.inl f2)))]) (w1 := (qaMT a0 jaW jaR ja1 jcp jbc q10 q11 jbH ja2 jbO jaq jac jbI jbl jbn jba jaa jbA x1 jaW jfZ x2 x3 x4 x5 x6 x7 jaR jcB jcC jbo jbp jbk jbj jbe jbq jbE jgP jbi jcd jiZ jlH x8 jlH cyI f9 jfZ cyB ji4)) (wn := (qajT a0 jaW jaR ja1 jcp jbc q10 q11 jbH ja2 jbO jaq jac jbI jbl jbn jba jaa jbA x1 jaW jfZ x2 x3 x4 x5 x6 x7 jaR jcB jcC jbo jbp jbk jbj jbe jbq jbE jgP jbi jcd jiZ jlH x8 jlH cyI f9 jfZ cyB ji4 a2 cyJ n2 f2)) hP hD [0, 1, 2, 3, 4, 5] [6] [1, 2, 3, 4, 5, 6, 0] hCc rfl (by decide +kernel) (by decide +kernel) (by decide +kernel) rfl hk1 hFc hP1 hD1
    generalize H1 = H at hP hS hc9 ⊢
    obtain ⟨rfl, hw⟩ := hw
    refine vx_catch (own := RL) (name := "java/lang/IllegalArgumentException") hown [] ⟨0, 9, 12, 13⟩ [] (hTb.trans rfl) (fun z hz => nomatch hz) (by decide) (by decide) (hts _ qaHr) (va_Nw.use rfl (hY.2.2.2.1.2 _ (List.mem_of_getElem? (i := 0) rfl))) hc9 hv9 hcl9 ?_
    refine lv_astore_n (lv' := [(3, .ref qx9), (0, .ref a0), (1, .int p1), (2, .ref a2)]) hx hb (qaa qs5 8 rfl) rfl hl (by decide) rfl (fun ls hl => ?_)
    refine lv_iconst (v := 1) hx hb (qaa qs5 9 rfl) (by decide) ?_
    exact (W.widen (k := 1) (n := 6) (nbq rfl) (nbq rfl) (W.iret (v := 1) hx hb hr (fun t ht hW => ⟨⟨1, (x1, x2, x3, x4, x5, x6, x7, x8, f9, q10, q11, f2), rfl, hw, by rw [ht]; exact hP, va_K.moved hW.alike hK, hD⟩, hS.F ht⟩) hS.2.2 (qaa qs5 10 rfl)))
  obtain ⟨x1, x2, x3, x4, x5, x6, x7, x8, f9, q10, q11⟩ := u
  obtain ⟨hP1, hK1, hD1⟩ := hB
  rw [ht] at hP1
  obtain ⟨hP, hD⟩ := va_join (wr := [(a2, .inl (cyJ, n2, .inr (.inl f2)))]) (w1 := (qaMT a0 jaW jaR ja1 jcp jbc q10 q11 jbH ja2 jbO jaq jac jbI jbl jbn jba jaa jbA x1 jaW jfZ x2 x3 x4 x5 x6 x7 jaR jcB jcC jbo jbp jbk jbj jbe jbq jbE jgP jbi jcd jiZ jlH x8 jlH cyI f9 jfZ cyB ji4)) hP hD [0, 1, 2, 3, 4, 5] [6] rfl rfl (by decide) (by decide) hk1 hFc hP1 hD1
  have hP : va_P (dC, dI) vwCl (qajT a0 jaW jaR ja1 jcp jbc q10 q11 jbH ja2 jbO jaq jac jbI jbl jbn jba jaa jbA x1 jaW jfZ x2 x3 x4 x5 x6 x7 jaR jcB jcC jbo jbp jbk jbj jbe jbq jbE jgP jbi jcd jiZ jlH x8 jlH cyI f9 jfZ cyB ji4 a2 cyJ n2 f2) H1 := hP.sub [1, 2, 3, 4, 5, 6, 0] rfl
  have hD : va_D A (qajT a0 jaW jaR ja1 jcp jbc q10 q11 jbH ja2 jbO jaq jac jbI jbl jbn jba jaa jbA x1 jaW jfZ x2 x3 x4 x5 x6 x7 jaR jcB jcC jbo jbp jbk jbj jbe jbq jbE jgP jbi jcd jiZ jlH x8 jlH cyI f9 jfZ cyB ji4 a2 cyJ n2 f2) := hD.sub [1, 2, 3, 4, 5, 6, 0] (by decide) rfl
  generalize H1 = H at hP hS ⊢
  refine lv_i2l (v := r12.toInt64) hx hb (qaa qs5 5 rfl) rfl ?_
  refine lv_topl (fun x13 ex13 => ?_)
  have hw := hw x13 ex13
  obtain ⟨hi9, hw⟩ := hw
  refine va_last hx hb hK hP hD hS 6 2 rfl rfl hi9 (qaa qs5 6 rfl) (fun H locs hP hD hS => ?_)
  obtain ⟨f14, ef14⟩ : ∃ y : Nat → Int64, y = vp_updL f2 (0 : Int32).toNatClampNeg x13 := ⟨_, rfl⟩
  have hw := hw f14 ef14
  have hP : va_P (dC, dI) vwCl (qajT a0 jaW jaR ja1 jcp jbc q10 q11 jbH ja2 jbO jaq jac jbI jbl jbn jba jaa jbA x1 jaW jfZ x2 x3 x4 x5 x6 x7 jaR jcB jcC jbo jbp jbk jbj jbe jbq jbE jgP jbi jcd jiZ jlH x8 jlH cyI f9 jfZ cyB ji4 a2 cyJ n2 f14) H := by rw [ef14]; exact hP
  have hD : va_D A (qajT a0 jaW jaR ja1 jcp jbc q10 q11 jbH ja2 jbO jaq jac jbI jbl jbn jba jaa jbA x1 jaW jfZ x2 x3 x4 x5 x6 x7 jaR jcB jcC jbo jbp jbk jbj jbe jbq jbE jgP jbi jcd jiZ jlH x8 jlH cyI f9 jfZ cyB ji4 a2 cyJ n2 f14) := by rw [ef14]; exact hD
  refine lv_goto (tgt := 15) hx hb (qaa qs5 7 rfl) (by decide) ?_
  refine lv_iconst (v := 0) hx hb (qaa qs5 11 rfl) (by decide) ?_
  exact (W.widen (k := 1) (n := 6) (nbq rfl) (nbq rfl) (W.iret (v := 0) hx hb hr (fun t ht hW => ⟨⟨0, (x1, x2, x3, x4, x5, x6, x7, x8, f9, q10, q11, f14), rfl, hw, by rw [ht]; exact hP, va_K.moved hW.alike hK, hD⟩, hS.F ht⟩) hS.2.2 (qaa qs5 12 rfl)))
theorem qabR : ∀ w ∈ (qqA RX10 268 "java/util/NoSuchElementException" 13 qxN ["java/lang/RuntimeException", "java/lang/Exception"]).filter (fun w => !goodWord w), w ∈ xB := by decide +kernel
theorem qabS : ∀ w ∈ Cond.classLink RX10 264 "java/util/NoSuchElementException" :: Cond.initialized "java/util/NoSuchElementException" :: qqA RX10 268 "java/util/NoSuchElementException" 13 qxN ["java/lang/RuntimeException", "java/lang/Exception"], vx_ot w = true := by decide +kernel
theorem q8I : ∀ w ∈ (qqA RX10 268 "java/util/NoSuchElementException" 13 qxN ["java/lang/RuntimeException", "java/lang/Exception"]).filter goodWord, w ∈ wsX10_needHare := by decide +kernel
theorem qFS : ∀ w ∈ u_ws RX10 TX10 19, w ∈ wsX10_needHare := uiM qtS qyE (by decide +kernel)
theorem qahx : ∀ w ∈ u_ws RX2 TX2 12, w ∈ wsX10_needHare := uiM qtS qLg (by decide +kernel)
theorem q0U : (.classLink RX10 264 "java/util/NoSuchElementException" : Cond) ∈ wsX10_needHare := qtS 2690 (by decide +kernel)
theorem q6V : (.fieldLink RX10 141 "MarchHares$Down" "hares" "I" : Cond) ∈ wsX10_needHare := qtS 644 (by decide +kernel)
theorem qaa0 : (.fieldLink RX10 19 "MarchHares" "ground" "LMarchHares$Down;" : Cond) ∈ wsX10_needHare := qtS 20 (by decide +kernel)
theorem qNO : (.fieldLink RX10 261 "MarchHares" "callsNoSuch" "I" : Cond) ∈ wsX10_needHare := qtS 2692 (by decide +kernel)
theorem q0k : (.initialized "java/util/NoSuchElementException" : Cond) ∈ wsX10_needHare := qtS 2691 (by decide +kernel)
set_option maxHeartbeats 4000000 in
set_option maxRecDepth 100000 in
theorem qqH (l : Launch) (dC : Nat → ClassId) (dI : Nat → Nat → Nat) (cyB cyI cyJ cyP : ClassId) (a0 jaR sz : Nat) (jaK ja1 jcp jbc jbV ja3 jbH ja2 jbO jaq jac jbI jbl jbn jba jaa jdD jcB jcC jbo jbp jbk jbj jbe jbq jef jbi jcd : Value) (jbm jdu p1 : Int32) {E : String → Int32 → Prop} {Q : Int32 → Prop} (hw : qn0 jbm jdu p1 E Q) : vx_Met l yX10_needHare wsX10_needHare ({ frames := 6, cells := 1, slots := 6, locals := 120 }) (va_Pc [.ref a0, .int p1] (cPx l (dC, dI) (kT cyB cyI cyJ cyP) (qHt a0 jaK jaR ja1 jcp jbc jbV ja3 jbH ja2 jbO jaq jac jbI jbl jbn jba jaa jdu jdD jaR jcB jcC jbo jbp jbk jbj jbe jbq jef jbm jbi jcd) sz)) (va_Qv (fun (u : Int32) => Q u) (cB (dC, dI) (kT cyB cyI cyJ cyP) (va_A (qHt a0 jaK jaR ja1 jcp jbc jbV ja3 jbH ja2 jbO jaq jac jbI jbl jbn jba jaa jdu jdD jaR jcB jcC jbo jbp jbk jbj jbe jbq jef jbm jbi jcd) sz) (fun u : Int32 => ((qHt a0 jaK jaR ja1 jcp jbc jbV ja3 jbH ja2 jbO jaq jac jbI jbl jbn jba jaa u jdD jaR jcB jcC jbo jbp jbk jbj jbe jbq jef jbm jbi jcd) : va_W))) (va_A (qHt a0 jaK jaR ja1 jcp jbc jbV ja3 jbH ja2 jbO jaq jac jbI jbl jbn jba jaa jdu jdD jaR jcB jcC jbo jbp jbk jbj jbe jbq jef jbm jbi jcd) sz)) (vx_X (fun _ => True) (fun (en : String) (u : Int32) (t : State) => E en u ∧ cB (dC, dI) (kT cyB cyI cyJ cyP) (va_A (qHt a0 jaK jaR ja1 jcp jbc jbV ja3 jbH ja2 jbO jaq jac jbI jbl jbn jba jaa jdu jdD jaR jcB jcC jbo jbp jbk jbj jbe jbq jef jbm jbi jcd) sz) (fun u : Int32 => ((qHt a0 jaK jaR ja1 jcp jbc jbV ja3 jbH ja2 jbO jaq jac jbI jbl jbn jba jaa u jdD jaR jcB jcC jbo jbp jbk jbj jbe jbq jef jbm jbi jcd) : va_W)) u t) (va_A (qHt a0 jaK jaR ja1 jcp jbc jbV ja3 jbH ja2 jbO jaq jac jbI jbl jbn jba jaa jdu jdD jaR jcB jcC jbo jbp jbk jbj jbe jbq jef jbm jbi jcd) sz)) 1 6 (va_A (qHt a0 jaK jaR ja1 jcp jbc jbV ja3 jbH ja2 jbO jaq jac jbI jbl jbn jba jaa jdu jdD jaR jcB jcC jbo jbp jbk jbj jbe jbq jef jbm jbi jcd) sz) := by
  refine vx_ofW (cc := cX10_needHare) (maxL := 2) (ret := none) (by decide) rfl ?_
  intro p e s m args below meth c s₁ B hml hnt hv
  obtain ⟨rfl, hsz, hP, hK, hD0, hNw, hXl, hXu, hXn, hXt⟩ := hv
  have hx := B.exec
  have hb := B.bytes
  have hr := B.returns
  have hts := atoms_spec (ws := wsX10_needHare) B.pre
  have hown : s.vm.findClass RX10 = some m.cls := findClass_of_methodNamed B.named
  have hlocks := B.notSynchronized
  subst hsz
  have hD := hD0.self (sz := s.heap.size)
  generalize hAe : va_A (qHt a0 jaK jaR ja1 jcp jbc jbV ja3 jbH ja2 jbO jaq jac jbI jbl jbn jba jaa jdu jdD jaR jcB jcC jbo jbp jbk jbj jbe jbq jef jbm jbi jcd) s.heap.size = A at hD hXu hXn ⊢
  have hA : ∀ q : Nat, s.heap.size ≤ q → A q := fun q h => by rw [← hAe]; exact Or.inr h
  have hS : va_S A s.heap s.heap [] := va_S.rf
  have hP : va_P (dC, dI) vwCl (qHt a0 jaK jaR ja1 jcp jbc jbV ja3 jbH ja2 jbO jaq jac jbI jbl jbn jba jaa jdu jdD jaR jcB jcC jbo jbp jbk jbj jbe jbq jef jbm jbi jcd) s.heap := hP
  have hl := lv_entry ([.ref a0, .int p1]) (n := 2) (nbq rfl)
  rw [lg_entry_eq]
  generalize (lg_sl ([.ref a0, .int p1]) ++ List.replicate (2 - (lg_sl ([.ref a0, .int p1])).length) Slot.unset).toArray = ls at hl ⊢
  have hl : lv_has ls 2 [(0, .ref a0), (1, .int p1)] := hl
  have hY : cfY l s A := ⟨hXl, hXu, hXn, hXt⟩
  have hXs : cfX l s c A := ⟨hnt, hY⟩
  have C0 : cfx p s m _ meth c cX10_needHare none wsX10_needHare RX10 2 A (dC, dI) (kT cyB cyI cyJ cyP) ∧ cfX l s c A := ⟨⟨hx, hb, hr, hts, hown, hlocks, hml, hA, hK, hNw⟩, hXs⟩
  clear hAe
  obtain ⟨H, hH⟩ : ∃ H, H = s.heap := ⟨_, rfl⟩
  rw [← hH] at hP ⊢
  have hS : va_S A s.heap H [] := by rw [hH]; exact va_S.rf
  have hS := hS
  refine lv_iload_n hx hb (qaa qdW 0 rfl) rfl (lv_at hl 1 rfl) ?_
  refine lv_iconst (v := 0) hx hb (qaa qdW 1 rfl) (by decide) ?_
  refine lv_aload_n hx hb (qaa qdW 2 rfl) rfl (lv_at hl 0 rfl) ?_
  refine va_get (D := (dC, dI)) (ci := 10) (v := .ref jaR) (C := RX10) (T := TX10) (N := 19) hx hb hts qFS hown hK hP 0 rfl rfl 1 (by decide) (hts _ qaa0) (fun _ h9 => h9) rfl (qaa qdW 3 rfl) ?_
  refine va_get (D := (dC, dI)) (ci := 2) (v := .int jbm) (C := RX2) (T := TX2) (N := 12) hx hb hts qahx hown hK hP 1 rfl rfl 9 (by decide) (hts _ q6V) (fun _ h9 => h9) rfl (qaa qdW 4 rfl) ?_
  refine lv_iconst (v := 1) hx hb (qaa qdW 5 rfl) (by decide) ?_
  refine lv_isub hx hb (qaa qdW 6 rfl) ?_
  obtain ⟨hCc, hPc, hDc, hFc⟩ := qac (ws' := []) hP hD hS hA [] (by decide +kernel) rfl
  refine va_calli (va_runS (As := [.int p1, .int 0, .int (jbm - 1)]) (rest := []) ⟨hx, hb, hml, hown, hts⟩ (qzJ l dC dI cyB cyI cyJ cyP H.size p1 0 (jbm - 1) hw) (va_cwS 3 hts gX10_needHare_X10_within rfl rfl rfl (by decide +kernel) ⟨nbq rfl, nbq rfl⟩) ⟨qab, qae hPc hK hDc hNw⟩ rfl rfl hl.1 rfl (lv_room (nbq rfl)) (qaa qdW 7 rfl) ⟨nbq rfl, nbq rfl⟩) hS (fun q _ h => hFc q h) hFc (fun r1 u t H1 locs ht hvm hw hB hz1 hk1 hS => ?_)
  obtain ⟨hP1, hK1, hD1⟩ := hB
  rw [ht] at hP1
  obtain ⟨hP, hD⟩ := qah (wr := (qHt a0 jaK jaR ja1 jcp jbc jbV ja3 jbH ja2 jbO jaq jac jbI jbl jbn jba jaa jdu jdD jaR jcB jcC jbo jbp jbk jbj jbe jbq jef jbm jbi jcd)) (w1 := []) (wn := (qHt a0 jaK jaR ja1 jcp jbc jbV ja3 jbH ja2 jbO jaq jac jbI jbl jbn jba jaa jdu jdD jaR jcB jcC jbo jbp jbk jbj jbe jbq jef jbm jbi jcd)) hP hD [] [0, 1] hCc rfl (by decide +kernel) (by decide +kernel) rfl hk1 hFc hP1 hD1
  generalize H1 = H at hP hS ⊢
  refine lv_if_ne (tgt := 38) hx hb (qaa qdW 8 rfl) (by decide) (fun c2 => ?_) (fun c2 => ?_)
  · have hw := hw.1 c2
    exact vx_ret (W.widen (k := 1) (n := 6) (nbq rfl) (nbq rfl) (W.vret hx hb hr (fun t ht hW => ⟨⟨(jdu), rfl, hw, by rw [ht]; exact hP, va_K.moved hW.alike hK, hD⟩, hS.F ht⟩) hS.2.2 (qaa qwQ 4 rfl)))
  · have hw := hw.2 c2
    refine lv_aload_n hx hb (qaa qdW 9 rfl) rfl (lv_at hl 0 rfl) ?_
    refine lv_dup hx hb (qaa qdW 10 rfl) rfl ?_
    refine va_get (D := (dC, dI)) (ci := 10) (v := .int jdu) (C := RX10) (T := TX10) (N := 19) hx hb hts qFS hown hK hP 0 rfl rfl 17 (by decide) (hts _ qNO) (fun _ h9 => h9) rfl (qaa qdW 11 rfl) ?_
    refine lv_iconst (v := 1) hx hb (qaa qdW 12 rfl) (by decide) ?_
    refine lv_iadd hx hb (qaa qdW 13 rfl) ?_
    refine lv_topi (fun x3 ex3 => ?_)
    have hw := hw x3 ex3
    refine va_put (D := (dC, dI)) (ci := 10) (v := .int x3) (ty := .int) (C := RX10) (T := TX10) (N := 19) hx hb hts qFS tyX10 tyX10_ok nmX10 hown hK hP hD hS 0 rfl rfl 17 (by decide) (hts _ qNO) (fun _ h9 => h9) rfl (by decide +kernel) rfl rfl (nbq rfl) (qaa qdW 14 rfl) (fun H locs hP hD hS => ?_)
    have hP : va_P (dC, dI) vwCl (qHt a0 jaK jaR ja1 jcp jbc jbV ja3 jbH ja2 jbO jaq jac jbI jbl jbn jba jaa x3 jdD jaR jcB jcC jbo jbp jbk jbj jbe jbq jef jbm jbi jcd) H := hP
    have hD : va_D A (qHt a0 jaK jaR ja1 jcp jbc jbV ja3 jbH ja2 jbO jaq jac jbI jbl jbn jba jaa x3 jdD jaR jcB jcC jbo jbp jbk jbj jbe jbq jef jbm jbi jcd) := hD
    obtain ⟨sa9, hsa9⟩ := hY.2.2.2.2.1 _ (List.mem_of_getElem? (i := 1) rfl)
    exact qanc hx hb hY.1 (own := RX10) (cls := "java/util/NoSuchElementException") (names := ["java/lang/RuntimeException", "java/lang/Exception"]) (ik := 264) (is := 403) (ic := 268) (rx := qxN) (by decide +kernel) (by decide +kernel) (by decide +kernel) (by decide +kernel) hown (by decide +kernel) (by decide +kernel) (hts _ q0U) (hts _ q0k) hsa9 (vx_hat (fun w hw9 => hts w (q8I w hw9)) qabR (qa0g hY.2.2.2.1)) qabS hY.2.1 hY.2.2.1 hS (by rw [hml]; exact hl.1) (qaa qdW 15 rfl) (qaa qwQ 0 rfl) (qaa qwQ 1 rfl) (qaa qwQ 2 rfl) (qaa qwQ 3 rfl) (fun x hx9 => (hXs.1 x hx9).elim) (nbq rfl) (nbq rfl) (nbq rfl) (nbq rfl) hlocks (fun t hal hsz9 hq9 => ⟨(x3), trivial, ⟨hw, hP.kept (fun k q hk9 => hq9 _ ((hP k q hk9).lt)), va_K.moved hal hK, hD⟩, qau2 hS hsz9 hq9⟩) hS.2.2 (nbq rfl) (nbq rfl)
theorem qVb : ∀ w ∈ u_ws RX1 TX1 4, w ∈ wsX1_freeOnes := uiM qHj qV8 (by decide +kernel)
theorem qaiC : ∀ w ∈ u_ws RX2 TX2 12, w ∈ wsX1_freeOnes := uiM qHj qLg (by decide +kernel)
theorem qaha : (.fieldLink RX1 13 "MarchHares$Days" "row" "[I" : Cond) ∈ wsX1_freeOnes := qHj 276 (by decide +kernel)
theorem qahh : (.fieldLink RX1 24 "MarchHares$Days" "down" "LMarchHares$Down;" : Cond) ∈ wsX1_freeOnes := qHj 322 (by decide +kernel)
theorem qaht : (.fieldLink RX1 32 "MarchHares$Down" "hares" "I" : Cond) ∈ wsX1_freeOnes := qHj 324 (by decide +kernel)
set_option maxHeartbeats 4000000 in
set_option maxRecDepth 100000 in
theorem qaJQ (l : Launch) (dC : Nat → ClassId) (dI : Nat → Nat → Nat) (cyB cyI cyJ cyP : ClassId) (a0 jfB jch sz : Nat) (jcD jhx jhp jhq jgi jgj jgk jgz jfR jgl jgO jfS jiB : Value) (jc5 : Int32) (jdE : NI) {Q : Int32 → Prop} (hw : q7n jc5 jdE Q) : Met l yX1_freeOnes wsX1_freeOnes ({ frames := 0, cells := 0, slots := 0, locals := 0 }) (va_Pc [.ref a0] (cPc (dC, dI) (kT cyB cyI cyJ cyP) (qpO a0 jch jcD jfB jhx jfB jhp jhq jgi jgj jgk jgz jfR jgl jgO jc5 jfS jiB jch cyI jdE) sz)) (va_Qi (fun (r : Int32) (_ : Unit) => Q r ) (cB (dC, dI) (kT cyB cyI cyJ cyP) (va_A (qpO a0 jch jcD jfB jhx jfB jhp jhq jgi jgj jgk jgz jfR jgl jgO jc5 jfS jiB jch cyI jdE) sz) (fun u : Unit => ((qpO a0 jch jcD jfB jhx jfB jhp jhq jgi jgj jgk jgz jfR jgl jgO jc5 jfS jiB jch cyI jdE) : va_W))) (va_A (qpO a0 jch jcD jfB jhx jfB jhp jhq jgi jgj jgk jgz jfR jgl jgO jc5 jfS jiB jch cyI jdE) sz)) 0 0 (va_A (qpO a0 jch jcD jfB jhx jfB jhp jhq jgi jgj jgk jgz jfR jgl jgO jc5 jfS jiB jch cyI jdE) sz) := by
  refine Met.ofW (cc := cX1_freeOnes) (maxL := 1) (ret := (some .int)) (by decide) rfl ?_
  intro p e s m args below meth c s₁ B hml hv
  obtain ⟨rfl, hsz, hP, hK, hD0, hNw⟩ := hv
  have hx := B.exec
  have hb := B.bytes
  have hr := B.returns
  have hts := atoms_spec (ws := wsX1_freeOnes) B.pre
  have hown : s.vm.findClass RX1 = some m.cls := findClass_of_methodNamed B.named
  have hlocks := B.notSynchronized
  subst hsz
  have hD := hD0.self (sz := s.heap.size)
  generalize hAe : va_A (qpO a0 jch jcD jfB jhx jfB jhp jhq jgi jgj jgk jgz jfR jgl jgO jc5 jfS jiB jch cyI jdE) s.heap.size = A at hD ⊢
  have hA : ∀ q : Nat, s.heap.size ≤ q → A q := fun q h => by rw [← hAe]; exact Or.inr h
  have hS : va_S A s.heap s.heap [] := va_S.rf
  have hP : va_P (dC, dI) vwCl (qpO a0 jch jcD jfB jhx jfB jhp jhq jgi jgj jgk jgz jfR jgl jgO jc5 jfS jiB jch cyI jdE) s.heap := hP
  have hl := lv_entry ([.ref a0]) (n := 1) (nbq rfl)
  rw [lg_entry_eq]
  generalize (lg_sl ([.ref a0]) ++ List.replicate (1 - (lg_sl ([.ref a0])).length) Slot.unset).toArray = ls at hl ⊢
  have hl : lv_has ls 1 [(0, .ref a0)] := hl
  have C0 : cfx p s m _ meth c cX1_freeOnes (some .int) wsX1_freeOnes RX1 1 A (dC, dI) (kT cyB cyI cyJ cyP) := ⟨hx, hb, hr, hts, hown, hlocks, hml, hA, hK, hNw⟩
  clear hAe
  obtain ⟨H, hH⟩ : ∃ H, H = s.heap := ⟨_, rfl⟩
  rw [← hH] at hP ⊢
  have hS : va_S A s.heap H [] := by rw [hH]; exact va_S.rf
  have hS := hS
  refine lv_iconst (v := 1) hx hb (qaa qgA 0 rfl) (by decide) ?_
  refine lv_aload_n hx hb (qaa qgA 1 rfl) rfl (lv_at hl 0 rfl) ?_
  refine va_get (D := (dC, dI)) (ci := 1) (v := .ref jfB) (C := RX1) (T := TX1) (N := 4) hx hb hts qVb hown hK hP 0 rfl rfl 2 (by decide) (hts _ qahh) (fun _ h9 => h9) rfl (qaa qgA 2 rfl) ?_
  refine va_get (D := (dC, dI)) (ci := 2) (v := .int jc5) (C := RX2) (T := TX2) (N := 12) hx hb hts qaiC hown hK hP 1 rfl rfl 9 (by decide) (hts _ qaht) (fun _ h9 => h9) rfl (qaa qgA 3 rfl) ?_
  refine lv_ishl hx hb (qaa qgA 4 rfl) ?_
  refine lv_iconst (v := 1) hx hb (qaa qgA 5 rfl) (by decide) ?_
  refine lv_isub hx hb (qaa qgA 6 rfl) ?_
  refine lv_aload_n hx hb (qaa qgA 7 rfl) rfl (lv_at hl 0 rfl) ?_
  refine va_get (D := (dC, dI)) (ci := 1) (v := .ref jch) (C := RX1) (T := TX1) (N := 4) hx hb hts qVb hown hK hP 0 rfl rfl 0 (by decide) (hts _ qaha) (fun _ h9 => h9) rfl (qaa qgA 8 rfl) ?_
  refine lv_iconst (v := 2) hx hb (qaa qgA 9 rfl) (by decide) ?_
  refine va_iald hx hb hK hP 2 1 rfl rfl (vin (by decide)) (qaa qgA 10 rfl) ?_
  refine lv_topi (fun x1 ex1 => ?_)
  have hw := hw x1 ex1
  refine lv_iconst (v := (-1)) hx hb (qaa qgA 11 rfl) (by decide) ?_
  refine lv_ixor hx hb (qaa qgA 12 rfl) ?_
  refine lv_iand hx hb (qaa qgA 13 rfl) ?_
  refine lv_topi (fun x2 ex2 => ?_)
  have hw := hw x2 ex2
  exact ((W.iret (v := x2) hx hb hr (fun t ht hW => ⟨⟨x2, (), rfl, hw, by rw [ht]; exact hP, va_K.moved hW.alike hK, hD⟩, hS.F ht⟩) hS.2.2 (qaa qgA 14 rfl)))
theorem qazO : ∀ w ∈ u_ws RX1 TX1 4, w ∈ wsX1_strong := uiM qaxs qV8 (by decide +kernel)
theorem qaps : (.fieldLink RX1 13 "MarchHares$Days" "row" "[I" : Cond) ∈ wsX1_strong := qaxs 276 (by decide +kernel)
set_option maxHeartbeats 4000000 in
set_option maxRecDepth 100000 in
theorem qsG (l : Launch) (dC : Nat → ClassId) (dI : Nat → Nat → Nat) (cyB cyI cyJ cyP : ClassId) (a0 jch sz : Nat) (jcD ji6 jhx : Value) (jdE : NI) (p1 : Int32) {Q : Int32 → Prop} (hw : qpb jdE p1 Q) : Met l yX1_strong wsX1_strong ({ frames := 0, cells := 0, slots := 0, locals := 0 }) (va_Pc [.ref a0, .int p1] (cPc (dC, dI) (kT cyB cyI cyJ cyP) (qaH a0 jch jcD ji6 jhx jch cyI jdE) sz)) (va_Qi (fun (r : Int32) (_ : Unit) => Q r ) (cB (dC, dI) (kT cyB cyI cyJ cyP) (va_A (qaH a0 jch jcD ji6 jhx jch cyI jdE) sz) (fun u : Unit => ((qaH a0 jch jcD ji6 jhx jch cyI jdE) : va_W))) (va_A (qaH a0 jch jcD ji6 jhx jch cyI jdE) sz)) 0 0 (va_A (qaH a0 jch jcD ji6 jhx jch cyI jdE) sz) := by
  refine Met.ofW (cc := cX1_strong) (maxL := 2) (ret := (some .int)) (by decide) rfl ?_
  intro p e s m args below meth c s₁ B hml hv
  obtain ⟨rfl, hsz, hP, hK, hD0, hNw⟩ := hv
  have hx := B.exec
  have hb := B.bytes
  have hr := B.returns
  have hts := atoms_spec (ws := wsX1_strong) B.pre
  have hown : s.vm.findClass RX1 = some m.cls := findClass_of_methodNamed B.named
  have hlocks := B.notSynchronized
  subst hsz
  have hD := hD0.self (sz := s.heap.size)
  generalize hAe : va_A (qaH a0 jch jcD ji6 jhx jch cyI jdE) s.heap.size = A at hD ⊢
  have hA : ∀ q : Nat, s.heap.size ≤ q → A q := fun q h => by rw [← hAe]; exact Or.inr h
  have hS : va_S A s.heap s.heap [] := va_S.rf
  have hP : va_P (dC, dI) vwCl (qaH a0 jch jcD ji6 jhx jch cyI jdE) s.heap := hP
  have hl := lv_entry ([.ref a0, .int p1]) (n := 2) (nbq rfl)
  rw [lg_entry_eq]
  generalize (lg_sl ([.ref a0, .int p1]) ++ List.replicate (2 - (lg_sl ([.ref a0, .int p1])).length) Slot.unset).toArray = ls at hl ⊢
  have hl : lv_has ls 2 [(0, .ref a0), (1, .int p1)] := hl
  have C0 : cfx p s m _ meth c cX1_strong (some .int) wsX1_strong RX1 2 A (dC, dI) (kT cyB cyI cyJ cyP) := ⟨hx, hb, hr, hts, hown, hlocks, hml, hA, hK, hNw⟩
  clear hAe
  obtain ⟨H, hH⟩ : ∃ H, H = s.heap := ⟨_, rfl⟩
  rw [← hH] at hP ⊢
  have hS : va_S A s.heap H [] := by rw [hH]; exact va_S.rf
  have hS := hS
  refine lv_aload_n hx hb (qaa qxG 0 rfl) rfl (lv_at hl 0 rfl) ?_
  refine va_get (D := (dC, dI)) (ci := 1) (v := .ref jch) (C := RX1) (T := TX1) (N := 4) hx hb hts qazO hown hK hP 0 rfl rfl 0 (by decide) (hts _ qaps) (fun _ h9 => h9) rfl (qaa qxG 1 rfl) ?_
  refine lv_bipush (v := 10) hx hb (qaa qxG 2 rfl) (by decide) ?_
  refine lv_iload_n hx hb (qaa qxG 3 rfl) rfl (lv_at hl 1 rfl) ?_
  refine lv_iadd hx hb (qaa qxG 4 rfl) ?_
  refine lv_topi (fun x1 ex1 => ?_)
  have hw := hw x1 ex1
  obtain ⟨hi9, hw⟩ := hw
  refine va_iald hx hb hK hP 1 1 rfl rfl hi9 (qaa qxG 5 rfl) ?_
  refine lv_topi (fun x2 ex2 => ?_)
  have hw := hw x2 ex2
  exact ((W.iret (v := x2) hx hb hr (fun t ht hW => ⟨⟨x2, (), rfl, hw, by rw [ht]; exact hP, va_K.moved hW.alike hK, hD⟩, hS.F ht⟩) hS.2.2 (qaa qxG 6 rfl)))
theorem qV2 : (.initialized "java/lang/Math" : Cond) ∈ wsX10_ordersWon := qkU 651 (by decide +kernel)
theorem qVf : (.methodLink RX10 389 Lib.Math.max.name : Cond) ∈ wsX10_ordersWon := qkU 3404 (by decide +kernel)
theorem qS4 : (.code Lib.Math.max.name Lib.Math.max.code 2 (some .int) : Cond) ∈ wsX10_ordersWon := qkU 1931 (by decide +kernel)
theorem qTi : (.static Lib.Math.max.name : Cond) ∈ wsX10_ordersWon := qkU 1930 (by decide +kernel)
set_option maxHeartbeats 4000000 in
set_option maxRecDepth 100000 in
theorem qJn {p : Program} {l : Launch} {e : Env} {s : State} {m : MethodId} {args : Array Value} {below : List Frame} {meth : Method} {c : Code} {A : Nat → Prop} (dC : Nat → ClassId) (dI : Nat → Nat → Nat) (cyB cyI cyJ cyP : ClassId) (a0 jch : Nat) (jcD ji6 jhx : Value) (jdE : NI) (Q : Int32 → Prop) (K22 : Int32 → Int32 → Int32 → Int32 → Int32 → Int32 → Prop) (hK22 : ∀ (H : Heap) (locs : List Loc) (ls : Array Slot) (l1 l2 l3 l4 l5 l6 : Int32), va_P (dC, dI) vwCl (qaH a0 jch jcD ji6 jhx jch cyI jdE) H → va_D A (qaH a0 jch jcD ji6 jhx jch cyI jdE) → va_S A s.heap H locs → lv_has ls 11 [(0, .ref a0), (1, .int l1), (2, .int l2), (3, .int l3), (4, .int l4), (5, .int l5), (6, .int l6)] → K22 l1 l2 l3 l4 l5 l6 → W p l e (headSpec wsX10_ordersWon ({ frames := 1, cells := 0, slots := 0, locals := 32 })).room s m args below meth c H locs 0 0 (MQ below (va_Qi (fun (r : Int32) (_ : Unit) => Q r ) (cB (dC, dI) (kT cyB cyI cyJ cyP) A (fun u : Unit => ((qaH a0 jch jcD ji6 jhx jch cyI jdE) : va_W))) A) args s 0 0 A) (F0 m 22 ls [])) (C0 : cfx p s m args meth c cX10_ordersWon (some .int) wsX10_ordersWon RX10 11 A (dC, dI) (kT cyB cyI cyJ cyP)) : ∀ (H : Heap) (locs : List Loc) (ls : Array Slot) (l1 l2 l3 l4 l5 l6 l9 s0 s1 : Int32), va_P (dC, dI) vwCl (qaH a0 jch jcD ji6 jhx jch cyI jdE) H → va_D A (qaH a0 jch jcD ji6 jhx jch cyI jdE) → va_S A s.heap H locs → lv_has ls 11 [(0, .ref a0), (1, .int l1), (2, .int l2), (3, .int l3), (4, .int l4), (5, .int l5), (6, .int l6), (9, .int l9)] → qAK jdE Q K22 l1 l2 l3 l4 l5 l6 l9 s0 s1 → W p l e (headSpec wsX10_ordersWon ({ frames := 1, cells := 0, slots := 0, locals := 32 })).room s m args below meth c H locs 0 0 (MQ below (va_Qi (fun (r : Int32) (_ : Unit) => Q r ) (cB (dC, dI) (kT cyB cyI cyJ cyP) A (fun u : Unit => ((qaH a0 jch jcD ji6 jhx jch cyI jdE) : va_W))) A) args s 0 0 A) (F0 m 85 ls [.int s1, .int s0]) := by
  obtain ⟨hx, hb, hr, hts, hown, hlocks, hml, hA, hK, hNw⟩ := id C0
  intro H locs ls l1 l2 l3 l4 l5 l6 l9 s0 s1 hP hD hS hl hw
  refine lv_iconst (v := 1) hx hb (qaa qaK 11 rfl) (by decide) ?_
  refine lv_isub hx hb (qaa qaK 12 rfl) ?_
  refine va_mmax hx hb (by rw [hml]; exact hl.1.symm) hown (hts _ qVf) (hts _ qTi) (hts _ qV2) (hts _ qS4) (nbq rfl) (nbq rfl) (nbq rfl) (nbq rfl) (qaa qaK 13 rfl) ?_
  refine lv_topi (fun x11 ex11 => ?_)
  have hw := hw x11 ex11
  refine lv_istore (lv' := [(10, .int x11), (0, .ref a0), (1, .int l1), (2, .int l2), (3, .int l3), (4, .int l4), (5, .int l5), (6, .int l6), (9, .int l9)]) hx hb (qaa qaK 14 rfl) hl (by decide) rfl (fun ls hl => ?_)
  refine lv_iload hx hb (qaa qaK 15 rfl) (lv_at hl 6 rfl) ?_
  refine lv_aload_n hx hb (qaa qa6 0 rfl) rfl (lv_at hl 1 rfl) ?_
  refine lv_iload_n hx hb (qaa qa6 1 rfl) rfl (lv_at hl 2 rfl) ?_
  refine lv_iload hx hb (qaa qa6 2 rfl) (lv_at hl 8 rfl) ?_
  refine lv_iload hx hb (qaa qa6 3 rfl) (lv_at hl 0 rfl) ?_
  refine lv_iload hx hb (qaa qa6 4 rfl) (lv_at hl 5 rfl) ?_
  refine lv_iconst (v := 1) hx hb (qaa qa6 5 rfl) (by decide) ?_
  refine lv_iload hx hb (qaa qa6 6 rfl) (lv_at hl 7 rfl) ?_
  refine lv_ishl hx hb (qaa qa6 7 rfl) ?_
  refine lv_ixor hx hb (qaa qa6 8 rfl) ?_
  exact False.elim hw
set_option maxHeartbeats 4000000 in
set_option maxRecDepth 100000 in
theorem qJa {p : Program} {l : Launch} {e : Env} {s : State} {m : MethodId} {args : Array Value} {below : List Frame} {meth : Method} {c : Code} {A : Nat → Prop} (dC : Nat → ClassId) (dI : Nat → Nat → Nat) (cyB cyI cyJ cyP : ClassId) (a0 jch : Nat) (jcD ji6 jhx : Value) (jdE : NI) (Q : Int32 → Prop) (K22 : Int32 → Int32 → Int32 → Int32 → Int32 → Int32 → Prop) (hK22 : ∀ (H : Heap) (locs : List Loc) (ls : Array Slot) (l1 l2 l3 l4 l5 l6 : Int32), va_P (dC, dI) vwCl (qaH a0 jch jcD ji6 jhx jch cyI jdE) H → va_D A (qaH a0 jch jcD ji6 jhx jch cyI jdE) → va_S A s.heap H locs → lv_has ls 11 [(0, .ref a0), (1, .int l1), (2, .int l2), (3, .int l3), (4, .int l4), (5, .int l5), (6, .int l6)] → K22 l1 l2 l3 l4 l5 l6 → W p l e (headSpec wsX10_ordersWon ({ frames := 1, cells := 0, slots := 0, locals := 32 })).room s m args below meth c H locs 0 0 (MQ below (va_Qi (fun (r : Int32) (_ : Unit) => Q r ) (cB (dC, dI) (kT cyB cyI cyJ cyP) A (fun u : Unit => ((qaH a0 jch jcD ji6 jhx jch cyI jdE) : va_W))) A) args s 0 0 A) (F0 m 22 ls [])) (C0 : cfx p s m args meth c cX10_ordersWon (some .int) wsX10_ordersWon RX10 11 A (dC, dI) (kT cyB cyI cyJ cyP)) : ∀ (H : Heap) (locs : List Loc) (ls : Array Slot) (l1 l2 l3 l4 l5 l6 l7 l8 s0 : Int32), va_P (dC, dI) vwCl (qaH a0 jch jcD ji6 jhx jch cyI jdE) H → va_D A (qaH a0 jch jcD ji6 jhx jch cyI jdE) → va_S A s.heap H locs → lv_has ls 11 [(0, .ref a0), (1, .int l1), (2, .int l2), (3, .int l3), (4, .int l4), (5, .int l5), (6, .int l6), (7, .int l7), (8, .int l8)] → qAR jdE Q K22 l1 l2 l3 l4 l5 l6 l7 l8 s0 → W p l e (headSpec wsX10_ordersWon ({ frames := 1, cells := 0, slots := 0, locals := 32 })).room s m args below meth c H locs 0 0 (MQ below (va_Qi (fun (r : Int32) (_ : Unit) => Q r ) (cB (dC, dI) (kT cyB cyI cyJ cyP) A (fun u : Unit => ((qaH a0 jch jcD ji6 jhx jch cyI jdE) : va_W))) A) args s 0 0 A) (F0 m 71 ls [.int s0]) := by
  obtain ⟨hx, hb, hr, hts, hown, hlocks, hml, hA, hK, hNw⟩ := id C0
  intro H locs ls l1 l2 l3 l4 l5 l6 l7 l8 s0 hP hD hS hl hw
  refine lv_istore (lv' := [(9, .int s0), (0, .ref a0), (1, .int l1), (2, .int l2), (3, .int l3), (4, .int l4), (5, .int l5), (6, .int l6), (7, .int l7), (8, .int l8)]) hx hb (qaa qaK 4 rfl) hl (by decide) rfl (fun ls hl => ?_)
  refine lv_iconst (v := 0) hx hb (qaa qaK 5 rfl) (by decide) ?_
  refine lv_iload hx hb (qaa qaK 6 rfl) (lv_at hl 9 rfl) ?_
  refine lv_if_eq (tgt := 83) hx hb (qaa qaK 7 rfl) (by decide) (fun c10 => ?_) (fun c10 => ?_)
  · have hw := hw.1 c10
    refine lv_iload hx hb (qaa qaK 10 rfl) (lv_at hl 8 rfl) ?_
    exact qJn dC dI cyB cyI cyJ cyP a0 jch jcD ji6 jhx jdE Q K22 hK22 C0 _ _ _ l1 l2 l3 l4 l5 l6 s0 0 l7 hP hD hS (lv_sub hl [1, 2, 3, 4, 5, 6, 7, 0] rfl) hw
  · have hw := hw.2 c10
    refine lv_iload_n hx hb (qaa qaK 8 rfl) rfl (lv_at hl 4 rfl) ?_
    refine lv_goto (tgt := 85) hx hb (qaa qaK 9 rfl) (by decide) ?_
    exact qJn dC dI cyB cyI cyJ cyP a0 jch jcD ji6 jhx jdE Q K22 hK22 C0 _ _ _ l1 l2 l3 l4 l5 l6 s0 0 l3 hP hD hS (lv_sub hl [1, 2, 3, 4, 5, 6, 7, 0] rfl) hw
set_option maxHeartbeats 4000000 in
set_option maxRecDepth 100000 in
theorem qJm {p : Program} {l : Launch} {e : Env} {s : State} {m : MethodId} {args : Array Value} {below : List Frame} {meth : Method} {c : Code} {A : Nat → Prop} (dC : Nat → ClassId) (dI : Nat → Nat → Nat) (cyB cyI cyJ cyP : ClassId) (a0 jch : Nat) (jcD ji6 jhx : Value) (jdE : NI) (Q : Int32 → Prop) (K22 : Int32 → Int32 → Int32 → Int32 → Int32 → Int32 → Prop) (hK22 : ∀ (H : Heap) (locs : List Loc) (ls : Array Slot) (l1 l2 l3 l4 l5 l6 : Int32), va_P (dC, dI) vwCl (qaH a0 jch jcD ji6 jhx jch cyI jdE) H → va_D A (qaH a0 jch jcD ji6 jhx jch cyI jdE) → va_S A s.heap H locs → lv_has ls 11 [(0, .ref a0), (1, .int l1), (2, .int l2), (3, .int l3), (4, .int l4), (5, .int l5), (6, .int l6)] → K22 l1 l2 l3 l4 l5 l6 → W p l e (headSpec wsX10_ordersWon ({ frames := 1, cells := 0, slots := 0, locals := 32 })).room s m args below meth c H locs 0 0 (MQ below (va_Qi (fun (r : Int32) (_ : Unit) => Q r ) (cB (dC, dI) (kT cyB cyI cyJ cyP) A (fun u : Unit => ((qaH a0 jch jcD ji6 jhx jch cyI jdE) : va_W))) A) args s 0 0 A) (F0 m 22 ls [])) (C0 : cfx p s m args meth c cX10_ordersWon (some .int) wsX10_ordersWon RX10 11 A (dC, dI) (kT cyB cyI cyJ cyP)) : ∀ (H : Heap) (locs : List Loc) (ls : Array Slot) (l1 l2 l3 l4 l5 l6 l7 s0 : Int32), va_P (dC, dI) vwCl (qaH a0 jch jcD ji6 jhx jch cyI jdE) H → va_D A (qaH a0 jch jcD ji6 jhx jch cyI jdE) → va_S A s.heap H locs → lv_has ls 11 [(0, .ref a0), (1, .int l1), (2, .int l2), (3, .int l3), (4, .int l4), (5, .int l5), (6, .int l6), (7, .int l7)] → qAT jdE Q K22 l1 l2 l3 l4 l5 l6 l7 s0 → W p l e (headSpec wsX10_ordersWon ({ frames := 1, cells := 0, slots := 0, locals := 32 })).room s m args below meth c H locs 0 0 (MQ below (va_Qi (fun (r : Int32) (_ : Unit) => Q r ) (cB (dC, dI) (kT cyB cyI cyJ cyP) A (fun u : Unit => ((qaH a0 jch jcD ji6 jhx jch cyI jdE) : va_W))) A) args s 0 0 A) (F0 m 58 ls [.int s0]) := by
  obtain ⟨hx, hb, hr, hts, hown, hlocks, hml, hA, hK, hNw⟩ := id C0
  intro H locs ls l1 l2 l3 l4 l5 l6 l7 s0 hP hD hS hl hw
  refine lv_istore (lv' := [(8, .int s0), (0, .ref a0), (1, .int l1), (2, .int l2), (3, .int l3), (4, .int l4), (5, .int l5), (6, .int l6), (7, .int l7)]) hx hb (qaa qaR 14 rfl) hl (by decide) rfl (fun ls hl => ?_)
  refine lv_iload hx hb (qaa qaR 15 rfl) (lv_at hl 0 rfl) ?_
  refine lv_if_eq (tgt := 69) hx hb (qaa qaK 0 rfl) (by decide) (fun c9 => ?_) (fun c9 => ?_)
  · have hw := hw.1 c9
    refine lv_iload hx hb (qaa qaK 3 rfl) (lv_at hl 7 rfl) ?_
    exact qJa dC dI cyB cyI cyJ cyP a0 jch jcD ji6 jhx jdE Q K22 hK22 C0 _ _ _ l1 l2 l3 l4 l5 l6 l7 s0 l6 hP hD hS (lv_sub hl [1, 2, 3, 4, 5, 6, 7, 8, 0] rfl) hw
  · have hw := hw.2 c9
    refine lv_iload_n hx hb (qaa qaK 1 rfl) rfl (lv_at hl 3 rfl) ?_
    refine lv_goto (tgt := 71) hx hb (qaa qaK 2 rfl) (by decide) ?_
    exact qJa dC dI cyB cyI cyJ cyP a0 jch jcD ji6 jhx jdE Q K22 hK22 C0 _ _ _ l1 l2 l3 l4 l5 l6 l7 s0 l2 hP hD hS (lv_sub hl [1, 2, 3, 4, 5, 6, 7, 8, 0] rfl) hw
set_option maxHeartbeats 4000000 in
set_option maxRecDepth 100000 in
theorem qXY {p : Program} {l : Launch} {e : Env} {s : State} {m : MethodId} {args : Array Value} {below : List Frame} {meth : Method} {c : Code} {A : Nat → Prop} (dC : Nat → ClassId) (dI : Nat → Nat → Nat) (cyB cyI cyJ cyP : ClassId) (a0 jch : Nat) (jcD ji6 jhx : Value) (jdE : NI) (Q : Int32 → Prop) (K22 : Int32 → Int32 → Int32 → Int32 → Int32 → Int32 → Prop) (hK22 : ∀ (H : Heap) (locs : List Loc) (ls : Array Slot) (l1 l2 l3 l4 l5 l6 : Int32), va_P (dC, dI) vwCl (qaH a0 jch jcD ji6 jhx jch cyI jdE) H → va_D A (qaH a0 jch jcD ji6 jhx jch cyI jdE) → va_S A s.heap H locs → lv_has ls 11 [(0, .ref a0), (1, .int l1), (2, .int l2), (3, .int l3), (4, .int l4), (5, .int l5), (6, .int l6)] → K22 l1 l2 l3 l4 l5 l6 → W p l e (headSpec wsX10_ordersWon ({ frames := 1, cells := 0, slots := 0, locals := 32 })).room s m args below meth c H locs 0 0 (MQ below (va_Qi (fun (r : Int32) (_ : Unit) => Q r ) (cB (dC, dI) (kT cyB cyI cyJ cyP) A (fun u : Unit => ((qaH a0 jch jcD ji6 jhx jch cyI jdE) : va_W))) A) args s 0 0 A) (F0 m 22 ls [])) (C0 : cfx p s m args meth c cX10_ordersWon (some .int) wsX10_ordersWon RX10 11 A (dC, dI) (kT cyB cyI cyJ cyP)) : ∀ (H : Heap) (locs : List Loc) (ls : Array Slot) (l1 l2 l3 l4 l5 l6 : Int32), va_P (dC, dI) vwCl (qaH a0 jch jcD ji6 jhx jch cyI jdE) H → va_D A (qaH a0 jch jcD ji6 jhx jch cyI jdE) → va_S A s.heap H locs → lv_has ls 11 [(0, .ref a0), (1, .int l1), (2, .int l2), (3, .int l3), (4, .int l4), (5, .int l5), (6, .int l6)] → qIl jdE Q K22 l1 l2 l3 l4 l5 l6 → W p l e (headSpec wsX10_ordersWon ({ frames := 1, cells := 0, slots := 0, locals := 32 })).room s m args below meth c H locs 0 0 (MQ below (va_Qi (fun (r : Int32) (_ : Unit) => Q r ) (cB (dC, dI) (kT cyB cyI cyJ cyP) A (fun u : Unit => ((qaH a0 jch jcD ji6 jhx jch cyI jdE) : va_W))) A) args s 0 0 A) (F0 m 113 ls []) := by
  obtain ⟨hx, hb, hr, hts, hown, hlocks, hml, hA, hK, hNw⟩ := id C0
  intro H locs ls l1 l2 l3 l4 l5 l6 hP hD hS hl hw
  obtain ⟨x8, ex8⟩ : ∃ y : Int32, y = l6 + 1 := ⟨_, rfl⟩
  have hw := hw x8 ex8
  refine lv_iinc (v := x8) (lv' := [(6, .int x8), (0, .ref a0), (1, .int l1), (2, .int l2), (3, .int l3), (4, .int l4), (5, .int l5)]) hx hb (qaa qa6 12 rfl) hl (k := 6) rfl (by rw [ex8]; rfl) (by decide) rfl (fun ls hl => ?_)
  refine lv_goto (tgt := 22) hx hb (qaa qa6 13 rfl) (by decide) ?_
  exact hK22 _ _ _ l1 l2 l3 l4 l5 x8 hP hD hS (lv_sub hl [1, 2, 3, 4, 5, 6, 0] rfl) hw
set_option maxHeartbeats 4000000 in
set_option maxRecDepth 100000 in
theorem q0f {p : Program} {l : Launch} {e : Env} {s : State} {m : MethodId} {args : Array Value} {below : List Frame} {meth : Method} {c : Code} {A : Nat → Prop} (dC : Nat → ClassId) (dI : Nat → Nat → Nat) (cyB cyI cyJ cyP : ClassId) (a0 jch : Nat) (jcD ji6 jhx : Value) (jdE : NI) (Q : Int32 → Prop) (C0 : cfx p s m args meth c cX10_ordersWon (some .int) wsX10_ordersWon RX10 11 A (dC, dI) (kT cyB cyI cyJ cyP)) : ∀ (n : Nat) (H : Heap) (locs : List Loc) (ls : Array Slot) (l1 l2 l3 l4 l5 l6 : Int32), va_P (dC, dI) vwCl (qaH a0 jch jcD ji6 jhx jch cyI jdE) H → va_D A (qaH a0 jch jcD ji6 jhx jch cyI jdE) → va_S A s.heap H locs → lv_has ls 11 [(0, .ref a0), (1, .int l1), (2, .int l2), (3, .int l3), (4, .int l4), (5, .int l5), (6, .int l6)] → qlh jdE Q n l1 l2 l3 l4 l5 l6 → W p l e (headSpec wsX10_ordersWon ({ frames := 1, cells := 0, slots := 0, locals := 32 })).room s m args below meth c H locs 0 0 (MQ below (va_Qi (fun (r : Int32) (_ : Unit) => Q r ) (cB (dC, dI) (kT cyB cyI cyJ cyP) A (fun u : Unit => ((qaH a0 jch jcD ji6 jhx jch cyI jdE) : va_W))) A) args s 0 0 A) (F0 m 22 ls []) := by
  obtain ⟨hx, hb, hr, hts, hown, hlocks, hml, hA, hK, hNw⟩ := id C0
  intro n
  induction n with
  | zero => intro H locs ls l1 l2 l3 l4 l5 l6 hP hD hS hl hw; exact False.elim hw
  | succ n ih =>
    intro H locs ls l1 l2 l3 l4 l5 l6 hP hD hS hl hw
    refine lv_iload hx hb (qaa qaT 13 rfl) (lv_at hl 6 rfl) ?_
    refine lv_bipush (v := 6) hx hb (qaa qaT 14 rfl) (by decide) ?_
    refine lv_icmp_ge (tgt := 119) hx hb (qaa qaT 15 rfl) (by decide) (fun c3 => ?_) (fun c3 => ?_)
    · have hw := hw.1 c3
      refine lv_iload hx hb (qaa qa6 14 rfl) (lv_at hl 5 rfl) ?_
      exact ((W.iret (v := l5) hx hb hr (fun t ht hW => ⟨⟨l5, (), rfl, hw, by rw [ht]; exact hP, va_K.moved hW.alike hK, hD⟩, hS.F ht⟩) hS.2.2 (qaa qa6 15 rfl)))
    · have hw := hw.2 c3
      refine lv_iload hx hb (qaa qaR 0 rfl) (lv_at hl 4 rfl) ?_
      refine lv_iload hx hb (qaa qaR 1 rfl) (lv_at hl 6 rfl) ?_
      obtain ⟨hCc, hPc, hDc, hFc⟩ := qac (ws' := []) hP hD hS hA [] (by decide +kernel) rfl
      refine va_calli (va_runS (As := [.int l4, .int l6]) (rest := []) ⟨hx, hb, hml, hown, hts⟩ (qnt l dC dI cyB cyI cyJ cyP H.size l4 l6 hw) (va_cwS 2 hts gX10_ordersWon_X10_holds rfl rfl rfl (by decide +kernel) ⟨nbq rfl, nbq rfl⟩) ⟨qab, qae hPc hK hDc hNw⟩ rfl rfl hl.1 rfl (lv_room (nbq rfl)) (qaa qaR 2 rfl) ⟨nbq rfl, nbq rfl⟩) hS (fun q _ h => hFc q h) hFc (fun r4 u t H1 locs ht hvm hw hB hz1 hk1 hS => ?_)
      obtain ⟨hP1, hK1, hD1⟩ := hB
      rw [ht] at hP1
      obtain ⟨hP, hD⟩ := qah (wr := (qaH a0 jch jcD ji6 jhx jch cyI jdE)) (w1 := []) (wn := (qaH a0 jch jcD ji6 jhx jch cyI jdE)) hP hD [] [0, 1] hCc rfl (by decide +kernel) (by decide +kernel) rfl hk1 hFc hP1 hD1
      generalize H1 = H at hP hS ⊢
      refine lv_if_eq (tgt := 113) hx hb (qaa qaR 3 rfl) (by decide) (fun c5 => ?_) (fun c5 => ?_)
      · have hw := hw.1 c5
        exact qXY dC dI cyB cyI cyJ cyP a0 jch jcD ji6 jhx jdE Q (qlh jdE Q n) ih C0 _ _ _ l1 l2 l3 l4 l5 l6 hP hD hS (lv_sub hl [0, 1, 2, 3, 4, 5, 6] rfl) hw
      · have hw := hw.2 c5
        refine lv_aload_n hx hb (qaa qaR 4 rfl) rfl (lv_at hl 0 rfl) ?_
        refine lv_iload hx hb (qaa qaR 5 rfl) (lv_at hl 6 rfl) ?_
        obtain ⟨hCc, hPc, hDc, hFc⟩ := qac (ws' := (qaH a0 jch jcD ji6 jhx jch cyI jdE)) hP hD hS hA [0, 1] (by decide +kernel) rfl
        refine va_calli (va_runV (As := [.int l6]) (rest := []) ⟨hx, hb, hml, hown, hts⟩ (qsG l dC dI cyB cyI cyJ cyP a0 jch H.size (jcD) (ji6) (jhx) jdE l6 hw) (cwV 1 hts gX10_ordersWon_X1_strong rfl rfl rfl (by decide +kernel) ⟨nbq rfl, nbq rfl⟩) ⟨qab, va_recv (q := (RX1, TX1, 4)) hK hPc (ci := 1) (q0 := 0) rfl rfl, qae hPc hK hDc hNw⟩ rfl rfl hl.1 rfl (lv_room (nbq rfl)) (qaa qaR 6 rfl) ⟨nbq rfl, nbq rfl⟩) hS (fun q _ h => hFc q h) hFc (fun r6 u t H1 locs ht hvm hw hB hz1 hk1 hS => ?_)
        obtain ⟨hP1, hK1, hD1⟩ := hB
        rw [ht] at hP1
        obtain ⟨hP, hD⟩ := qah (wr := []) (w1 := (qaH a0 jch jcD ji6 jhx jch cyI jdE)) (wn := (qaH a0 jch jcD ji6 jhx jch cyI jdE)) hP hD [0, 1] [] hCc rfl (by decide +kernel) (by decide +kernel) rfl hk1 hFc hP1 hD1
        generalize H1 = H at hP hS ⊢
        refine lv_istore (lv' := [(7, .int r6), (0, .ref a0), (1, .int l1), (2, .int l2), (3, .int l3), (4, .int l4), (5, .int l5), (6, .int l6)]) hx hb (qaa qaR 7 rfl) hl (by decide) rfl (fun ls hl => ?_)
        refine lv_iload_n hx hb (qaa qaR 8 rfl) rfl (lv_at hl 4 rfl) ?_
        refine lv_iload hx hb (qaa qaR 9 rfl) (lv_at hl 0 rfl) ?_
        refine lv_icmp_lt (tgt := 57) hx hb (qaa qaR 10 rfl) (by decide) (fun c7 => ?_) (fun c7 => ?_)
        · have hw := hw.1 c7
          refine lv_iconst (v := 0) hx hb (qaa qaR 13 rfl) (by decide) ?_
          exact qJm dC dI cyB cyI cyJ cyP a0 jch jcD ji6 jhx jdE Q (qlh jdE Q n) ih C0 _ _ _ l1 l2 l3 l4 l5 l6 r6 0 hP hD hS (lv_sub hl [1, 2, 3, 4, 5, 6, 7, 0] rfl) hw
        · have hw := hw.2 c7
          refine lv_iconst (v := 1) hx hb (qaa qaR 11 rfl) (by decide) ?_
          refine lv_goto (tgt := 58) hx hb (qaa qaR 12 rfl) (by decide) ?_
          exact qJm dC dI cyB cyI cyJ cyP a0 jch jcD ji6 jhx jdE Q (qlh jdE Q n) ih C0 _ _ _ l1 l2 l3 l4 l5 l6 r6 1 hP hD hS (lv_sub hl [1, 2, 3, 4, 5, 6, 7, 0] rfl) hw
set_option maxHeartbeats 4000000 in
set_option maxRecDepth 100000 in
theorem qabl (l : Launch) (dC : Nat → ClassId) (dI : Nat → Nat → Nat) (cyB cyI cyJ cyP : ClassId) (a0 jch sz : Nat) (jcD ji6 jhx : Value) (jdE : NI) (p1 p2 p3 p4 : Int32) {Q : Int32 → Prop} (hw : qzz jdE p1 p2 p3 p4 Q) : Met l yX10_ordersWon wsX10_ordersWon ({ frames := 1, cells := 0, slots := 0, locals := 32 }) (va_Pc [.ref a0, .int p1, .int p2, .int p3, .int p4] (cPc (dC, dI) (kT cyB cyI cyJ cyP) (qaH a0 jch jcD ji6 jhx jch cyI jdE) sz)) (va_Qi (fun (r : Int32) (_ : Unit) => Q r ) (cB (dC, dI) (kT cyB cyI cyJ cyP) (va_A (qaH a0 jch jcD ji6 jhx jch cyI jdE) sz) (fun u : Unit => ((qaH a0 jch jcD ji6 jhx jch cyI jdE) : va_W))) (va_A (qaH a0 jch jcD ji6 jhx jch cyI jdE) sz)) 0 0 (va_A (qaH a0 jch jcD ji6 jhx jch cyI jdE) sz) := by
  refine Met.ofW (cc := cX10_ordersWon) (maxL := 11) (ret := (some .int)) (by decide) rfl ?_
  intro p e s m args below meth c s₁ B hml hv
  obtain ⟨rfl, hsz, hP, hK, hD0, hNw⟩ := hv
  have hx := B.exec
  have hb := B.bytes
  have hr := B.returns
  have hts := atoms_spec (ws := wsX10_ordersWon) B.pre
  have hown : s.vm.findClass RX10 = some m.cls := findClass_of_methodNamed B.named
  have hlocks := B.notSynchronized
  subst hsz
  have hD := hD0.self (sz := s.heap.size)
  generalize hAe : va_A (qaH a0 jch jcD ji6 jhx jch cyI jdE) s.heap.size = A at hD ⊢
  have hA : ∀ q : Nat, s.heap.size ≤ q → A q := fun q h => by rw [← hAe]; exact Or.inr h
  have hS : va_S A s.heap s.heap [] := va_S.rf
  have hP : va_P (dC, dI) vwCl (qaH a0 jch jcD ji6 jhx jch cyI jdE) s.heap := hP
  have hl := lv_entry ([.ref a0, .int p1, .int p2, .int p3, .int p4]) (n := 11) (nbq rfl)
  rw [lg_entry_eq]
  generalize (lg_sl ([.ref a0, .int p1, .int p2, .int p3, .int p4]) ++ List.replicate (11 - (lg_sl ([.ref a0, .int p1, .int p2, .int p3, .int p4])).length) Slot.unset).toArray = ls at hl ⊢
  have hl : lv_has ls 11 [(0, .ref a0), (1, .int p1), (2, .int p2), (3, .int p3), (4, .int p4)] := hl
  have C0 : cfx p s m _ meth c cX10_ordersWon (some .int) wsX10_ordersWon RX10 11 A (dC, dI) (kT cyB cyI cyJ cyP) := ⟨hx, hb, hr, hts, hown, hlocks, hml, hA, hK, hNw⟩
  clear hAe
  obtain ⟨H, hH⟩ : ∃ H, H = s.heap := ⟨_, rfl⟩
  rw [← hH] at hP ⊢
  have hS : va_S A s.heap H [] := by rw [hH]; exact va_S.rf
  have hS := hS
  refine lv_iload hx hb (qaa qaT 0 rfl) (lv_at hl 4 rfl) ?_
  refine lv_if_ne (tgt := 16) hx hb (qaa qaT 1 rfl) (by decide) (fun c1 => ?_) (fun c1 => ?_)
  · have hw := hw.1 c1
    refine lv_iconst (v := 0) hx hb (qaa qaT 9 rfl) (by decide) ?_
    refine lv_istore (lv' := [(5, .int 0), (0, .ref a0), (1, .int p1), (2, .int p2), (3, .int p3), (4, .int p4)]) hx hb (qaa qaT 10 rfl) hl (by decide) rfl (fun ls hl => ?_)
    refine lv_iconst (v := 0) hx hb (qaa qaT 11 rfl) (by decide) ?_
    refine lv_istore (lv' := [(6, .int 0), (5, .int 0), (0, .ref a0), (1, .int p1), (2, .int p2), (3, .int p3), (4, .int p4)]) hx hb (qaa qaT 12 rfl) hl (by decide) rfl (fun ls hl => ?_)
    obtain ⟨n9, hw⟩ := hw
    exact q0f dC dI cyB cyI cyJ cyP a0 jch jcD ji6 jhx jdE Q C0 n9 _ _ _ p1 p2 p3 p4 0 0 hP hD hS (lv_sub hl [2, 3, 4, 5, 6, 1, 0] rfl) hw
  · have hw := hw.2 c1
    refine lv_iload_n hx hb (qaa qaT 2 rfl) rfl (lv_at hl 2 rfl) ?_
    refine lv_iload_n hx hb (qaa qaT 3 rfl) rfl (lv_at hl 1 rfl) ?_
    refine lv_icmp_ne (tgt := 14) hx hb (qaa qaT 4 rfl) (by decide) (fun c2 => ?_) (fun c2 => ?_)
    · have hw := hw.1 c2
      refine lv_iconst (v := 0) hx hb (qaa qaT 7 rfl) (by decide) ?_
      exact ((W.iret (v := 0) hx hb hr (fun t ht hW => ⟨⟨0, (), rfl, hw, by rw [ht]; exact hP, va_K.moved hW.alike hK, hD⟩, hS.F ht⟩) hS.2.2 (qaa qaT 8 rfl)))
    · have hw := hw.2 c2
      refine lv_iconst (v := 1) hx hb (qaa qaT 5 rfl) (by decide) ?_
      refine lv_goto (tgt := 15) hx hb (qaa qaT 6 rfl) (by decide) ?_
      exact ((W.iret (v := 1) hx hb hr (fun t ht hW => ⟨⟨1, (), rfl, hw, by rw [ht]; exact hP, va_K.moved hW.alike hK, hD⟩, hS.F ht⟩) hS.2.2 (qaa qaT 8 rfl)))
theorem qVE : (.initialized "java/lang/Math" : Cond) ∈ wsX10_ordersWon := qkU 651 (by decide +kernel)
theorem qVB : (.methodLink RX10 389 Lib.Math.max.name : Cond) ∈ wsX10_ordersWon := qkU 3404 (by decide +kernel)
theorem qSY : (.code Lib.Math.max.name Lib.Math.max.code 2 (some .int) : Cond) ∈ wsX10_ordersWon := qkU 1931 (by decide +kernel)
theorem qSZ : (.static Lib.Math.max.name : Cond) ∈ wsX10_ordersWon := qkU 1930 (by decide +kernel)
set_option maxHeartbeats 4000000 in
set_option maxRecDepth 100000 in
theorem qJb (RS : NI → Int32 → Int32 → Int32 → Int32 → (Int32 → Prop) → Prop) (fr lo : Nat) (hRw : ∀ (l : Launch) (dC : Nat → ClassId) (dI : Nat → Nat → Nat) (cyB cyI cyJ cyP : ClassId) (a0 jch sz : Nat) (jcD ji6 jhx : Value) (jdE : NI) (p1 p2 p3 p4 : Int32) {Q : Int32 → Prop} (hw : RS jdE p1 p2 p3 p4 Q), Met l yX10_ordersWon wsX10_ordersWon ({ frames := fr, cells := 0, slots := 0, locals := lo }) (va_Pc [.ref a0, .int p1, .int p2, .int p3, .int p4] (cPc (dC, dI) (kT cyB cyI cyJ cyP) (qaH a0 jch jcD ji6 jhx jch cyI jdE) sz)) (va_Qi (fun (r : Int32) (_ : Unit) => Q r ) (cB (dC, dI) (kT cyB cyI cyJ cyP) (va_A (qaH a0 jch jcD ji6 jhx jch cyI jdE) sz) (fun u : Unit => ((qaH a0 jch jcD ji6 jhx jch cyI jdE) : va_W))) (va_A (qaH a0 jch jcD ji6 jhx jch cyI jdE) sz)) 0 0 (va_A (qaH a0 jch jcD ji6 jhx jch cyI jdE) sz)) {p : Program} {l : Launch} {e : Env} {s : State} {m : MethodId} {args : Array Value} {below : List Frame} {meth : Method} {c : Code} {A : Nat → Prop} (dC : Nat → ClassId) (dI : Nat → Nat → Nat) (cyB cyI cyJ cyP : ClassId) (a0 jch : Nat) (jcD ji6 jhx : Value) (jdE : NI) (Q : Int32 → Prop) (K22 : Int32 → Int32 → Int32 → Int32 → Int32 → Int32 → Prop) (hK22 : ∀ (H : Heap) (locs : List Loc) (ls : Array Slot) (l1 l2 l3 l4 l5 l6 : Int32), va_P (dC, dI) vwCl (qaH a0 jch jcD ji6 jhx jch cyI jdE) H → va_D A (qaH a0 jch jcD ji6 jhx jch cyI jdE) → va_S A s.heap H locs → lv_has ls 11 [(0, .ref a0), (1, .int l1), (2, .int l2), (3, .int l3), (4, .int l4), (5, .int l5), (6, .int l6)] → K22 l1 l2 l3 l4 l5 l6 → W p l e (headSpec wsX10_ordersWon ({ frames := fr + 1, cells := 0, slots := 0, locals := lo + 30 })).room s m args below meth c H locs 0 0 (MQ below (va_Qi (fun (r : Int32) (_ : Unit) => Q r ) (cB (dC, dI) (kT cyB cyI cyJ cyP) A (fun u : Unit => ((qaH a0 jch jcD ji6 jhx jch cyI jdE) : va_W))) A) args s 0 0 A) (F0 m 22 ls [])) (C0 : cfx p s m args meth c cX10_ordersWon (some .int) wsX10_ordersWon RX10 11 A (dC, dI) (kT cyB cyI cyJ cyP)) : ∀ (H : Heap) (locs : List Loc) (ls : Array Slot) (l1 l2 l3 l4 l5 l6 : Int32), va_P (dC, dI) vwCl (qaH a0 jch jcD ji6 jhx jch cyI jdE) H → va_D A (qaH a0 jch jcD ji6 jhx jch cyI jdE) → va_S A s.heap H locs → lv_has ls 11 [(0, .ref a0), (1, .int l1), (2, .int l2), (3, .int l3), (4, .int l4), (5, .int l5), (6, .int l6)] → qAN RS jdE Q K22 l1 l2 l3 l4 l5 l6 → W p l e (headSpec wsX10_ordersWon ({ frames := fr + 1, cells := 0, slots := 0, locals := lo + 30 })).room s m args below meth c H locs 0 0 (MQ below (va_Qi (fun (r : Int32) (_ : Unit) => Q r ) (cB (dC, dI) (kT cyB cyI cyJ cyP) A (fun u : Unit => ((qaH a0 jch jcD ji6 jhx jch cyI jdE) : va_W))) A) args s 0 0 A) (F0 m 113 ls []) := by
  obtain ⟨hx, hb, hr, hts, hown, hlocks, hml, hA, hK, hNw⟩ := id C0
  intro H locs ls l1 l2 l3 l4 l5 l6 hP hD hS hl hw
  obtain ⟨x8, ex8⟩ : ∃ y : Int32, y = l6 + 1 := ⟨_, rfl⟩
  have hw := hw x8 ex8
  refine lv_iinc (v := x8) (lv' := [(6, .int x8), (0, .ref a0), (1, .int l1), (2, .int l2), (3, .int l3), (4, .int l4), (5, .int l5)]) hx hb (qaa qa6 12 rfl) hl (k := 6) rfl (by rw [ex8]; rfl) (by decide) rfl (fun ls hl => ?_)
  refine lv_goto (tgt := 22) hx hb (qaa qa6 13 rfl) (by decide) ?_
  exact hK22 _ _ _ l1 l2 l3 l4 l5 x8 hP hD hS (lv_sub hl [1, 2, 3, 4, 5, 6, 0] rfl) hw
set_option maxHeartbeats 4000000 in
set_option maxRecDepth 100000 in
theorem qLM (RS : NI → Int32 → Int32 → Int32 → Int32 → (Int32 → Prop) → Prop) (fr lo : Nat) (hRw : ∀ (l : Launch) (dC : Nat → ClassId) (dI : Nat → Nat → Nat) (cyB cyI cyJ cyP : ClassId) (a0 jch sz : Nat) (jcD ji6 jhx : Value) (jdE : NI) (p1 p2 p3 p4 : Int32) {Q : Int32 → Prop} (hw : RS jdE p1 p2 p3 p4 Q), Met l yX10_ordersWon wsX10_ordersWon ({ frames := fr, cells := 0, slots := 0, locals := lo }) (va_Pc [.ref a0, .int p1, .int p2, .int p3, .int p4] (cPc (dC, dI) (kT cyB cyI cyJ cyP) (qaH a0 jch jcD ji6 jhx jch cyI jdE) sz)) (va_Qi (fun (r : Int32) (_ : Unit) => Q r ) (cB (dC, dI) (kT cyB cyI cyJ cyP) (va_A (qaH a0 jch jcD ji6 jhx jch cyI jdE) sz) (fun u : Unit => ((qaH a0 jch jcD ji6 jhx jch cyI jdE) : va_W))) (va_A (qaH a0 jch jcD ji6 jhx jch cyI jdE) sz)) 0 0 (va_A (qaH a0 jch jcD ji6 jhx jch cyI jdE) sz)) {p : Program} {l : Launch} {e : Env} {s : State} {m : MethodId} {args : Array Value} {below : List Frame} {meth : Method} {c : Code} {A : Nat → Prop} (dC : Nat → ClassId) (dI : Nat → Nat → Nat) (cyB cyI cyJ cyP : ClassId) (a0 jch : Nat) (jcD ji6 jhx : Value) (jdE : NI) (Q : Int32 → Prop) (K22 : Int32 → Int32 → Int32 → Int32 → Int32 → Int32 → Prop) (hK22 : ∀ (H : Heap) (locs : List Loc) (ls : Array Slot) (l1 l2 l3 l4 l5 l6 : Int32), va_P (dC, dI) vwCl (qaH a0 jch jcD ji6 jhx jch cyI jdE) H → va_D A (qaH a0 jch jcD ji6 jhx jch cyI jdE) → va_S A s.heap H locs → lv_has ls 11 [(0, .ref a0), (1, .int l1), (2, .int l2), (3, .int l3), (4, .int l4), (5, .int l5), (6, .int l6)] → K22 l1 l2 l3 l4 l5 l6 → W p l e (headSpec wsX10_ordersWon ({ frames := fr + 1, cells := 0, slots := 0, locals := lo + 30 })).room s m args below meth c H locs 0 0 (MQ below (va_Qi (fun (r : Int32) (_ : Unit) => Q r ) (cB (dC, dI) (kT cyB cyI cyJ cyP) A (fun u : Unit => ((qaH a0 jch jcD ji6 jhx jch cyI jdE) : va_W))) A) args s 0 0 A) (F0 m 22 ls [])) (C0 : cfx p s m args meth c cX10_ordersWon (some .int) wsX10_ordersWon RX10 11 A (dC, dI) (kT cyB cyI cyJ cyP)) : ∀ (H : Heap) (locs : List Loc) (ls : Array Slot) (l1 l2 l3 l4 l5 l6 l9 s0 s1 : Int32), va_P (dC, dI) vwCl (qaH a0 jch jcD ji6 jhx jch cyI jdE) H → va_D A (qaH a0 jch jcD ji6 jhx jch cyI jdE) → va_S A s.heap H locs → lv_has ls 11 [(0, .ref a0), (1, .int l1), (2, .int l2), (3, .int l3), (4, .int l4), (5, .int l5), (6, .int l6), (9, .int l9)] → qCr RS jdE Q K22 l1 l2 l3 l4 l5 l6 l9 s0 s1 → W p l e (headSpec wsX10_ordersWon ({ frames := fr + 1, cells := 0, slots := 0, locals := lo + 30 })).room s m args below meth c H locs 0 0 (MQ below (va_Qi (fun (r : Int32) (_ : Unit) => Q r ) (cB (dC, dI) (kT cyB cyI cyJ cyP) A (fun u : Unit => ((qaH a0 jch jcD ji6 jhx jch cyI jdE) : va_W))) A) args s 0 0 A) (F0 m 85 ls [.int s1, .int s0]) := by
  obtain ⟨hx, hb, hr, hts, hown, hlocks, hml, hA, hK, hNw⟩ := id C0
  intro H locs ls l1 l2 l3 l4 l5 l6 l9 s0 s1 hP hD hS hl hw
  refine lv_iconst (v := 1) hx hb (qaa qaK 11 rfl) (by decide) ?_
  refine lv_isub hx hb (qaa qaK 12 rfl) ?_
  refine va_mmax hx hb (by rw [hml]; exact hl.1.symm) hown (hts _ qVB) (hts _ qSZ) (hts _ qVE) (hts _ qSY) ((by first | exact nbq rfl | (simp only [headSpec]; omega) | omega)) ((by first | exact nbq rfl | (simp only [headSpec]; omega) | omega)) ((by first | exact nbq rfl | (simp only [headSpec]; omega) | omega)) ((by first | exact nbq rfl | (simp only [headSpec]; omega) | omega)) (qaa qaK 13 rfl) ?_
  refine lv_topi (fun x11 ex11 => ?_)
  have hw := hw x11 ex11
  refine lv_istore (lv' := [(10, .int x11), (0, .ref a0), (1, .int l1), (2, .int l2), (3, .int l3), (4, .int l4), (5, .int l5), (6, .int l6), (9, .int l9)]) hx hb (qaa qaK 14 rfl) hl (by decide) rfl (fun ls hl => ?_)
  refine lv_iload hx hb (qaa qaK 15 rfl) (lv_at hl 6 rfl) ?_
  refine lv_aload_n hx hb (qaa qa6 0 rfl) rfl (lv_at hl 1 rfl) ?_
  refine lv_iload_n hx hb (qaa qa6 1 rfl) rfl (lv_at hl 2 rfl) ?_
  refine lv_iload hx hb (qaa qa6 2 rfl) (lv_at hl 8 rfl) ?_
  refine lv_iload hx hb (qaa qa6 3 rfl) (lv_at hl 0 rfl) ?_
  refine lv_iload hx hb (qaa qa6 4 rfl) (lv_at hl 5 rfl) ?_
  refine lv_iconst (v := 1) hx hb (qaa qa6 5 rfl) (by decide) ?_
  refine lv_iload hx hb (qaa qa6 6 rfl) (lv_at hl 7 rfl) ?_
  refine lv_ishl hx hb (qaa qa6 7 rfl) ?_
  refine lv_ixor hx hb (qaa qa6 8 rfl) ?_
  obtain ⟨hCc, hPc, hDc, hFc⟩ := qac (ws' := (qaH a0 jch jcD ji6 jhx jch cyI jdE)) hP hD hS hA [0, 1] (by decide +kernel) rfl
  refine va_calli (va_runS (As := [.ref a0, .int l1, .int l9, .int x11, .int (l4 ^^^ (1 <<< (l6 &&& 31)))]) (rest := [.int l5]) ⟨hx, hb, hml, hown, hts⟩ (hRw l dC dI cyB cyI cyJ cyP a0 jch H.size (jcD) (ji6) (jhx) jdE l1 l9 x11 (l4 ^^^ (1 <<< (l6 &&& 31))) hw) (va_cwS 5 hts gX10_ordersWon_X10_ordersWon rfl rfl rfl (by decide +kernel) ⟨(by first | exact nbq rfl | (simp only [headSpec]; omega) | omega), (by first | exact nbq rfl | (simp only [headSpec]; omega) | omega)⟩) ⟨qab, qae hPc hK hDc hNw⟩ rfl rfl hl.1 rfl (lv_room (nbq rfl)) (qaa qa6 9 rfl) ⟨(by first | exact nbq rfl | (simp only [headSpec]; omega) | omega), (by first | exact nbq rfl | (simp only [headSpec]; omega) | omega)⟩) hS (fun q _ h => hFc q h) hFc (fun r12 u t H1 locs ht hvm hw hB hz1 hk1 hS => ?_)
  obtain ⟨hP1, hK1, hD1⟩ := hB
  rw [ht] at hP1
  obtain ⟨hP, hD⟩ := qah (wr := []) (w1 := (qaH a0 jch jcD ji6 jhx jch cyI jdE)) (wn := (qaH a0 jch jcD ji6 jhx jch cyI jdE)) hP hD [0, 1] [] hCc rfl (by decide +kernel) (by decide +kernel) rfl hk1 hFc hP1 hD1
  generalize H1 = H at hP hS ⊢
  refine lv_iadd hx hb (qaa qa6 10 rfl) ?_
  refine lv_topi (fun x13 ex13 => ?_)
  have hw := hw x13 ex13
  refine lv_istore (lv' := [(5, .int x13), (10, .int x11), (0, .ref a0), (1, .int l1), (2, .int l2), (3, .int l3), (4, .int l4), (6, .int l6), (9, .int l9)]) hx hb (qaa qa6 11 rfl) hl (by decide) rfl (fun ls hl => ?_)
  exact qJb RS fr lo hRw dC dI cyB cyI cyJ cyP a0 jch jcD ji6 jhx jdE Q K22 hK22 C0 _ _ _ l1 l2 l3 l4 x13 l6 hP hD hS (lv_sub hl [2, 3, 4, 5, 6, 0, 7] rfl) hw
set_option maxHeartbeats 4000000 in
set_option maxRecDepth 100000 in
theorem qLn (RS : NI → Int32 → Int32 → Int32 → Int32 → (Int32 → Prop) → Prop) (fr lo : Nat) (hRw : ∀ (l : Launch) (dC : Nat → ClassId) (dI : Nat → Nat → Nat) (cyB cyI cyJ cyP : ClassId) (a0 jch sz : Nat) (jcD ji6 jhx : Value) (jdE : NI) (p1 p2 p3 p4 : Int32) {Q : Int32 → Prop} (hw : RS jdE p1 p2 p3 p4 Q), Met l yX10_ordersWon wsX10_ordersWon ({ frames := fr, cells := 0, slots := 0, locals := lo }) (va_Pc [.ref a0, .int p1, .int p2, .int p3, .int p4] (cPc (dC, dI) (kT cyB cyI cyJ cyP) (qaH a0 jch jcD ji6 jhx jch cyI jdE) sz)) (va_Qi (fun (r : Int32) (_ : Unit) => Q r ) (cB (dC, dI) (kT cyB cyI cyJ cyP) (va_A (qaH a0 jch jcD ji6 jhx jch cyI jdE) sz) (fun u : Unit => ((qaH a0 jch jcD ji6 jhx jch cyI jdE) : va_W))) (va_A (qaH a0 jch jcD ji6 jhx jch cyI jdE) sz)) 0 0 (va_A (qaH a0 jch jcD ji6 jhx jch cyI jdE) sz)) {p : Program} {l : Launch} {e : Env} {s : State} {m : MethodId} {args : Array Value} {below : List Frame} {meth : Method} {c : Code} {A : Nat → Prop} (dC : Nat → ClassId) (dI : Nat → Nat → Nat) (cyB cyI cyJ cyP : ClassId) (a0 jch : Nat) (jcD ji6 jhx : Value) (jdE : NI) (Q : Int32 → Prop) (K22 : Int32 → Int32 → Int32 → Int32 → Int32 → Int32 → Prop) (hK22 : ∀ (H : Heap) (locs : List Loc) (ls : Array Slot) (l1 l2 l3 l4 l5 l6 : Int32), va_P (dC, dI) vwCl (qaH a0 jch jcD ji6 jhx jch cyI jdE) H → va_D A (qaH a0 jch jcD ji6 jhx jch cyI jdE) → va_S A s.heap H locs → lv_has ls 11 [(0, .ref a0), (1, .int l1), (2, .int l2), (3, .int l3), (4, .int l4), (5, .int l5), (6, .int l6)] → K22 l1 l2 l3 l4 l5 l6 → W p l e (headSpec wsX10_ordersWon ({ frames := fr + 1, cells := 0, slots := 0, locals := lo + 30 })).room s m args below meth c H locs 0 0 (MQ below (va_Qi (fun (r : Int32) (_ : Unit) => Q r ) (cB (dC, dI) (kT cyB cyI cyJ cyP) A (fun u : Unit => ((qaH a0 jch jcD ji6 jhx jch cyI jdE) : va_W))) A) args s 0 0 A) (F0 m 22 ls [])) (C0 : cfx p s m args meth c cX10_ordersWon (some .int) wsX10_ordersWon RX10 11 A (dC, dI) (kT cyB cyI cyJ cyP)) : ∀ (H : Heap) (locs : List Loc) (ls : Array Slot) (l1 l2 l3 l4 l5 l6 l7 l8 s0 : Int32), va_P (dC, dI) vwCl (qaH a0 jch jcD ji6 jhx jch cyI jdE) H → va_D A (qaH a0 jch jcD ji6 jhx jch cyI jdE) → va_S A s.heap H locs → lv_has ls 11 [(0, .ref a0), (1, .int l1), (2, .int l2), (3, .int l3), (4, .int l4), (5, .int l5), (6, .int l6), (7, .int l7), (8, .int l8)] → qBw RS jdE Q K22 l1 l2 l3 l4 l5 l6 l7 l8 s0 → W p l e (headSpec wsX10_ordersWon ({ frames := fr + 1, cells := 0, slots := 0, locals := lo + 30 })).room s m args below meth c H locs 0 0 (MQ below (va_Qi (fun (r : Int32) (_ : Unit) => Q r ) (cB (dC, dI) (kT cyB cyI cyJ cyP) A (fun u : Unit => ((qaH a0 jch jcD ji6 jhx jch cyI jdE) : va_W))) A) args s 0 0 A) (F0 m 71 ls [.int s0]) := by
  obtain ⟨hx, hb, hr, hts, hown, hlocks, hml, hA, hK, hNw⟩ := id C0
  intro H locs ls l1 l2 l3 l4 l5 l6 l7 l8 s0 hP hD hS hl hw
  refine lv_istore (lv' := [(9, .int s0), (0, .ref a0), (1, .int l1), (2, .int l2), (3, .int l3), (4, .int l4), (5, .int l5), (6, .int l6), (7, .int l7), (8, .int l8)]) hx hb (qaa qaK 4 rfl) hl (by decide) rfl (fun ls hl => ?_)
  refine lv_iconst (v := 0) hx hb (qaa qaK 5 rfl) (by decide) ?_
  refine lv_iload hx hb (qaa qaK 6 rfl) (lv_at hl 9 rfl) ?_
  refine lv_if_eq (tgt := 83) hx hb (qaa qaK 7 rfl) (by decide) (fun c10 => ?_) (fun c10 => ?_)
  · have hw := hw.1 c10
    refine lv_iload hx hb (qaa qaK 10 rfl) (lv_at hl 8 rfl) ?_
    exact qLM RS fr lo hRw dC dI cyB cyI cyJ cyP a0 jch jcD ji6 jhx jdE Q K22 hK22 C0 _ _ _ l1 l2 l3 l4 l5 l6 s0 0 l7 hP hD hS (lv_sub hl [1, 2, 3, 4, 5, 6, 7, 0] rfl) hw
  · have hw := hw.2 c10
    refine lv_iload_n hx hb (qaa qaK 8 rfl) rfl (lv_at hl 4 rfl) ?_
    refine lv_goto (tgt := 85) hx hb (qaa qaK 9 rfl) (by decide) ?_
    exact qLM RS fr lo hRw dC dI cyB cyI cyJ cyP a0 jch jcD ji6 jhx jdE Q K22 hK22 C0 _ _ _ l1 l2 l3 l4 l5 l6 s0 0 l3 hP hD hS (lv_sub hl [1, 2, 3, 4, 5, 6, 7, 0] rfl) hw
set_option maxHeartbeats 4000000 in
set_option maxRecDepth 100000 in
theorem qLq (RS : NI → Int32 → Int32 → Int32 → Int32 → (Int32 → Prop) → Prop) (fr lo : Nat) (hRw : ∀ (l : Launch) (dC : Nat → ClassId) (dI : Nat → Nat → Nat) (cyB cyI cyJ cyP : ClassId) (a0 jch sz : Nat) (jcD ji6 jhx : Value) (jdE : NI) (p1 p2 p3 p4 : Int32) {Q : Int32 → Prop} (hw : RS jdE p1 p2 p3 p4 Q), Met l yX10_ordersWon wsX10_ordersWon ({ frames := fr, cells := 0, slots := 0, locals := lo }) (va_Pc [.ref a0, .int p1, .int p2, .int p3, .int p4] (cPc (dC, dI) (kT cyB cyI cyJ cyP) (qaH a0 jch jcD ji6 jhx jch cyI jdE) sz)) (va_Qi (fun (r : Int32) (_ : Unit) => Q r ) (cB (dC, dI) (kT cyB cyI cyJ cyP) (va_A (qaH a0 jch jcD ji6 jhx jch cyI jdE) sz) (fun u : Unit => ((qaH a0 jch jcD ji6 jhx jch cyI jdE) : va_W))) (va_A (qaH a0 jch jcD ji6 jhx jch cyI jdE) sz)) 0 0 (va_A (qaH a0 jch jcD ji6 jhx jch cyI jdE) sz)) {p : Program} {l : Launch} {e : Env} {s : State} {m : MethodId} {args : Array Value} {below : List Frame} {meth : Method} {c : Code} {A : Nat → Prop} (dC : Nat → ClassId) (dI : Nat → Nat → Nat) (cyB cyI cyJ cyP : ClassId) (a0 jch : Nat) (jcD ji6 jhx : Value) (jdE : NI) (Q : Int32 → Prop) (K22 : Int32 → Int32 → Int32 → Int32 → Int32 → Int32 → Prop) (hK22 : ∀ (H : Heap) (locs : List Loc) (ls : Array Slot) (l1 l2 l3 l4 l5 l6 : Int32), va_P (dC, dI) vwCl (qaH a0 jch jcD ji6 jhx jch cyI jdE) H → va_D A (qaH a0 jch jcD ji6 jhx jch cyI jdE) → va_S A s.heap H locs → lv_has ls 11 [(0, .ref a0), (1, .int l1), (2, .int l2), (3, .int l3), (4, .int l4), (5, .int l5), (6, .int l6)] → K22 l1 l2 l3 l4 l5 l6 → W p l e (headSpec wsX10_ordersWon ({ frames := fr + 1, cells := 0, slots := 0, locals := lo + 30 })).room s m args below meth c H locs 0 0 (MQ below (va_Qi (fun (r : Int32) (_ : Unit) => Q r ) (cB (dC, dI) (kT cyB cyI cyJ cyP) A (fun u : Unit => ((qaH a0 jch jcD ji6 jhx jch cyI jdE) : va_W))) A) args s 0 0 A) (F0 m 22 ls [])) (C0 : cfx p s m args meth c cX10_ordersWon (some .int) wsX10_ordersWon RX10 11 A (dC, dI) (kT cyB cyI cyJ cyP)) : ∀ (H : Heap) (locs : List Loc) (ls : Array Slot) (l1 l2 l3 l4 l5 l6 l7 s0 : Int32), va_P (dC, dI) vwCl (qaH a0 jch jcD ji6 jhx jch cyI jdE) H → va_D A (qaH a0 jch jcD ji6 jhx jch cyI jdE) → va_S A s.heap H locs → lv_has ls 11 [(0, .ref a0), (1, .int l1), (2, .int l2), (3, .int l3), (4, .int l4), (5, .int l5), (6, .int l6), (7, .int l7)] → qBq RS jdE Q K22 l1 l2 l3 l4 l5 l6 l7 s0 → W p l e (headSpec wsX10_ordersWon ({ frames := fr + 1, cells := 0, slots := 0, locals := lo + 30 })).room s m args below meth c H locs 0 0 (MQ below (va_Qi (fun (r : Int32) (_ : Unit) => Q r ) (cB (dC, dI) (kT cyB cyI cyJ cyP) A (fun u : Unit => ((qaH a0 jch jcD ji6 jhx jch cyI jdE) : va_W))) A) args s 0 0 A) (F0 m 58 ls [.int s0]) := by
  obtain ⟨hx, hb, hr, hts, hown, hlocks, hml, hA, hK, hNw⟩ := id C0
  intro H locs ls l1 l2 l3 l4 l5 l6 l7 s0 hP hD hS hl hw
  refine lv_istore (lv' := [(8, .int s0), (0, .ref a0), (1, .int l1), (2, .int l2), (3, .int l3), (4, .int l4), (5, .int l5), (6, .int l6), (7, .int l7)]) hx hb (qaa qaR 14 rfl) hl (by decide) rfl (fun ls hl => ?_)
  refine lv_iload hx hb (qaa qaR 15 rfl) (lv_at hl 0 rfl) ?_
  refine lv_if_eq (tgt := 69) hx hb (qaa qaK 0 rfl) (by decide) (fun c9 => ?_) (fun c9 => ?_)
  · have hw := hw.1 c9
    refine lv_iload hx hb (qaa qaK 3 rfl) (lv_at hl 7 rfl) ?_
    exact qLn RS fr lo hRw dC dI cyB cyI cyJ cyP a0 jch jcD ji6 jhx jdE Q K22 hK22 C0 _ _ _ l1 l2 l3 l4 l5 l6 l7 s0 l6 hP hD hS (lv_sub hl [1, 2, 3, 4, 5, 6, 7, 8, 0] rfl) hw
  · have hw := hw.2 c9
    refine lv_iload_n hx hb (qaa qaK 1 rfl) rfl (lv_at hl 3 rfl) ?_
    refine lv_goto (tgt := 71) hx hb (qaa qaK 2 rfl) (by decide) ?_
    exact qLn RS fr lo hRw dC dI cyB cyI cyJ cyP a0 jch jcD ji6 jhx jdE Q K22 hK22 C0 _ _ _ l1 l2 l3 l4 l5 l6 l7 s0 l2 hP hD hS (lv_sub hl [1, 2, 3, 4, 5, 6, 7, 8, 0] rfl) hw
set_option maxHeartbeats 4000000 in
set_option maxRecDepth 100000 in
theorem q1B (RS : NI → Int32 → Int32 → Int32 → Int32 → (Int32 → Prop) → Prop) (fr lo : Nat) (hRw : ∀ (l : Launch) (dC : Nat → ClassId) (dI : Nat → Nat → Nat) (cyB cyI cyJ cyP : ClassId) (a0 jch sz : Nat) (jcD ji6 jhx : Value) (jdE : NI) (p1 p2 p3 p4 : Int32) {Q : Int32 → Prop} (hw : RS jdE p1 p2 p3 p4 Q), Met l yX10_ordersWon wsX10_ordersWon ({ frames := fr, cells := 0, slots := 0, locals := lo }) (va_Pc [.ref a0, .int p1, .int p2, .int p3, .int p4] (cPc (dC, dI) (kT cyB cyI cyJ cyP) (qaH a0 jch jcD ji6 jhx jch cyI jdE) sz)) (va_Qi (fun (r : Int32) (_ : Unit) => Q r ) (cB (dC, dI) (kT cyB cyI cyJ cyP) (va_A (qaH a0 jch jcD ji6 jhx jch cyI jdE) sz) (fun u : Unit => ((qaH a0 jch jcD ji6 jhx jch cyI jdE) : va_W))) (va_A (qaH a0 jch jcD ji6 jhx jch cyI jdE) sz)) 0 0 (va_A (qaH a0 jch jcD ji6 jhx jch cyI jdE) sz)) {p : Program} {l : Launch} {e : Env} {s : State} {m : MethodId} {args : Array Value} {below : List Frame} {meth : Method} {c : Code} {A : Nat → Prop} (dC : Nat → ClassId) (dI : Nat → Nat → Nat) (cyB cyI cyJ cyP : ClassId) (a0 jch : Nat) (jcD ji6 jhx : Value) (jdE : NI) (Q : Int32 → Prop) (C0 : cfx p s m args meth c cX10_ordersWon (some .int) wsX10_ordersWon RX10 11 A (dC, dI) (kT cyB cyI cyJ cyP)) : ∀ (n : Nat) (H : Heap) (locs : List Loc) (ls : Array Slot) (l1 l2 l3 l4 l5 l6 : Int32), va_P (dC, dI) vwCl (qaH a0 jch jcD ji6 jhx jch cyI jdE) H → va_D A (qaH a0 jch jcD ji6 jhx jch cyI jdE) → va_S A s.heap H locs → lv_has ls 11 [(0, .ref a0), (1, .int l1), (2, .int l2), (3, .int l3), (4, .int l4), (5, .int l5), (6, .int l6)] → qk2 RS jdE Q n l1 l2 l3 l4 l5 l6 → W p l e (headSpec wsX10_ordersWon ({ frames := fr + 1, cells := 0, slots := 0, locals := lo + 30 })).room s m args below meth c H locs 0 0 (MQ below (va_Qi (fun (r : Int32) (_ : Unit) => Q r ) (cB (dC, dI) (kT cyB cyI cyJ cyP) A (fun u : Unit => ((qaH a0 jch jcD ji6 jhx jch cyI jdE) : va_W))) A) args s 0 0 A) (F0 m 22 ls []) := by
  obtain ⟨hx, hb, hr, hts, hown, hlocks, hml, hA, hK, hNw⟩ := id C0
  intro n
  induction n with
  | zero => intro H locs ls l1 l2 l3 l4 l5 l6 hP hD hS hl hw; exact False.elim hw
  | succ n ih =>
    intro H locs ls l1 l2 l3 l4 l5 l6 hP hD hS hl hw
    refine lv_iload hx hb (qaa qaT 13 rfl) (lv_at hl 6 rfl) ?_
    refine lv_bipush (v := 6) hx hb (qaa qaT 14 rfl) (by decide) ?_
    refine lv_icmp_ge (tgt := 119) hx hb (qaa qaT 15 rfl) (by decide) (fun c3 => ?_) (fun c3 => ?_)
    · have hw := hw.1 c3
      refine lv_iload hx hb (qaa qa6 14 rfl) (lv_at hl 5 rfl) ?_
      exact ((W.iret (v := l5) hx hb hr (fun t ht hW => ⟨⟨l5, (), rfl, hw, by rw [ht]; exact hP, va_K.moved hW.alike hK, hD⟩, hS.F ht⟩) hS.2.2 (qaa qa6 15 rfl)))
    · have hw := hw.2 c3
      refine lv_iload hx hb (qaa qaR 0 rfl) (lv_at hl 4 rfl) ?_
      refine lv_iload hx hb (qaa qaR 1 rfl) (lv_at hl 6 rfl) ?_
      obtain ⟨hCc, hPc, hDc, hFc⟩ := qac (ws' := []) hP hD hS hA [] (by decide +kernel) rfl
      refine va_calli (va_runS (As := [.int l4, .int l6]) (rest := []) ⟨hx, hb, hml, hown, hts⟩ (qnt l dC dI cyB cyI cyJ cyP H.size l4 l6 hw) (va_cwS 2 hts gX10_ordersWon_X10_holds rfl rfl rfl (by decide +kernel) ⟨(by first | exact nbq rfl | (simp only [headSpec]; omega) | omega), (by first | exact nbq rfl | (simp only [headSpec]; omega) | omega)⟩) ⟨qab, qae hPc hK hDc hNw⟩ rfl rfl hl.1 rfl (lv_room (nbq rfl)) (qaa qaR 2 rfl) ⟨(by first | exact nbq rfl | (simp only [headSpec]; omega) | omega), (by first | exact nbq rfl | (simp only [headSpec]; omega) | omega)⟩) hS (fun q _ h => hFc q h) hFc (fun r4 u t H1 locs ht hvm hw hB hz1 hk1 hS => ?_)
      obtain ⟨hP1, hK1, hD1⟩ := hB
      rw [ht] at hP1
      obtain ⟨hP, hD⟩ := qah (wr := (qaH a0 jch jcD ji6 jhx jch cyI jdE)) (w1 := []) (wn := (qaH a0 jch jcD ji6 jhx jch cyI jdE)) hP hD [] [0, 1] hCc rfl (by decide +kernel) (by decide +kernel) rfl hk1 hFc hP1 hD1
      generalize H1 = H at hP hS ⊢
      refine lv_if_eq (tgt := 113) hx hb (qaa qaR 3 rfl) (by decide) (fun c5 => ?_) (fun c5 => ?_)
      · have hw := hw.1 c5
        exact qJb RS fr lo hRw dC dI cyB cyI cyJ cyP a0 jch jcD ji6 jhx jdE Q (qk2 RS jdE Q n) ih C0 _ _ _ l1 l2 l3 l4 l5 l6 hP hD hS (lv_sub hl [0, 1, 2, 3, 4, 5, 6] rfl) hw
      · have hw := hw.2 c5
        refine lv_aload_n hx hb (qaa qaR 4 rfl) rfl (lv_at hl 0 rfl) ?_
        refine lv_iload hx hb (qaa qaR 5 rfl) (lv_at hl 6 rfl) ?_
        obtain ⟨hCc, hPc, hDc, hFc⟩ := qac (ws' := (qaH a0 jch jcD ji6 jhx jch cyI jdE)) hP hD hS hA [0, 1] (by decide +kernel) rfl
        refine va_calli (va_runV (As := [.int l6]) (rest := []) ⟨hx, hb, hml, hown, hts⟩ (qsG l dC dI cyB cyI cyJ cyP a0 jch H.size (jcD) (ji6) (jhx) jdE l6 hw) (cwV 1 hts gX10_ordersWon_X1_strong rfl rfl rfl (by decide +kernel) ⟨(by first | exact nbq rfl | (simp only [headSpec]; omega) | omega), (by first | exact nbq rfl | (simp only [headSpec]; omega) | omega)⟩) ⟨qab, va_recv (q := (RX1, TX1, 4)) hK hPc (ci := 1) (q0 := 0) rfl rfl, qae hPc hK hDc hNw⟩ rfl rfl hl.1 rfl (lv_room (nbq rfl)) (qaa qaR 6 rfl) ⟨(by first | exact nbq rfl | (simp only [headSpec]; omega) | omega), (by first | exact nbq rfl | (simp only [headSpec]; omega) | omega)⟩) hS (fun q _ h => hFc q h) hFc (fun r6 u t H1 locs ht hvm hw hB hz1 hk1 hS => ?_)
        obtain ⟨hP1, hK1, hD1⟩ := hB
        rw [ht] at hP1
        obtain ⟨hP, hD⟩ := qah (wr := []) (w1 := (qaH a0 jch jcD ji6 jhx jch cyI jdE)) (wn := (qaH a0 jch jcD ji6 jhx jch cyI jdE)) hP hD [0, 1] [] hCc rfl (by decide +kernel) (by decide +kernel) rfl hk1 hFc hP1 hD1
        generalize H1 = H at hP hS ⊢
        refine lv_istore (lv' := [(7, .int r6), (0, .ref a0), (1, .int l1), (2, .int l2), (3, .int l3), (4, .int l4), (5, .int l5), (6, .int l6)]) hx hb (qaa qaR 7 rfl) hl (by decide) rfl (fun ls hl => ?_)
        refine lv_iload_n hx hb (qaa qaR 8 rfl) rfl (lv_at hl 4 rfl) ?_
        refine lv_iload hx hb (qaa qaR 9 rfl) (lv_at hl 0 rfl) ?_
        refine lv_icmp_lt (tgt := 57) hx hb (qaa qaR 10 rfl) (by decide) (fun c7 => ?_) (fun c7 => ?_)
        · have hw := hw.1 c7
          refine lv_iconst (v := 0) hx hb (qaa qaR 13 rfl) (by decide) ?_
          exact qLq RS fr lo hRw dC dI cyB cyI cyJ cyP a0 jch jcD ji6 jhx jdE Q (qk2 RS jdE Q n) ih C0 _ _ _ l1 l2 l3 l4 l5 l6 r6 0 hP hD hS (lv_sub hl [1, 2, 3, 4, 5, 6, 7, 0] rfl) hw
        · have hw := hw.2 c7
          refine lv_iconst (v := 1) hx hb (qaa qaR 11 rfl) (by decide) ?_
          refine lv_goto (tgt := 58) hx hb (qaa qaR 12 rfl) (by decide) ?_
          exact qLq RS fr lo hRw dC dI cyB cyI cyJ cyP a0 jch jcD ji6 jhx jdE Q (qk2 RS jdE Q n) ih C0 _ _ _ l1 l2 l3 l4 l5 l6 r6 1 hP hD hS (lv_sub hl [1, 2, 3, 4, 5, 6, 7, 0] rfl) hw
set_option maxHeartbeats 4000000 in
set_option maxRecDepth 100000 in
theorem qw7 (RS : NI → Int32 → Int32 → Int32 → Int32 → (Int32 → Prop) → Prop) (fr lo : Nat) (hRw : ∀ (l : Launch) (dC : Nat → ClassId) (dI : Nat → Nat → Nat) (cyB cyI cyJ cyP : ClassId) (a0 jch sz : Nat) (jcD ji6 jhx : Value) (jdE : NI) (p1 p2 p3 p4 : Int32) {Q : Int32 → Prop} (hw : RS jdE p1 p2 p3 p4 Q), Met l yX10_ordersWon wsX10_ordersWon ({ frames := fr, cells := 0, slots := 0, locals := lo }) (va_Pc [.ref a0, .int p1, .int p2, .int p3, .int p4] (cPc (dC, dI) (kT cyB cyI cyJ cyP) (qaH a0 jch jcD ji6 jhx jch cyI jdE) sz)) (va_Qi (fun (r : Int32) (_ : Unit) => Q r ) (cB (dC, dI) (kT cyB cyI cyJ cyP) (va_A (qaH a0 jch jcD ji6 jhx jch cyI jdE) sz) (fun u : Unit => ((qaH a0 jch jcD ji6 jhx jch cyI jdE) : va_W))) (va_A (qaH a0 jch jcD ji6 jhx jch cyI jdE) sz)) 0 0 (va_A (qaH a0 jch jcD ji6 jhx jch cyI jdE) sz)) (l : Launch) (dC : Nat → ClassId) (dI : Nat → Nat → Nat) (cyB cyI cyJ cyP : ClassId) (a0 jch sz : Nat) (jcD ji6 jhx : Value) (jdE : NI) (p1 p2 p3 p4 : Int32) {Q : Int32 → Prop} (hw : qrS RS jdE p1 p2 p3 p4 Q) : Met l yX10_ordersWon wsX10_ordersWon ({ frames := fr + 1, cells := 0, slots := 0, locals := lo + 30 }) (va_Pc [.ref a0, .int p1, .int p2, .int p3, .int p4] (cPc (dC, dI) (kT cyB cyI cyJ cyP) (qaH a0 jch jcD ji6 jhx jch cyI jdE) sz)) (va_Qi (fun (r : Int32) (_ : Unit) => Q r ) (cB (dC, dI) (kT cyB cyI cyJ cyP) (va_A (qaH a0 jch jcD ji6 jhx jch cyI jdE) sz) (fun u : Unit => ((qaH a0 jch jcD ji6 jhx jch cyI jdE) : va_W))) (va_A (qaH a0 jch jcD ji6 jhx jch cyI jdE) sz)) 0 0 (va_A (qaH a0 jch jcD ji6 jhx jch cyI jdE) sz) := by
  refine Met.ofW (cc := cX10_ordersWon) (maxL := 11) (ret := (some .int)) (by decide) rfl ?_
  intro p e s m args below meth c s₁ B hml hv
  obtain ⟨rfl, hsz, hP, hK, hD0, hNw⟩ := hv
  have hx := B.exec
  have hb := B.bytes
  have hr := B.returns
  have hts := atoms_spec (ws := wsX10_ordersWon) B.pre
  have hown : s.vm.findClass RX10 = some m.cls := findClass_of_methodNamed B.named
  have hlocks := B.notSynchronized
  subst hsz
  have hD := hD0.self (sz := s.heap.size)
  generalize hAe : va_A (qaH a0 jch jcD ji6 jhx jch cyI jdE) s.heap.size = A at hD ⊢
  have hA : ∀ q : Nat, s.heap.size ≤ q → A q := fun q h => by rw [← hAe]; exact Or.inr h
  have hS : va_S A s.heap s.heap [] := va_S.rf
  have hP : va_P (dC, dI) vwCl (qaH a0 jch jcD ji6 jhx jch cyI jdE) s.heap := hP
  have hl := lv_entry ([.ref a0, .int p1, .int p2, .int p3, .int p4]) (n := 11) ((by first | exact nbq rfl | (simp only [headSpec]; omega) | omega))
  rw [lg_entry_eq]
  generalize (lg_sl ([.ref a0, .int p1, .int p2, .int p3, .int p4]) ++ List.replicate (11 - (lg_sl ([.ref a0, .int p1, .int p2, .int p3, .int p4])).length) Slot.unset).toArray = ls at hl ⊢
  have hl : lv_has ls 11 [(0, .ref a0), (1, .int p1), (2, .int p2), (3, .int p3), (4, .int p4)] := hl
  have C0 : cfx p s m _ meth c cX10_ordersWon (some .int) wsX10_ordersWon RX10 11 A (dC, dI) (kT cyB cyI cyJ cyP) := ⟨hx, hb, hr, hts, hown, hlocks, hml, hA, hK, hNw⟩
  clear hAe
  obtain ⟨H, hH⟩ : ∃ H, H = s.heap := ⟨_, rfl⟩
  rw [← hH] at hP ⊢
  have hS : va_S A s.heap H [] := by rw [hH]; exact va_S.rf
  have hS := hS
  refine lv_iload hx hb (qaa qaT 0 rfl) (lv_at hl 4 rfl) ?_
  refine lv_if_ne (tgt := 16) hx hb (qaa qaT 1 rfl) (by decide) (fun c1 => ?_) (fun c1 => ?_)
  · have hw := hw.1 c1
    refine lv_iconst (v := 0) hx hb (qaa qaT 9 rfl) (by decide) ?_
    refine lv_istore (lv' := [(5, .int 0), (0, .ref a0), (1, .int p1), (2, .int p2), (3, .int p3), (4, .int p4)]) hx hb (qaa qaT 10 rfl) hl (by decide) rfl (fun ls hl => ?_)
    refine lv_iconst (v := 0) hx hb (qaa qaT 11 rfl) (by decide) ?_
    refine lv_istore (lv' := [(6, .int 0), (5, .int 0), (0, .ref a0), (1, .int p1), (2, .int p2), (3, .int p3), (4, .int p4)]) hx hb (qaa qaT 12 rfl) hl (by decide) rfl (fun ls hl => ?_)
    obtain ⟨n9, hw⟩ := hw
    exact q1B RS fr lo hRw dC dI cyB cyI cyJ cyP a0 jch jcD ji6 jhx jdE Q C0 n9 _ _ _ p1 p2 p3 p4 0 0 hP hD hS (lv_sub hl [2, 3, 4, 5, 6, 1, 0] rfl) hw
  · have hw := hw.2 c1
    refine lv_iload_n hx hb (qaa qaT 2 rfl) rfl (lv_at hl 2 rfl) ?_
    refine lv_iload_n hx hb (qaa qaT 3 rfl) rfl (lv_at hl 1 rfl) ?_
    refine lv_icmp_ne (tgt := 14) hx hb (qaa qaT 4 rfl) (by decide) (fun c2 => ?_) (fun c2 => ?_)
    · have hw := hw.1 c2
      refine lv_iconst (v := 0) hx hb (qaa qaT 7 rfl) (by decide) ?_
      exact ((W.iret (v := 0) hx hb hr (fun t ht hW => ⟨⟨0, (), rfl, hw, by rw [ht]; exact hP, va_K.moved hW.alike hK, hD⟩, hS.F ht⟩) hS.2.2 (qaa qaT 8 rfl)))
    · have hw := hw.2 c2
      refine lv_iconst (v := 1) hx hb (qaa qaT 5 rfl) (by decide) ?_
      refine lv_goto (tgt := 15) hx hb (qaa qaT 6 rfl) (by decide) ?_
      exact ((W.iret (v := 1) hx hb hr (fun t ht hW => ⟨⟨1, (), rfl, hw, by rw [ht]; exact hP, va_K.moved hW.alike hK, hD⟩, hS.F ht⟩) hS.2.2 (qaa qaT 8 rfl)))
theorem q8w (l : Launch) (dC : Nat → ClassId) (dI : Nat → Nat → Nat) (cyB cyI cyJ cyP : ClassId) (a0 jch sz : Nat) (jcD ji6 jhx : Value) (jdE : NI) (p1 p2 p3 p4 : Int32) {Q : Int32 → Prop} (hw : qzY jdE p1 p2 p3 p4 Q) : Met l yX10_ordersWon wsX10_ordersWon ({ frames := 2, cells := 0, slots := 0, locals := 62 }) (va_Pc [.ref a0, .int p1, .int p2, .int p3, .int p4] (cPc (dC, dI) (kT cyB cyI cyJ cyP) (qaH a0 jch jcD ji6 jhx jch cyI jdE) sz)) (va_Qi (fun (r : Int32) (_ : Unit) => Q r ) (cB (dC, dI) (kT cyB cyI cyJ cyP) (va_A (qaH a0 jch jcD ji6 jhx jch cyI jdE) sz) (fun u : Unit => ((qaH a0 jch jcD ji6 jhx jch cyI jdE) : va_W))) (va_A (qaH a0 jch jcD ji6 jhx jch cyI jdE) sz)) 0 0 (va_A (qaH a0 jch jcD ji6 jhx jch cyI jdE) sz) :=
  qw7 qzz 1 32 qabl l dC dI cyB cyI cyJ cyP a0 jch sz jcD ji6 jhx jdE p1 p2 p3 p4 hw
theorem qabB (l : Launch) (dC : Nat → ClassId) (dI : Nat → Nat → Nat) (cyB cyI cyJ cyP : ClassId) (a0 jch sz : Nat) (jcD ji6 jhx : Value) (jdE : NI) (p1 p2 p3 p4 : Int32) {Q : Int32 → Prop} (hw : qzS jdE p1 p2 p3 p4 Q) : Met l yX10_ordersWon wsX10_ordersWon ({ frames := 3, cells := 0, slots := 0, locals := 92 }) (va_Pc [.ref a0, .int p1, .int p2, .int p3, .int p4] (cPc (dC, dI) (kT cyB cyI cyJ cyP) (qaH a0 jch jcD ji6 jhx jch cyI jdE) sz)) (va_Qi (fun (r : Int32) (_ : Unit) => Q r ) (cB (dC, dI) (kT cyB cyI cyJ cyP) (va_A (qaH a0 jch jcD ji6 jhx jch cyI jdE) sz) (fun u : Unit => ((qaH a0 jch jcD ji6 jhx jch cyI jdE) : va_W))) (va_A (qaH a0 jch jcD ji6 jhx jch cyI jdE) sz)) 0 0 (va_A (qaH a0 jch jcD ji6 jhx jch cyI jdE) sz) :=
  qw7 qzY 2 62 q8w l dC dI cyB cyI cyJ cyP a0 jch sz jcD ji6 jhx jdE p1 p2 p3 p4 hw
theorem qach (l : Launch) (dC : Nat → ClassId) (dI : Nat → Nat → Nat) (cyB cyI cyJ cyP : ClassId) (a0 jch sz : Nat) (jcD ji6 jhx : Value) (jdE : NI) (p1 p2 p3 p4 : Int32) {Q : Int32 → Prop} (hw : qzu jdE p1 p2 p3 p4 Q) : Met l yX10_ordersWon wsX10_ordersWon ({ frames := 4, cells := 0, slots := 0, locals := 122 }) (va_Pc [.ref a0, .int p1, .int p2, .int p3, .int p4] (cPc (dC, dI) (kT cyB cyI cyJ cyP) (qaH a0 jch jcD ji6 jhx jch cyI jdE) sz)) (va_Qi (fun (r : Int32) (_ : Unit) => Q r ) (cB (dC, dI) (kT cyB cyI cyJ cyP) (va_A (qaH a0 jch jcD ji6 jhx jch cyI jdE) sz) (fun u : Unit => ((qaH a0 jch jcD ji6 jhx jch cyI jdE) : va_W))) (va_A (qaH a0 jch jcD ji6 jhx jch cyI jdE) sz)) 0 0 (va_A (qaH a0 jch jcD ji6 jhx jch cyI jdE) sz) :=
  qw7 qzS 3 92 qabB l dC dI cyB cyI cyJ cyP a0 jch sz jcD ji6 jhx jdE p1 p2 p3 p4 hw
theorem qaay (l : Launch) (dC : Nat → ClassId) (dI : Nat → Nat → Nat) (cyB cyI cyJ cyP : ClassId) (a0 jch sz : Nat) (jcD ji6 jhx : Value) (jdE : NI) (p1 p2 p3 p4 : Int32) {Q : Int32 → Prop} (hw : qza jdE p1 p2 p3 p4 Q) : Met l yX10_ordersWon wsX10_ordersWon ({ frames := 5, cells := 0, slots := 0, locals := 152 }) (va_Pc [.ref a0, .int p1, .int p2, .int p3, .int p4] (cPc (dC, dI) (kT cyB cyI cyJ cyP) (qaH a0 jch jcD ji6 jhx jch cyI jdE) sz)) (va_Qi (fun (r : Int32) (_ : Unit) => Q r ) (cB (dC, dI) (kT cyB cyI cyJ cyP) (va_A (qaH a0 jch jcD ji6 jhx jch cyI jdE) sz) (fun u : Unit => ((qaH a0 jch jcD ji6 jhx jch cyI jdE) : va_W))) (va_A (qaH a0 jch jcD ji6 jhx jch cyI jdE) sz)) 0 0 (va_A (qaH a0 jch jcD ji6 jhx jch cyI jdE) sz) :=
  qw7 qzu 4 122 qach l dC dI cyB cyI cyJ cyP a0 jch sz jcD ji6 jhx jdE p1 p2 p3 p4 hw
theorem q9p (l : Launch) (dC : Nat → ClassId) (dI : Nat → Nat → Nat) (cyB cyI cyJ cyP : ClassId) (a0 jch sz : Nat) (jcD ji6 jhx : Value) (jdE : NI) (p1 p2 p3 p4 : Int32) {Q : Int32 → Prop} (hw : qFg jdE p1 p2 p3 p4 Q) : Met l yX10_ordersWon wsX10_ordersWon ({ frames := 6, cells := 0, slots := 0, locals := 182 }) (va_Pc [.ref a0, .int p1, .int p2, .int p3, .int p4] (cPc (dC, dI) (kT cyB cyI cyJ cyP) (qaH a0 jch jcD ji6 jhx jch cyI jdE) sz)) (va_Qi (fun (r : Int32) (_ : Unit) => Q r ) (cB (dC, dI) (kT cyB cyI cyJ cyP) (va_A (qaH a0 jch jcD ji6 jhx jch cyI jdE) sz) (fun u : Unit => ((qaH a0 jch jcD ji6 jhx jch cyI jdE) : va_W))) (va_A (qaH a0 jch jcD ji6 jhx jch cyI jdE) sz)) 0 0 (va_A (qaH a0 jch jcD ji6 jhx jch cyI jdE) sz) :=
  qw7 qza 5 152 qaay l dC dI cyB cyI cyJ cyP a0 jch sz jcD ji6 jhx jdE p1 p2 p3 p4 hw

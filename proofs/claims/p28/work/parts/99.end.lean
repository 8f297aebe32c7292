theorem dp_zz : True := trivial

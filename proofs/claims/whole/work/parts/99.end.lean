theorem sg_zz : True := trivial

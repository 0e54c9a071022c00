/** Part 1 of the document and promises 2 to 5: each bound of the TAPE and of what a WATER's and a RULE's text may hold. */
public final class TextBoundTests {
  private static final String BLANKS = Due.times(" ", 20);
  private static final String DIGITS = "0123456789";
  private static final String ATOMS = DIGITS + "btvxcwl[";
  private static final String UNITS = ATOMS + "(!";

  // ---- promises 2 and 3: the TAPE ----------------------------------------------------------------------------

  private static void feedTakesBytesHighestFirst() {
    GunLine g = new GunLine();
    Due.is("l;b;bx1 in five numbers", g.feed(0x6c3b623b, 0x62783179, 0x36000000, 0, 0), 9);
    Due.is("is a WATER", g.text(0), 2);
    Due.boats("as fed", g, 0, 0, 1);
    Due.boats("as fed", g, 1, 5, 6);
  }

  private static void feedLeavesOutNoughts() {
    GunLine g = new GunLine();
    Due.is("no byte", g.feed(0, 0, 0, 0, 0), 0);
    Due.is("one in each place", g.feed(0x6c000000, 0x003b0000, 0x00006200, 0x00000020, 0), 4);
    Due.is("l;b and a blank", g.fault(0), Due.NONE);
    Due.is("no byte more", g.feed(0, 0, 0, 0, 0), 4);
    Due.is("bytes above 127 are bytes", g.feed(0x80ff80ff, -1, 0, 0, 0xff000080), 14);
    Due.is("and no signs", g.fault(0), 4);
    Due.is("twenty at once", new GunLine().feed(-1, -1, -1, -1, -1), 20);
  }

  private static void feedHasRoomFor240() {
    GunLine g = Due.taped("l;b" + Due.times(" ", 235));
    Due.is("238", g.count(2), 238);
    Due.is("238 and 3: more than 240", g.feed(0, 0x78310000, 0, 0, 0x31), Due.NONE);
    Due.is("nothing of it is there", g.count(2), 238);
    Due.is("nothing of it is there", g.fault(0), Due.NONE);
    Due.is("238 and 1", g.feed(0, 0x20, 0, 0, 0), 239);
    Due.is("239 and 2: more than 240", g.feed(0x78000000, 0, 0, 0, 0x31), Due.NONE);
    Due.is("239 and 1", g.feed(0, 0, 0, 0, 0x20000000), 240);
    Due.is("240 and 1: more than 240", g.feed(0, 0, 1, 0, 0), Due.NONE);
    Due.is("240 and none", g.feed(0, 0, 0, 0, 0), 240);
    Due.is("240 and 20: more than 240", g.feed(-1, -1, -1, -1, -1), Due.NONE);
    Due.is("240 bytes are a WATER", g.fault(0), Due.NONE);
    Due.is("240 bytes are a WATER", g.text(0), 1);
    g = Due.taped(Due.times(BLANKS, 11));
    Due.is("220 and 20", g.feed(-1, -1, -1, -1, -1), 240);
    g = Due.taped(Due.times(BLANKS, 11) + " ");
    Due.is("221 and 20: more than 240", g.feed(-1, -1, -1, -1, -1), Due.NONE);
    Due.is("221 stay", g.count(2), 221);
    Due.is("full, emptied, full again", g.end(0) && Due.feed(g, Due.times(BLANKS, 12)) == 240, true);
  }

  private static void endCutsTheTape() {
    GunLine g = new GunLine();
    Due.is("end(0) of none", g.end(0), true);
    Due.is("end(1) of none", g.end(1), false);
    Due.feed(g, "l;bx1");
    for (int n : new int[] {-1, 6, 7, 240, 241, Due.LEAST, Due.GREATEST}) {
      Due.is("end(" + n + ") of 5", g.end(n), false);
      Due.is("nothing is cut", g.count(2), 5);
    }
    Due.is("end(5) of 5", g.end(5), true);
    Due.is("all stay", g.fault(0), Due.NONE);
    Due.is("end(4) of 5", g.end(4), true);
    Due.is("its first 4 alone", g.fault(0), 4);
    Due.is("end(5) of 4: what is cut is gone", g.end(5), false);
    Due.is("the next byte comes behind them", g.feed(0x37000000, 0, 0, 0, 0), 5);
    Due.is("l;bx7", g.text(0) == 1 ? g.boat(0, 0) : Due.NONE, 7);
    Due.feed(g, "l");
    Due.is("end(0)", g.end(0), true);
    Due.is("none", g.count(2), 0);
    Due.feed(g, Due.times(BLANKS, 12));
    Due.is("end(241) of 240", g.end(241), false);
    Due.is("end(240) of 240", g.end(240), true);
    Due.is("end(239) of 240", g.end(239), true);
    Due.is("room for one", g.feed(0, 0, 0, 0, 0x20), 240);
  }

  // ---- promise 4: the FAULT ----------------------------------------------------------------------------------

  private static void faultHasTwoSorts() {
    for (String s : new String[] {"", "l;b", "y:1", "?"})
      for (int sort : new int[] {-2, -1, 2, 3, Due.LEAST, Due.GREATEST}) Due.fault(sort, s, -2);
    Due.fault(0, "y:1", 0);
    Due.fault(1, "l;b", 0);
    Due.fault(0, "", 0);
    Due.fault(1, "", 0);
  }

  /** Behind a beginning every byte but those allowed is the FAULT itself. */
  private static void next(int sort, String begun, String allowed) {
    for (int c = 1; c < 256; c++) {
      String s = begun + (char) c;
      int found = Due.taped(s).fault(sort);
      boolean may = c == ' ' || allowed.indexOf(c) >= 0;
      if (may) Due.is("byte " + c + " behind '" + begun + "' goes on: " + found, found == Due.NONE || found > begun.length(), true);
      else Due.is("byte " + c + " behind '" + begun + "'", found, begun.length());
    }
  }

  private static void everyByteOfAWater() {
    String line = ";waeudsf", boat = ";xyvmzr";
    next(0, "", "lb");
    next(0, " ", "lb");
    next(0, "l", line);
    next(0, "l ", line);
    next(0, "b", boat);
    next(0, "l;", "b");
    next(0, "b;", "lb");
    next(0, "b;l;", "b");
    next(0, "l;b", boat);
    next(0, "l;b;", "b");
    next(0, "lw", "23456789");
    next(0, "ls", "123456789");
    next(0, "le", "01");
    next(0, "la", DIGITS);
    next(0, "bm", "123");
    next(0, "bv", "0123");
    next(0, "br", "01234");
    next(0, "lw ", "23456789");
    next(0, "lw2", "0;aeudsf");
    next(0, "lw20", ";aeudsf");
    next(0, "lw5 ", ";aeudsf");
    next(0, "la0", DIGITS + ";weudsf");
    next(0, "la1", ";weudsf");
    next(0, "la09", ";weudsf");
    next(0, "ls6", "0;waeudf");
    next(0, "bx1", DIGITS + ";yvmzr");
    next(0, "bx2", ";yvmzr");
    next(0, "bx19", ";yvmzr");
    next(0, "lw20a9e1u9d9s60f1", ";");
    next(0, "bx19y19v3m3z9r4", ";");
    next(0, "l;b;b;b;b;b;b;b", boat);
    next(0, "l;b;b;b;b;b;b;b;", "b");
    next(0, "l;b;b;b;b;b;b;b;b;", "");
    next(0, "b;b;b;b;b;b;b;b;", "l");
  }

  private static void everyByteOfARule() {
    String sums = "+-*/", compared = "=<>";
    next(1, "", "y");
    next(1, "y", ":");
    next(1, "y:", UNITS);
    next(1, "y: ", UNITS);
    next(1, "y:1", DIGITS + sums + compared + ";");
    next(1, "y:123", DIGITS + sums + compared + ";");
    next(1, "y:1234", sums + compared + ";");
    next(1, "y:1 ", sums + compared + ";");
    for (char letter : "btvxcwl".toCharArray()) next(1, "y:" + letter, sums + compared + ";");
    for (char sign : sums.toCharArray()) next(1, "y:b" + sign, ATOMS);
    for (char sign : compared.toCharArray()) next(1, "y:b" + sign, ATOMS);
    next(1, "y:b=1", DIGITS + sums + "&|?");
    next(1, "y:b=b", sums + "&|?");
    next(1, "y:b=b&", UNITS);
    next(1, "y:b=b|", UNITS);
    next(1, "y:b=b?", ATOMS);
    next(1, "y:b=b?b", sums + ";");
    next(1, "y:b=b?b+", ATOMS);
    next(1, "y:b;", "y");
    next(1, "y:b=b?b;", "y");
    next(1, "y:b;y", ":");
    next(1, "y:[", ATOMS);
    next(1, "y:[b", sums + "]");
    next(1, "y:[b]", sums + compared + ";");
    next(1, "y:(", UNITS);
    next(1, "y:(b", sums + compared);
    next(1, "y:([b]", sums + compared);
    next(1, "y:(b=b", sums + "&|)");
    next(1, "y:(b=b)", "&|?");
    next(1, "y:(b=b)&", UNITS);
    next(1, "y:!", UNITS);
    next(1, "y:!b", sums + compared);
    next(1, "y:!b=b", sums + "&|?");
    next(1, "y:!(b=b)", "&|?");
    next(1, "y:(((((", UNITS);
    next(1, "y:!!!!!", UNITS);
    next(1, "y:[[[[[", ATOMS);
    next(1, "y:((((((", DIGITS + "btvxcwl");
    next(1, "y:!!!!!!", DIGITS + "btvxcwl");
    next(1, "y:[[[[[[", DIGITS + "btvxcwl");
    next(1, "y:(!(!([", DIGITS + "btvxcwl");
    next(1, "y:[[[[[[b]", sums + "]");
    next(1, "y:[[[[[[b]]]]]]", sums + compared + ";");
  }

  /** A letter with its lowest and highest number and the one without it, in a text that else may hold any of them. */
  private static void item(String ahead, String behind, char letter, int least, int most) {
    int at = ahead.length() + 1;
    for (int n = 0; n < 100; n++) {
      String told = n + "";
      Due.fault(0, ahead + letter + told + behind, n >= least && n <= most ? Due.NONE : at + told.length() - 1);
      if (n < 10) Due.fault(0, ahead + letter + "0" + n + behind, n >= least && n <= most ? Due.NONE : at + 1);
      Due.fault(0, ahead + letter + (n < 10 ? "0" + n : told) + "0" + behind, at + 2);
    }
    Due.fault(0, ahead + letter + "9999" + behind, at + 2);
    Due.fault(0, ahead + letter, at);
    Due.fault(0, ahead + letter + behind, at);
    Due.fault(0, ahead + letter + " -1" + behind, at + 1);
    Due.fault(0, ahead + letter + most + letter + most + behind, at + (most + "").length());
    Due.fault(0, ahead + letter + most + " " + letter + behind, at + (most + "").length() + 1);
    char other = "waeudsf".indexOf(letter) >= 0 ? (letter == 'w' ? 'u' : 'w') : letter == 'y' ? 'z' : 'y';
    Due.fault(0, ahead + letter + most + other + "5" + letter + most + behind, at + (most + "").length() + 2);
  }

  private static void everyLettersNumbers() {
    item("l", ";b", 'w', 2, 20);
    item("l", ";b", 'a', 0, 9);
    item("l", ";b", 'e', 0, 1);
    item("l", ";b", 'u', 0, 9);
    item("l", ";b", 'd', 0, 9);
    item("l", ";b", 's', 1, 60);
    item("l", ";b", 'f', 0, 1);
    item("b", ";lw20", 'x', 0, 19);
    item("b", ";l", 'y', 0, 19);
    item("bm3", ";l", 'v', 0, 3);
    item("b", ";l", 'm', 1, 3);
    item("b", ";l", 'z', 0, 9);
    item("b", ";l", 'r', 0, 4);
  }

  private static void theNumbersAreAsTold() {
    for (int most = 0; most < 2; most++) {
      GunLine g = Due.with(most == 0 ? "lw2a0e0u0d0s1f0;bx0y0v0m1z0r0" : "lw20a9e1u9d9s60f1;bx19y19v3m3z9r3");
      int[] line = most == 0 ? new int[] {2, 0, 0, 0, 0, 1, 0} : new int[] {20, 9, 1, 9, 9, 60, 1};
      int[] boat = most == 0 ? new int[] {0, 0, 0, 1, 0, 0} : new int[] {19, 19, 3, 3, 9, 3};
      for (int i = 0; i < 7; i++) Due.is("line(" + i + ")", g.line(i), line[i]);
      for (int i = 0; i < 6; i++) Due.is("boat(0, " + i + ")", g.boat(0, i), boat[i]);
    }
    GunLine g = Due.with("l;b;br4x1");
    int[] line = {10, 0, 0, 0, 0, 20, 0}, boat = {0, 5, 0, 2, 5, Due.NONE};
    for (int i = 0; i < 7; i++) Due.is("without: line(" + i + ")", g.line(i), line[i]);
    for (int i = 0; i < 6; i++) Due.is("without: boat(0, " + i + ")", g.boat(0, i), boat[i]);
    Due.is("r4 is none", g.boat(1, 5), Due.NONE);
    g = Due.with("bx1y2v1m1z3r1;lf1s7d6u5e1a4w3;bx2");
    int[] other = {3, 4, 1, 5, 6, 7, 1}, first = {1, 2, 1, 1, 3, 1}, second = {2, 5, 0, 2, 5, Due.NONE};
    for (int i = 0; i < 7; i++) Due.is("in any order: line(" + i + ")", g.line(i), other[i]);
    for (int i = 0; i < 6; i++) Due.is("in any order: boat(0, " + i + ")", g.boat(0, i), first[i]);
    for (int i = 0; i < 6; i++) Due.is("nothing comes over from another BOAT: boat(1, " + i + ")", g.boat(1, i), second[i]);
  }

  private static void howManyClausesOfASort() {
    Due.fault(0, "l", 1);
    Due.fault(0, "b", 1);
    Due.fault(0, " b ", 3);
    Due.fault(0, "b;bx1", 5);
    Due.fault(0, "l;l", 2);
    Due.fault(0, "l;b;l", 4);
    Due.fault(0, "l;b; l ;b", 5);
    Due.fault(0, ";", 0);
    Due.fault(0, "l;", 2);
    Due.fault(0, "l;b;", 4);
    Due.fault(0, "l;;b", 2);
    Due.fault(0, "l; ;b", 3);
    String seven = "bx1;bx2;bx3;bx4;bx5;bx6;bx7";
    Due.fault(0, "l;" + seven, Due.NONE);
    Due.fault(0, "l;b;" + seven, Due.NONE);
    Due.fault(0, "b;" + seven + ";l", Due.NONE);
    Due.fault(0, "b;l;" + seven, Due.NONE);
    Due.fault(0, "l;b;" + seven + ";b", 32);
    Due.fault(0, "l;b;" + seven + ";bx9", 32);
    Due.fault(0, "l;b;" + seven + " ;  b", 35);
    Due.fault(0, "b;" + seven + ";b;l", 30);
    Due.fault(0, "b;l;" + seven + ";b", 32);
    Due.fault(0, "b;" + seven, 29);
    Due.fault(0, "b;" + seven + ";", 30);
    Due.is("eight BOATS", Due.taped("l;b;" + seven).text(0), 8);
    Due.is("one BOAT", Due.taped("l;b").text(0), 1);
  }

  private static void whatDoesNotGoTogetherIsAtTheLength() {
    // a SPEED above the MOST
    for (int v = 0; v <= 3; v++) for (int m = 1; m <= 3; m++) {
      Due.fault(0, "l;bv" + v + "m" + m, v > m ? 7 : Due.NONE);
      Due.fault(0, "bm" + m + "v" + v + ";l;bx1", v > m ? 11 : Due.NONE);
      Due.fault(0, "l;b;bx1m" + m + "v" + v + " ", v > m ? 12 : Due.NONE);
    }
    Due.fault(0, "l;bv2", Due.NONE);
    Due.fault(0, "l;bv3", 5);
    // a COLUMN that is no less than WIDTH
    for (int w = 2; w <= 20; w++) for (int x = 0; x <= 19; x++) {
      String s = "bx" + x + ";lw" + w;
      Due.fault(0, s, x < w ? Due.NONE : s.length());
      s = "lw" + w + ";by1;bx" + x;
      Due.fault(0, s, x < w ? Due.NONE : s.length());
    }
    Due.fault(0, "bx9;l", Due.NONE);
    Due.fault(0, "bx10;l", 6);
    // two BOATS in one CELL
    Due.fault(0, "l;b;b", 5);
    Due.fault(0, "l;b;bx0y5", 9);
    Due.fault(0, "l;bx3y4;bx3y4", 13);
    Due.fault(0, "l;bx3y4;bx3y5", Due.NONE);
    Due.fault(0, "l;bx3y4;bx3y3", Due.NONE);
    Due.fault(0, "l;bx3y4;bx2y4", Due.NONE);
    Due.fault(0, "l;bx3y4;bx4y3", Due.NONE);
    Due.fault(0, "b;bx1;bx2;bx3;bx4;bx5;bx6;b;l", 29);
    Due.fault(0, "b;bx1;bx2;bx3;bx4;bx5;bx6;bx6;l", 31);
    Due.fault(0, "b;bx1;b;bx3;l", 13);
    // a byte that is wrong comes first
    Due.fault(0, "l;bv3;q", 6);
    Due.fault(0, "lw2;bx5,", 7);
    Due.fault(0, "l;b;b;w", 6);
    Due.fault(0, "bv3;bm4", 6);
  }

  private static void blanksStandBetweenSigns() {
    Due.fault(0, "  l  w  2  0  ;  b", 11);
    Due.fault(0, "  l  w  20  a  9  ;  b  x  1  ;  b  ", Due.NONE);
    Due.fault(0, "lw1 0;b", 2);
    Due.fault(0, "lw2 0;b", 4);
    Due.fault(0, "l" + (char) 9 + ";b", 1);
    Due.fault(0, "l" + (char) 31 + ";b", 1);
    Due.fault(0, "l" + (char) 33 + ";b", 1);
    Due.fault(0, "l" + (char) 160 + ";b", 1);
    Due.fault(0, "   ", 3);
    Due.fault(0, "lw   ", 5);
    Due.fault(0, "l;   ", 5);
    Due.fault(1, "  y  :  b  =  12  ?  [  3  ]  ;  y  :  1  ", Due.NONE);
    Due.fault(1, "y:1 2", 4);
    Due.fault(1, "y:   ", 5);
    Due.fault(1, "   ", 3);
    Due.fault(1, "y:b  +", 6);
    Due.fault(1, "y:b" + (char) 9, 3);
  }

  private static void numbersOfARule() {
    for (String n : new String[] {"0", "9", "00", "99", "000", "999", "0000", "9999", "0009"}) {
      Due.fault(1, "y:" + n, Due.NONE);
      Due.fault(1, "y:" + n + "=" + n + "?" + n, Due.NONE);
    }
    Due.fault(1, "y:00000", 6);
    Due.fault(1, "y:10000", 6);
    Due.fault(1, "y:99999", 6);
    Due.fault(1, "y:123456", 6);
    Due.fault(1, "y:b=1?b+12345", 12);
    Due.fault(1, "y:[12345]", 7);
    Due.fault(1, "y:1234 5", 7);
    Due.fault(1, "y:-1", 2);
  }

  private static void clausesOfARule() {
    Due.fault(1, "y", 1);
    Due.fault(1, "y:", 2);
    Due.fault(1, ";", 0);
    Due.fault(1, ";y:1", 0);
    Due.fault(1, "y:1;", 4);
    Due.fault(1, "y:1;;y:1", 4);
    Due.fault(1, "y:1;y", 5);
    Due.fault(1, "y:1;y:", 6);
    Due.fault(1, "y:1;1", 4);
    Due.fault(1, Due.times("y:1;", 59) + "y:1", Due.NONE);
    Due.fault(1, Due.times("y:1;", 60), 240);
    Due.fault(1, "y:b=1?1;y:1;y:c=1?1", Due.NONE);
    Due.fault(1, "y:b?1", 3);
    Due.fault(1, "y:b=1", 5);
    Due.fault(1, "y:b=1;", 5);
    Due.fault(1, "y:b=1?", 6);
    Due.fault(1, "y:b=1?1?1", 7);
    Due.fault(1, "y:b=1?c=1?1", 7);
    Due.fault(1, "y:b=c=1?1", 5);
    Due.fault(1, "y:!1", 4);
    Due.fault(1, "y:(1)", 4);
    Due.fault(1, "y:(b=1)", 7);
    Due.fault(1, "y:(b=1);y:1", 7);
    Due.fault(1, "y:(b=1)=1?1", 7);
    Due.fault(1, "y:[b=1]", 4);
    Due.fault(1, "y:[(b=1)]", 3);
    Due.fault(1, "y:[!b]", 3);
    Due.fault(1, "y:b=!1?1", 4);
    Due.fault(1, "y:b=(1)?1", 4);
    Due.fault(1, "y:1+(b=1)?1", 4);
    Due.fault(1, "y:b=1&?1", 6);
    Due.fault(1, "y:b=1|?1", 6);
    Due.fault(1, "y:b=1&c?1", 7);
    Due.fault(1, "y:[b)", 4);
    Due.fault(1, "y:(b=1]", 6);
    Due.fault(1, "y:[]", 3);
    Due.fault(1, "y:()", 3);
    Due.fault(1, "y:[b", 4);
    Due.fault(1, "y:(b=1", 6);
  }

  /** Six deep by signs of any kind is a RULE, seven deep is wrong at the seventh. */
  private static void nested(String opened, String inmost, String closed, String behind) {
    Due.fault(1, "y:" + opened + inmost + closed + behind, opened.length() <= 6 ? Due.NONE : 8);
  }

  private static void sixWithinOneAnother() {
    for (int n = 1; n <= 9; n++) {
      nested(Due.times("[", n), "b", Due.times("]", n), "");
      nested(Due.times("[", n), "b", Due.times("]", n), "=1?1");
      nested(Due.times("(", n), "b=1", Due.times(")", n), "?1");
      nested(Due.times("!", n), "b=1", "", "?1");
      nested(Due.times("!", n), "b=1", "", "&c=1?1");
    }
    nested("!(!(!(", "b=1", ")))", "?1");
    nested("!(!(!([", "b]=1", ")))", "?1");
    nested("(((([[", "b]]=1", "))))", "?1");
    nested("(((([[[", "b]]]=1", "))))", "?1");
    nested("!!!!![", "b]=1", "", "?1");
    nested("!!!!!![", "b]=1", "", "?1");
    nested("!!!!!(", "b=1", ")", "?1");
    nested("!!!!!!(", "b=1", ")", "?1");
    nested("(((((!", "b=1", ")))))", "?1");
    nested("((((((!", "b=1", "))))))", "?1");
    // the second SUM of a UNIT, the second UNIT, the SUM behind ?
    Due.fault(1, "y:b=[[[[[[b]]]]]]?1", Due.NONE);
    Due.fault(1, "y:b=[[[[[[[b]]]]]]]?1", 10);
    Due.fault(1, "y:(b=[[[[[b]]]]])?1", Due.NONE);
    Due.fault(1, "y:(b=[[[[[[b]]]]]])?1", 10);
    Due.fault(1, "y:b=1&((((((b=1))))))?1", Due.NONE);
    Due.fault(1, "y:b=1&(((((((b=1)))))))?1", 12);
    Due.fault(1, "y:b=1|!!!!!!b=1?1", Due.NONE);
    Due.fault(1, "y:b=1|!!!!!!!b=1?1", 12);
    Due.fault(1, "y:b=1?[[[[[[b]]]]]]", Due.NONE);
    Due.fault(1, "y:b=1?[[[[[[[b]]]]]]]", 12);
    Due.fault(1, "y:b*[[[[[[b]]]]]]", Due.NONE);
    Due.fault(1, "y:b*[[[[[[[b]]]]]]]", 10);
    Due.fault(1, "y:!(b=1&!(b=[[b]]|!b=[b]+[1]))?1", Due.NONE);
    Due.fault(1, "y:!(b=1&!(b=[[b]]|!b=[[b]]))?1", 22);
    // side by side they are not within one another, nor in another CLAUSE
    Due.fault(1, "y:[b]+[b]+[b]*[b]-[b]/[b]+[b]+[b]", Due.NONE);
    Due.fault(1, "y:!b=1&!b=1&!b=1&!b=1&!b=1&!b=1&!b=1?1", Due.NONE);
    Due.fault(1, "y:(b=1)|(b=1)|(b=1)|(b=1)|(b=1)|(b=1)|(b=1)?1", Due.NONE);
    Due.fault(1, "y:[[[[[[b]]]]]]+[[[[[[b]]]]]];y:((((((b=1))))))&!!!!!!b=1?[[[[[[b]]]]]]", Due.NONE);
  }

  // ---- what a RULE is worth ----------------------------------------------------------------------------------

  /** SPEED 1 of 2 behind one SECOND: 2 if the RULE is above 0, 1 if it is 0, 0 if it is below. */
  private static void sign(String sum, int want) {
    GunLine g = Due.with("ls9;by9v1r0", "y:" + sum);
    g.go(1);
    Due.is("the sign of '" + sum + "'", g.boat(0, 2) - 1, want);
  }
  private static void same(String one, String other) { sign(one + "=" + other + "?1;y:0-1", 1); }

  private static void numbersAreWithinAMillion() {
    String million = "1000*1000", below = "0-1000*1000";
    sign(million + "-" + million, 0);
    sign("[" + million + "-1]-[" + million + "]", -1);
    sign("[" + million + "+1]-[" + million + "]", 0);
    sign("1000*1001-" + million, 0);
    sign("1000*999-" + million, -1);
    sign("9999*9999-" + million, 0);
    sign("9999*9999*9999*9999-" + million, 0);
    sign(below + "+" + million, 0);
    sign(below + "+1+" + million, 1);
    sign(below + "-1+" + million, 0);
    sign("[0-1000]*1001+" + million, 0);
    sign("[0-9999]*9999*9999+" + million, 0);
    same(million + "+9-9-1", "9999*100+90");
    same(below + "-9+9+1", "0-[9999*100+90]");
    same("9999*9999/1000", "1000");
    same(million + "/1", million);
    same("[" + below + "]/1", below);
    same("9999*9999*[0-1]", below);
    same("9999*9999+[" + below + "]", "0");
    sign("9999*100+99>9999*100+98?1", 1);
  }

  private static void divisionCutsTowardsNought() {
    same("7/2", "3");
    same("[0-7]/2", "0-3");
    same("7/[0-2]", "0-3");
    same("[0-7]/[0-2]", "3");
    same("1/2", "0");
    same("[0-1]/2", "0");
    same("0-1/2", "0");
    same("2/2", "1");
    same("[0-2]/2", "0-1");
    same("5/0", "0");
    same("0/0", "0");
    same("[0-5]/0", "0");
    same("5/[b-b]", "0");
    same("5/0+3", "3");
    same("5/0*9", "0");
    same("8/4/2", "1");
    same("8/4*2", "4");
    same("9-3-2", "4");
    same("9-3*2", "3");
    same("2*3+4*5", "26");
  }

  private static void comparisonsAtTheBound() {
    sign("3=3?1", 1);
    sign("3=4?1", 0);
    sign("3=2?1", 0);
    sign("3<4?1", 1);
    sign("3<3?1", 0);
    sign("3<2?1", 0);
    sign("3>2?1", 1);
    sign("3>3?1", 0);
    sign("3>4?1", 0);
    sign("0-1<0?1", 1);
    sign("!3=3?1", 0);
    sign("!3=4?1", 1);
    sign("!3<4?1", 0);
    sign("!3<3?1", 1);
    sign("!3>2?1", 0);
    sign("!3>3?1", 1);
    sign("3<4&3=3?1", 1);
    sign("3=3&3>2?1", 1);
    sign("3<4&4>3?1", 1);
    sign("3<4|3=4?1", 1);
    sign("!!3=3?1", 1);
    sign("!!!!!!3=3?1", 1);
    sign("!!!!!3=3?1", 0);
    for (int a = 0; a < 2; a++) for (int b = 0; b < 2; b++) for (int c = 0; c < 2; c++) {
      String p = a + "=1", q = b + "=1", r = c + "=1";
      sign(p + "&" + q + "?1", a & b);
      sign(p + "|" + q + "?1", a | b);
      sign(p + "|" + q + "&" + r + "?1", a | b & c);
      sign(p + "&" + q + "|" + r + "?1", a & b | c);
      sign("(" + p + "|" + q + ")&" + r + "?1", (a | b) & c);
      sign("!" + p + "&" + q + "|!" + r + "?1", (1 - a) & b | (1 - c));
      sign("!(" + p + "&" + q + "|" + r + ")?1", 1 - (a & b | c));
    }
  }

  private static void theFirstClauseThatHolds() {
    sign("1", 1);
    sign("0", 0);
    sign("0-1", -1);
    sign("1=1?0-1;y:1", -1);
    sign("1=2?0-1;y:1", 1);
    sign("1=2?1", 0);
    sign("1=2?1;y:2=1?1", 0);
    sign("1;y:0-1", 1);
    sign("0;y:1", 0);
    sign("1=1?0;y:1", 0);
    sign("1=2?1;y:2=2?0-1;y:1", -1);
    sign(Due.times("b=1?1;y:", 27) + "0-1", -1);
    sign(Due.times("1+", 100) + "0-100", 0);
    sign("[[[[[[1]]]]]]", 1);
    sign("((((((1=1))))))?1", 1);
    sign("1+2*[3+4*[5+6*[7+8*[9+1*[2+3*[4-3]]]]]]>0?1", 1);
  }

  // ---- promise 5: a TEXT is taken ----------------------------------------------------------------------------

  private static void refusedTexts() {
    GunLine g = Due.with("lw3;bx2y7v1", "y:1");
    Due.feed(g, "l;b;b");
    for (int sort : new int[] {-2, -1, 0, 1, 2, 3, Due.LEAST, Due.GREATEST}) {
      Due.is("text(" + sort + ") of l;b;b", g.text(sort), Due.NONE);
      Due.is("the TAPE stays", g.count(2), 5);
      Due.is("RULES stay", g.count(1), 1);
      Due.is("the WATER stays", g.line(0) * 100 + g.boat(0, 0) * 10 + g.boat(0, 1), 327);
    }
    for (String s : new String[] {"", " ", "l", "b", "y", "y:", "l;b;", "bv3;l", "y:1;"}) {
      g.end(0);
      Due.feed(g, s);
      Due.is("text(0) of '" + s + "'", g.text(0), Due.NONE);
      Due.is("text(1) of '" + s + "'", g.text(1), Due.NONE);
      Due.is("the TAPE stays", g.count(2), s.length());
    }
    g.end(0);
    Due.feed(g, "y:2");
    Due.is("a RULE is no WATER", g.text(0), Due.NONE);
    Due.is("but a RULE", g.text(1), 1);
    Due.is("the TAPE is empty", g.count(2), 0);
    Due.is("an empty one is none", g.text(1), Due.NONE);
    Due.is("and no WATER", g.text(0), Due.NONE);
  }

  private static void fourRules() {
    GunLine g = new GunLine();
    for (int i = 0; i < 4; i++) {
      Due.feed(g, "y:" + (i == 3 ? "1" : "0-1"));
      Due.is("RULE", g.text(1), i);
      Due.is("RULES", g.count(1), i + 1);
      Due.is("the TAPE is empty", g.count(2), 0);
    }
    Due.feed(g, "y:0-1");
    Due.is("a fifth RULE is none", g.text(1), Due.NONE);
    Due.is("though it has no FAULT", g.fault(1), Due.NONE);
    Due.is("RULES", g.count(1), 4);
    Due.is("the TAPE stays", g.count(2), 5);
    g.end(0);
    Due.feed(g, "l;bv1r3");
    Due.is("a WATER is one still", g.text(0), 1);
    Due.is("RULES stay", g.count(1), 4);
    g.go(1);
    Due.is("the fourth is as it was", g.boat(0, 2), 2);
  }

  private static void longestRules() {
    String rule = "y:" + Due.times("1+", 118) + "1 ";
    Due.is("240 bytes", rule.length(), 240);
    GunLine g = Due.with("ls9;by9v1r0;bx5y9v1r3", rule, "y:0", "y:0", Due.times("y:b=1?1;", 29) + "y:0-9 ");
    g.go(1);
    Due.boats("both are whole", g, 2, 2, 0);
  }

  public static void main(String[] args) {
    feedTakesBytesHighestFirst(); feedLeavesOutNoughts(); feedHasRoomFor240(); endCutsTheTape();
    faultHasTwoSorts(); everyByteOfAWater(); everyByteOfARule(); everyLettersNumbers(); theNumbersAreAsTold(); howManyClausesOfASort();
    whatDoesNotGoTogetherIsAtTheLength(); blanksStandBetweenSigns(); numbersOfARule(); clausesOfARule(); sixWithinOneAnother();
    numbersAreWithinAMillion(); divisionCutsTowardsNought(); comparisonsAtTheBound(); theFirstClauseThatHolds();
    refusedTexts(); fourRules(); longestRules();
    Due.finish();
  }
}

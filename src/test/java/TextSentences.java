/** The sentences on THE TEXT, and promises 2 to 5: the last that is taken and the first that is not, on both sides. */
public final class TextSentences {
  private static final int NONE = Talk.NONE, OUTSIDE = Talk.OUTSIDE, NOT = Talk.NOT, FULL = Talk.FULL;

  public static void main(String[] args) {
    Sentences.sentence("THE TEXT is a row of letters, 200 at most", TextSentences::letters);
    Sentences.sentence("CLAUSES with ; between", TextSentences::between);
    Sentences.sentence("CLAUSES with ; between, 24 at most", TextSentences::clauses);
    Sentences.sentence("each is one of: all. f C I J. g C I J. least N. box A B C D.", TextSentences::kinds);
    Sentences.sentence("(As written here, without points", TextSentences::asWritten);
    Sentences.sentence("all: all is as at first", TextSentences::allAsAtFirst);
    Sentences.sentence("but THE TEXT and the two that are kept", TextSentences::allBut);
    Sentences.sentence("f, g: POLYNOMIAL 0, 1 has c at the PLACE (I, J)", TextSentences::places);
    Sentences.sentence("for that which was there, 0: none", TextSentences::forThatWhichWasThere);
    Sentences.sentence("box: THE SEARCH begins anew with the BOX of x A to B, y C to D", TextSentences::box);
    Sentences.sentence("B above A, D above C", TextSentences::aboveByOne);
    Sentences.sentence("each of c, A, B, C, D a number, or - and a number (two TOKENS)", TextSentences::signs);
    Sentences.sentence("small letters a .. z", TextSentences::smallLetters);
    Sentences.sentence("numbers of 1 to 3 digits", TextSentences::digits);
    Sentences.sentence("blanks between", TextSentences::blanks);
    Sentences.sentence("A FAULT is at the first TOKEN", TextSentences::firstToken);
    Sentences.sentence("(a row of small letters, a row of digits, any other letter)", TextSentences::tokens);
    Sentences.sentence("(a number out of its bounds", TextSentences::bounds);
    Sentences.sentence("a number out of its bounds, of more digits", TextSentences::moreDigits);
    Sentences.sentence("a J by which I and J are above 4 together", TextSentences::together);
    Sentences.sentence("a B not above A", TextSentences::notAboveA);
    Sentences.sentence("a D not above C", TextSentences::notAboveC);
    Sentences.sentence("or at the end, if it comes too soon", TextSentences::tooSoon);
    Sentences.sentence("CLAUSES are done in their order", TextSentences::inTheirOrder);
    Sentences.sentence("A letter (its number, 0 .. 255) more of THE TEXT: how many it has. OUTSIDE; FULL.", TextSentences::write);
    Sentences.sentence("THE TEXT is empty: how many letters it had.", TextSentences::erase);
    Sentences.sentence("The place of the FAULT (the letter with which the TOKEN begins, or the length); NONE.", TextSentences::place);
    Sentences.sentence("THE TEXT's CLAUSES are done, and it is empty then: how many there were.", TextSentences::tell);
    Sentences.sentence("NOT: it has a FAULT.", TextSentences::tellRefused);
    Sentences.end();
  }

  private static void faulty(String text, int place) {
    new Talk().say(text).due(place, "fault").due(NOT, "tell").due(text.length(), "count", 13);
  }

  private static Talk taken(String text, int clauses) {
    return new Talk().say(text).due(NONE, "fault").due(clauses, "tell").due(0, "count", 13);
  }

  private static Talk taken(String text) { return taken(text, 1); }

  // ---- THE TEXT

  private static void letters() {
    Talk x = new Talk().say("z".repeat(198));
    x.due(199, "write", 'z').due(200, "write", 'z').due(FULL, "write", 'z').due(FULL, "write", ' ').due(200, "count", 13);
    x.due(200, "erase").due(1, "write", 'z');
    // all 200 are read, the last of them too
    taken("all" + " ".repeat(197));
    taken(" ".repeat(197) + "all");
    faulty("all" + " ".repeat(196) + "z", 199);
    faulty("all" + " ".repeat(196) + ";", 200);
    taken(" ".repeat(193) + "least 4");
    Talk y = new Talk().say(" ".repeat(197) + "all").due(FULL, "write", 'z').due(NONE, "fault").due(1, "tell");
    y.due(1, "write", 'z');
  }

  private static void between() {
    taken("all;all", 2);
    taken("all ; all", 2);
    faulty(";all", 0);
    faulty("all;", 4);
    faulty("all;;all", 4);
    faulty("all; ;all", 5);
    faulty(";", 0);
    faulty("all all", 4);
    faulty("all,all", 3);
    faulty("all:all", 3);
    faulty("f 1 0 0 g 1 0 0", 8);
    faulty("least 4 least 4", 8);
    faulty("box 0 1 0 1 all", 12);
    faulty("f 1 0;0", 5);
    faulty("least;4", 5);
  }

  private static void clauses() {
    taken("all", 1);
    taken("all" + ";all".repeat(22), 23);
    taken("all" + ";all".repeat(23), 24);
    taken("all" + ";all".repeat(23) + "  ", 24);
    faulty("all" + ";all".repeat(24), 95);
    faulty("all" + ";all".repeat(25), 95);
    faulty("all" + ";all".repeat(23) + "  ; all", 97);
    faulty("all" + ";all".repeat(23) + ";", 95);
    // each kind counts as one
    taken("f 1 0 0;g 1 0 0;least 4;box 0 1 0 1;" + "all;".repeat(19) + "all", 24);
    faulty("f 1 0 0;g 1 0 0;least 4;box 0 1 0 1;" + "all;".repeat(20) + "all", 35 + 20 * 4);
    // a fault before it goes first
    faulty("all;al;" + "all;".repeat(23) + "all", 4);
    Talk x = new Talk().say("least 9" + ";all".repeat(23) + ";least 8").due(NOT, "tell").due(4, "count", 12);
    x.say("least 9" + ";all".repeat(22) + ";least 8").due(24, "tell").due(8, "count", 12);
  }

  private static void kinds() {
    taken("all");
    taken("f 1 0 0").due(1, "term", 0, 0, 0).due(0, "count", 11);
    taken("g 1 0 0").due(1, "term", 1, 0, 0).due(0, "count", 10);
    taken("least 9").due(9, "count", 12);
    taken("box 1 3 5 9").dueBox("first", 1, 3, 5, 9);
    for (String word : new String[] {"h", "e", "a", "al", "alll", "ff", "fg", "leas", "leasts", "bo", "boxx", "tell", "x", "y"}) {
      faulty(word, 0);
      faulty(word + " 1 0 0", 0);
    }
    faulty("1 0 0", 0);
    faulty("-", 0);
    // what stands after the word is the kind's own
    faulty("all 1", 4);
    faulty("f 1 0 0 0", 8);
    faulty("g 1 0 0 0", 8);
    faulty("least 4 4", 8);
    faulty("box 0 1 0 1 0", 12);
    faulty("f 1 0", 5);
    faulty("g 1 0", 5);
    faulty("least", 5);
    faulty("box 0 1 0", 9);
    faulty("f g 1 0 0", 2);
    faulty("least all", 6);
  }

  private static void asWritten() {
    faulty("All", 0);
    faulty("ALL", 0);
    faulty("aLL", 0);
    faulty("F 1 0 0", 0);
    faulty("G 1 0 0", 0);
    faulty("Least 4", 0);
    faulty("Box 0 1 0 1", 0);
    faulty("all.", 3);
    faulty("f 1 0 0.", 7);
    faulty("g. 1 0 0", 1);
    faulty("least 4.", 7);
    faulty("box 0 1 0 1.", 11);
    faulty("f 1,0,0", 3);
    faulty("f +1 0 0", 2);
  }

  private static void allAsAtFirst() {
    Talk x = Talk.busy().say("all").due(1, "tell");
    for (int what = 0; what < 15; what++) x.due(what == 12 ? 4 : 0, "count", what);
    for (int i = 0; i <= 4; i++) for (int j = 0; i + j <= 4; j++) x.due(0, "term", 0, i, j).due(0, "term", 1, i, j);
    x.due(NOT, "first", 0).due(Talk.UNKNOWN, "solved", 0, 0).due(Talk.UNKNOWN, "doubtful", 0, 0).due(Talk.UNKNOWN, "entry", 0, 4);
    x.due(NONE, "broken").due(0, "find", 64, 64).due(NOT, "step");
    // none is held either
    x.due(NOT, "verdict").due(NOT, "value", 0, 0).due(NOT, "slope", 0, 0, 0).due(NOT, "fence", 4);
  }

  private static void allBut() {
    // what is kept stays, both
    Talk x = Talk.busy().say("all").due(1, "tell").due(0, "count", 10);
    x.due(4, "back", 0).due(4, "count", 12).due(1, "count", 0).due(2, "count", 10).due(2, "count", 11);
    x.due(8, "back", 1).due(7, "count", 12).due(3, "count", 0).due(1, "count", 10).due(0, "count", 11);
    // what was not kept is not kept then
    new Talk().say("all").due(1, "tell").due(NOT, "back", 0).due(NOT, "back", 1);
    Talk y = new Talk().then("keep", 1).say("all").due(1, "tell").due(NOT, "back", 0).due(0, "back", 1);
    // the clauses behind it are done still
    y.say("all;f 3 0 0;all;g 4 0 0;least 5").due(5, "tell").due(0, "count", 10).due(4, "term", 1, 0, 0).due(5, "count", 12);
  }

  private static void places() {
    for (int i = 0; i <= 4; i++) {
      for (int j = 0; i + j <= 4; j++) {
        taken("f 7 " + i + " " + j).due(7, "term", 0, i, j).due(1, "count", 10).due(0, "count", 11);
        taken("g -7 " + i + " " + j).due(-7, "term", 1, i, j).due(0, "count", 10).due(1, "count", 11);
      }
    }
    // the search stays
    Talk x = Talk.told("box 0 64 0 64").due(5, "step").say("f 1 0 0;g 1 0 0").due(2, "tell").due(1, "count", 3).due(2, "count", 0);
    x.due(0, "entry", 0, 5).due(5, "entry", 0, 4);
  }

  private static void forThatWhichWasThere() {
    Talk x = Talk.told("f 7 1 2;f 8 2 1;g 9 1 2");
    x.say("f 20 1 2").due(1, "tell").due(20, "term", 0, 1, 2).due(8, "term", 0, 2, 1).due(9, "term", 1, 1, 2).due(2, "count", 10);
    x.say("f 0 1 2").due(1, "tell").due(0, "term", 0, 1, 2).due(1, "count", 10);
    x.say("f -0 2 1;g 000 1 2").due(2, "tell").due(0, "count", 10).due(0, "count", 11);
  }

  private static void box() {
    Talk x = Talk.told("least 9;f 1 0 0;box 0 8 0 8").due(0, "step").then("hold", 1, 2, 3, 5);
    x.say("box -3 4 -6 8").due(1, "tell").dueBox("first", -3, 4, -6, 8);
    x.due(1, "count", 0).due(0, "count", 1).due(0, "count", 2).due(0, "count", 3).due(0, "count", 4);
    x.due(9, "count", 12).due(1, "count", 10).due(0, "verdict");
    x.say("box 0 5 0 5;box 1 7 2 4").due(2, "tell").due(1, "count", 0).dueBox("first", 1, 7, 2, 4);
    taken("box -512 512 -512 512").dueBox("first", -512, 512, -512, 512);
  }

  private static void aboveByOne() {
    taken("box 0 1 0 1").dueBox("first", 0, 1, 0, 1);
    taken("box -1 0 -1 0").dueBox("first", -1, 0, -1, 0);
    taken("box 511 512 511 512").dueBox("first", 511, 512, 511, 512);
    taken("box -512 -511 -512 -511").dueBox("first", -512, -511, -512, -511);
    // above in value, not by its place: C need not be above B
    taken("box 5 6 -9 -8").dueBox("first", 5, 6, -9, -8);
  }

  private static void signs() {
    taken("f -3 0 0").due(-3, "term", 0, 0, 0);
    taken("f - 3 0 0").due(-3, "term", 0, 0, 0);
    taken("f -   3 0 0").due(-3, "term", 0, 0, 0);
    taken("g -3 0 0").due(-3, "term", 1, 0, 0);
    taken("box -4 -3 -2 -1").dueBox("first", -4, -3, -2, -1);
    taken("box - 4 - 3 - 2 - 1").dueBox("first", -4, -3, -2, -1);
    taken("f -0 0 0").due(0, "count", 10);
    // two tokens: the fault is at the second
    faulty("f - ", 4);
    faulty("f -;", 3);
    faulty("f --3 0 0", 3);
    faulty("f - x 0 0", 4);
    faulty("box - 4 - - 3 0 1", 10);
    faulty("f - 21 0 0", 4);
    // neither I, J nor N
    faulty("f 1 -1 0", 4);
    faulty("f 1 -0 0", 4);
    faulty("f 1 0 -1", 6);
    faulty("f 1 0 -0", 6);
    faulty("g 1 -0 0", 4);
    faulty("g 1 0 -0", 6);
    faulty("least -4", 6);
    faulty("least - 4", 6);
  }

  private static void smallLetters() {
    faulty("`ll", 0);
    faulty("al{", 0);
    faulty("all{", 3);
    faulty("all`", 3);
    faulty("allA", 3);
    faulty("allZ", 3);
    faulty("alla", 0);
    faulty("allz", 0);
    faulty("[", 0);
    faulty("@", 0);
    faulty("all" + (char) ('a' + 128), 3);
    faulty((char) ('a' + 128) + "ll", 0);
  }

  private static void digits() {
    taken("least 4").due(4, "count", 12);
    taken("least 64").due(64, "count", 12);
    taken("least 064").due(64, "count", 12);
    taken("least 004").due(4, "count", 12);
    taken("f 020 004 000").due(20, "term", 0, 4, 0);
    taken("f 000 000 000");
    taken("box -512 512 -009 010").dueBox("first", -512, 512, -9, 10);
    faulty("least 0064", 6);
    faulty("least /", 6);
    faulty("least :", 6);
    faulty("least 4/", 7);
    faulty("least 4:", 7);
    faulty("least 4" + (char) ('4' + 128), 7);
    // by its worth, digit for digit
    taken("box 0 123 0 409").dueBox("first", 0, 123, 0, 409);
    taken("box 0 500 5 67").dueBox("first", 0, 500, 5, 67);
  }

  private static void blanks() {
    taken("   all   ");
    taken("  f   1   2   0  ;   least   9   ", 2).due(1, "term", 0, 2, 0).due(9, "count", 12);
    faulty("al l", 0);
    faulty("a ll", 0);
    taken("f 1 2 0").due(1, "term", 0, 2, 0);
    faulty("f 12 0", 6);
    faulty("f 1 20", 4);
    // a blank is a blank alone
    for (int letter : new int[] {0, 9, 10, 11, 12, 13, 31, 33, 160, 255}) {
      faulty("f" + (char) letter + "1 2 0", 1);
      faulty((char) letter + "all", 0);
      faulty("all" + (char) letter, 3);
    }
  }

  private static void firstToken() {
    faulty("f 21 5 0;h", 2);
    faulty("f 20 5 0;h", 5);
    faulty("f 20 4 1;h", 7);
    faulty("f 20 4 0;h;21", 9);
    faulty("f 20 4 0;g;21", 10);
    faulty("box 513 0 513 0", 4);
    faulty("box 512 0 513 0", 8);
    faulty("box 512 513 0 1", 8);
    faulty("box 0 512 513 0", 10);
    faulty("box 0 512 512 0", 14);
    faulty("all;least 0;least 65", 10);
    faulty("x;", 0);
    faulty("all;;", 4);
  }

  private static void tokens() {
    // a row of small letters, of digits: as long as it goes
    faulty("allf 1 0 0", 0);
    faulty("all;fall", 4);
    faulty("f 1 0 0f", 7);
    faulty("f 1 0 0all", 7);
    faulty("f1x 0 0", 2);
    faulty("f 1111 0 0", 2);
    faulty("least 4x4", 7);
    taken("f1 0 0").due(1, "term", 0, 0, 0);
    taken("f-1 0 0;g1 0 0;least9;box-1 1-1 1", 4).dueBox("first", -1, 1, -1, 1);
    // any other letter: each by itself
    faulty("f 1 0 0--", 7);
    faulty("all;;;", 4);
    faulty("f --1 0 0", 3);
    faulty("f ++1 0 0", 2);
    for (int letter : new int[] {0, 1, 31, 33, 43, 44, 46, 58, 64, 91, 96, 123, 127, 128, 200, 255}) {
      faulty("all " + (char) letter, 4);
      faulty((char) letter + " all", 0);
      faulty("f 1 0 " + (char) letter, 6);
    }
  }

  private static void bounds() {
    for (String name : new String[] {"f", "g"}) {
      taken(name + " 20 0 0");
      faulty(name + " 21 0 0", 2);
      faulty(name + " 999 0 0", 2);
      taken(name + " -20 0 0");
      faulty(name + " -21 0 0", 3);
      taken(name + " 1 4 0");
      faulty(name + " 1 5 0", 4);
      faulty(name + " 1 999 0", 4);
      taken(name + " 1 0 4");
      faulty(name + " 1 0 5", 6);
    }
    taken("least 1").due(1, "count", 12);
    faulty("least 0", 6);
    taken("least 64").due(64, "count", 12);
    faulty("least 65", 6);
    faulty("least 999", 6);
    faulty("box -513 0 0 1", 5);
    faulty("box 513 514 0 1", 4);
    faulty("box 0 513 0 1", 6);
    faulty("box 0 1 -513 1", 9);
    faulty("box 0 1 513 514", 8);
    faulty("box 0 1 0 513", 10);
    faulty("box 0 1 0 999", 10);
    taken("box -512 512 -512 512");
    // within its bounds: the fault comes with B
    faulty("box 512", 7);
    faulty("box 0 1 512", 11);
  }

  private static void moreDigits() {
    faulty("f 0001 0 0", 2);
    faulty("f -0001 0 0", 3);
    faulty("f 1 0000 0", 4);
    faulty("f 1 0 0000", 6);
    faulty("g 0001 0 0", 2);
    faulty("least 0004", 6);
    faulty("box 0000 1 0 1", 4);
    faulty("box 0 0001 0 1", 6);
    faulty("box 0 1 0000 1", 8);
    faulty("box 0 1 0 0001", 10);
    faulty("box -0512 1 0 1", 5);
    // a number that would come to 1 if it wrapped around
    faulty("f 4294967297 0 0", 2);
    faulty("f 18446744073709551617 0 0", 2);
    faulty("least " + "0".repeat(193) + "4", 6);
  }

  private static void together() {
    for (String name : new String[] {"f", "g"}) {
      for (int i = 0; i <= 4; i++) {
        taken(name + " 1 " + i + " " + (4 - i));
        faulty(name + " 1 " + i + " " + (5 - i), 6);
        faulty(name + " 1 " + i + " 999", 6);
      }
    }
    // also of a c that is 0
    faulty("f 0 3 2", 6);
  }

  private static void notAboveA() {
    faulty("box 0 0 0 1", 6);
    faulty("box 5 4 0 1", 6);
    faulty("box 0 -0 0 1", 7);
    faulty("box 5 -6 0 1", 7);
    faulty("box -5 -5 0 1", 8);
    faulty("box -5 -6 0 1", 8);
    faulty("box -5 - 6 0 1", 9);
    faulty("box 512 512 0 1", 8);
    taken("box -5 -4 0 1");
    taken("box -5 4 0 1");
    taken("box 4 5 0 1");
  }

  private static void notAboveC() {
    faulty("box 0 1 0 0", 10);
    faulty("box 0 1 5 4", 10);
    faulty("box 0 1 0 -0", 11);
    faulty("box 0 1 5 -6", 11);
    faulty("box 0 1 -5 -5", 12);
    faulty("box 0 1 -5 -6", 12);
    faulty("box 0 1 -5 - 6", 13);
    faulty("box 0 1 512 512", 12);
    taken("box 0 1 -5 -4");
    taken("box 0 1 -5 4");
    taken("box 0 1 4 5");
  }

  private static void tooSoon() {
    faulty("", 0);
    faulty(" ", 1);
    faulty("   ", 3);
    faulty("all;", 4);
    faulty("all;  ", 6);
    for (String text : new String[] {"f", "f 1", "f -", "f -1", "f 1 2", "g", "g 1 2", "least", "box", "box 0", "box -", "box 0 1", "box 0 1 -",
        "box 0 1 0", "box 0 1 0 -"}) {
      faulty(text, text.length());
      faulty(text + "  ", text.length() + 2);
      // with a ; it is not the end, but the token that cannot stand there
      faulty(text + ";", text.length());
      faulty(text + " ;all", text.length() + 1);
    }
    faulty("all" + " ".repeat(196) + ";", 200);
  }

  private static void inTheirOrder() {
    Talk.told("f 1 0 0;f 2 0 0").due(2, "term", 0, 0, 0);
    Talk.told("f 2 0 0;f 1 0 0").due(1, "term", 0, 0, 0);
    Talk.told("f 2 0 0;f 0 0 0").due(0, "count", 10);
    Talk.told("f 0 0 0;f 2 0 0").due(1, "count", 10);
    Talk.told("least 9;all").due(4, "count", 12);
    Talk.told("all;least 9").due(9, "count", 12);
    Talk.told("box 0 1 0 1;all").due(0, "count", 0);
    Talk.told("all;box 0 1 0 1").due(1, "count", 0);
    Talk.told("box 0 1 0 1;box 0 2 0 2;f 3 0 0;least 8;least 7;g 4 0 0;g 5 0 0").dueBox("first", 0, 2, 0, 2)
        .due(7, "count", 12).due(5, "term", 1, 0, 0);
  }

  // ---- promises 2 to 5

  private static void write() {
    Talk x = new Talk();
    x.due(OUTSIDE, "write", -1).due(OUTSIDE, "write", 256).due(0, "count", 13);
    x.due(1, "write", 0).due(2, "write", 255).due(3, "write", 128).due(3, "count", 13);
    x.due(OUTSIDE, "write", Integer.MIN_VALUE).due(OUTSIDE, "write", Integer.MAX_VALUE).due(OUTSIDE, "write", 256 + 'a').due(3, "count", 13);
    // a letter is put behind those that were there
    new Talk().then("write", 'a').then("write", 'l').due(0, "fault").due(3, "write", 'l').due(NONE, "fault");
  }

  private static void erase() {
    new Talk().due(0, "erase").due(0, "erase").due(0, "count", 13);
    Talk x = new Talk().then("write", 'x').due(1, "erase").due(0, "erase").due(0, "count", 13).due(0, "fault");
    // what was there does not come back
    x.say("all;all").due(7, "erase").say("all").due(3, "count", 13).due(1, "tell");
    // nothing else goes
    Talk y = Talk.busy().say("all").due(3, "erase").due(7, "count", 12).due(8, "count", 3).due(1, "count", 10).due(1, "count", 11);
    y.due(-14, "value", 1, 0).due(8, "back", 1).due(4, "back", 0);
    new Talk().say("z".repeat(200)).due(200, "erase").due(1, "write", 'z');
  }

  private static void place() {
    faulty("   hello", 3);
    faulty("all;  hello", 6);
    faulty("f   21 0 0", 4);
    faulty("f   -  21 0 0", 7);
    faulty("all    .", 7);
    faulty("least   ", 8);
    faulty("", 0);
    // it can be asked again, and nothing changes
    Talk x = new Talk().say("f 3 0 0;least 9").due(NONE, "fault").due(NONE, "fault").due(15, "count", 13).due(0, "count", 10).due(4, "count", 12);
    x.due(2, "tell").due(0, "fault");
    new Talk().say("f 3 0 0;least 99").due(14, "fault").due(14, "fault").due(16, "count", 13).due(0, "count", 10);
  }

  private static void tell() {
    new Talk().say("f 3 1 0").due(1, "tell").due(0, "count", 13).due(3, "term", 0, 1, 0).due(NOT, "tell").due(1, "write", 'a');
    new Talk().say("f 3 1 0;g 4 0 1;least 5").due(3, "tell").due(3, "term", 0, 1, 0).due(4, "term", 1, 0, 1).due(5, "count", 12);
    // one that is like what there was is one all the same
    new Talk().say("f 3 1 0;f 3 1 0;all;all;least 4").due(5, "tell");
    // what is held stays where no clause says otherwise
    Talk x = new Talk().then("hold", 0, 3, 0, 1).say("f 1 1 0;g 1 0 1;least 5;box 0 1 0 1").due(4, "tell").due(3, "value", 0, 1);
    x.due(1, "value", 1, 1);
  }

  private static void tellRefused() {
    new Talk().due(NOT, "tell");
    Talk x = Talk.told("f 3 1 0;least 9;box 0 4 0 4").then("hold", 0, 3, 0, 1);
    x.say("all;f 1 1 0;least 5;box 0 2 0 2;").due(NOT, "tell").due(32, "count", 13).due(3, "term", 0, 1, 0).due(9, "count", 12);
    x.dueBox("first", 0, 4, 0, 4).due(0, "value", 0, 0).due(9, "value", 0, 1);
    // the text is there still: with what lacked it is told
    x.due(32, "fault").then("write", 'a').then("write", 'l').then("write", 'l').due(5, "tell").due(4, "count", 12).due(0, "count", 10);
    new Talk().say("f 1 1 0;h").due(NOT, "tell").due(0, "count", 10).due(NOT, "tell").due(9, "count", 13);
  }
}

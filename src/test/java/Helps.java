/** What the tests written by hand share. */
class Helps {
  static final int NONE = -1, BAD = -2, NO = -3, FULL = -4, MAX = Integer.MAX_VALUE, MIN = Integer.MIN_VALUE;
  private static int wrong = 0;

  static void due(String what, long got, long want) {
    if (got != want) {
      wrong++;
      System.out.println(what + ": answered " + got + ", due is " + want);
    }
  }

  static void end(String name) {
    System.out.println(name + (wrong == 0 ? ": all as due" : ": " + wrong + " wrong"));
    if (wrong != 0) System.exit(1);
  }

  /** A table with so many people, alike but for LAND, which is their number, and PARISH and TRADE. */
  static SwornLists people(int many) {
    SwornLists x = new SwornLists();
    for (int i = 0; i < many; i++) x.person(i % 4, i % 4, i, 50);
    return x;
  }

  static void text(SwornLists x, int text, String signs) {
    x.erase(text);
    for (int i = 0; i < signs.length(); i++) x.write(text, signs.charAt(i));
  }

  static int law(SwornLists x, String signs, int sort, int from) {
    text(x, 3, signs);
    return x.act(3, sort, from);
  }

  static int plainTrial(SwornLists x, int day, int days, int seats, int slips) {
    return x.trial(day, days, seats, NONE, NONE, NONE, 0, 1, slips);
  }

  static int tried(SwornLists x, int[] a) {
    return x.trial(a[0], a[1], a[2], a[3], a[4], a[5], a[6], a[7], a[8]);
  }

  static int faultOf(String signs) {
    SwornLists x = new SwornLists();
    text(x, 0, signs);
    return x.fault(0);
  }

  /** Of a person of PARISH 1, TRADE 2, LAND 7, BORN 50, on a DAY of YEAR 100. */
  static long told(String signs) {
    SwornLists x = new SwornLists();
    x.person(3, 3, 9, 9);
    x.person(1, 2, 7, 50);
    text(x, 0, signs);
    return x.tells(0, 1, 99);
  }

  static void part(SwornLists x, long above, long below) {
    due("above", x.part(0), above);
    due("below", x.part(1), below);
  }

  static long folded(long h, long... vs) {
    for (long v : vs) h = 31 * h + v;
    return h;
  }

  /** Whom a TRIAL drew, in order. */
  static int[] order(SwornLists x, int trial, int many) {
    int[] order = new int[many];
    for (int i = 0; i < many; i++) order[i] = x.drawn(trial, i);
    return order;
  }

  static int bits(int... people) {
    int bits = 0;
    for (int one : people) bits |= 1 << one;
    return bits;
  }
}

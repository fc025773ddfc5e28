import java.util.ArrayDeque;
import java.util.Random;

/** Long runs of chosen and odd calls, from told seeds, on the program and on the plain model. */
public final class AgainstModelTest {
  private static final String[] TEXTS = {
    "a>20", "a>20&a<70", "l>9", "l", "s<1", "y>3", "s=0|y>1", "!(t=2)", "t<2|p=1", "a/t>9", "1", "0",
    "l-t*10+p", "(l+p)/t", "-l<-200", "!!l", "s<2&(l>10|a>40)", " a > 3 0", "a < 50 < 3", "1234567",
    "(((((((((a)))))))))", "((((((((a))))))))", "a+", "(a", "a)", "", " ", "12 34", "999999*999999*999999*99",
    "a b", "l/0", "--a", "-!a", "a--l", "!a=0&1", "a=l=p", "(a<l)<p", "a<l|l<a&p=p", "y-999", "s", "y", "~a", "a~l"};
  private static final int[] ODD = {Integer.MAX_VALUE, Integer.MIN_VALUE, -1, -2, 30, 31, 32, 33, 64, 100, 1 << 30, -1 << 30};

  private final Random random;
  private final SwornLists x = new SwornLists();
  private final PlainModel m = new PlainModel();
  private final ArrayDeque<String> last = new ArrayDeque<>();
  private final boolean wild;
  private final int span;
  private String pending = "";
  private int pendingText, pendingAt;
  private int wrong = 0;

  AgainstModelTest(long seed) {
    random = new Random(seed);
    wild = seed % 3 == 0;
    span = new int[] {12, 60, 400, 10000}[(int) (seed % 4)];
  }

  public static void main(String[] args) {
    int wrong = 0;
    long runs = args.length > 0 ? Long.parseLong(args[0]) : 1500;
    for (long seed = 0; seed < runs && wrong < 5; seed++) wrong += new AgainstModelTest(seed).run(seed);
    System.out.println(wrong == 0 ? "AgainstModelTest: " + runs + " runs agree" : "AgainstModelTest: wrong");
    if (wrong != 0) System.exit(1);
  }

  int run(long seed) {
    int call = seed % 2 == 0 ? 0 : crowd();
    for (; call < 512 && wrong == 0; call++) one();
    if (wrong != 0) {
      System.out.println("seed " + seed);
      last.forEach(System.out::println);
    }
    return wrong;
  }

  /** People, acts and trials enough that the rest of the run has something to hang on: how many calls. */
  int crowd() {
    int many = 10 + r(23), trials = 2 + r(9);
    for (int i = 0; i < many; i++) tell(0);
    for (int i = 0; i < trials; i++) trial();
    for (int i = 0; i < 40; i++) tell(19);
    for (int i = 0; i < 10; i++) tell(17);
    int facts = r(42);
    for (int i = 0; i < facts; i++) tell(4);
    return many + trials + 50 + facts;
  }

  int r(int n) { return n <= 0 ? 0 : random.nextInt(n); }
  boolean odd() { return r(wild ? 12 : 60) == 0; }
  int pick(int least, int many) { return odd() ? (r(3) == 0 ? ODD[r(ODD.length)] : least + many - 1 + r(3)) : least + r(many); }
  int who() { return odd() ? ODD[r(ODD.length)] : r(m.s.people.size()); }
  int which() { return odd() ? ODD[r(ODD.length)] : r(m.s.trials.size()); }
  int when() { return odd() ? ODD[r(ODD.length)] : r(8) == 0 ? 9999 - r(3) : r(span); }

  void same(String call, long got, long want) {
    last.add(call + " -> " + got);
    if (got != want) { wrong++; last.add("due is " + want); }
  }

  void one() {
    if (!pending.isEmpty()) { // a text is written sign by sign
      char c = pending.charAt(0);
      pending = pending.substring(1);
      same("write " + pendingText + " " + (int) c, x.write(pendingText, c), m.write(pendingText, c));
      return;
    }
    int kind = r(48);
    if (kind < 24) tell(kind); else ask(kind - 24);
  }

  void tell(int kind) {
    int a, b, c, d;
    switch (kind) {
      case 0: case 1: case 2: case 3:
        a = pick(0, 4); b = pick(0, 4); c = pick(0, r(3) == 0 ? 1001 : 20); d = pick(0, 100);
        same("person " + a + " " + b + " " + c + " " + d, x.person(a, b, c, d), m.person(a, b, c, d)); break;
      case 4: case 5:
        a = who(); b = pick(0, r(2) == 0 ? 10 : 3); c = when();
        same("kin " + a + " " + b + " " + c, x.kin(a, b, c), m.kin(a, b, c)); break;
      case 6:
        if (r(3) != 0) break;
        a = odd() ? ODD[r(ODD.length)] : random.nextInt() & random.nextInt(1 << Math.min(30, m.s.people.size() + 1));
        if (r(2) == 0) a |= r(1 << m.s.people.size());
        b = pick(0, 200); c = when();
        same("roll " + a + " " + b + " " + c, x.roll(a, b, c), m.roll(a, b, c)); break;
      case 7: case 8: case 9:
        pendingText = r(4); pending = madeText();
        same("erase " + pendingText, x.erase(pendingText), m.erase(pendingText)); break;
      case 10:
        a = pick(0, 4); b = pick(0, 128);
        same("write " + a + " " + b, x.write(a, b), m.write(a, b)); break;
      case 11: case 12: case 13:
        a = pick(0, 4); b = pick(0, 2); c = when();
        same("act " + a + " " + b + " " + c, x.act(a, b, c), m.act(a, b, c)); break;
      case 14:
        a = odd() ? ODD[r(ODD.length)] : r(m.s.acts.size()); b = when();
        same("strikeOut " + a + " " + b, x.strikeOut(a, b), m.strikeOut(a, b)); break;
      case 15: case 16: trial(); break;
      case 17: case 18:
        a = which(); b = who(); boolean is = r(3) != 0;
        same("away " + a + " " + b + " " + is, x.away(a, b, is), m.away(a, b, is)); break;
      case 19: case 20: case 21:
        a = which(); b = pick(0, 2); c = who(); d = pick(-100, r(2) == 0 ? 201 : 104);
        same("like " + a + " " + b + " " + c + " " + d, x.like(a, b, c, d), m.like(a, b, c, d)); break;
      case 22:
        a = pick(0, 101); b = pick(0, 1001);
        same("sums " + a + " " + b, x.sums(a, b), m.sums(a, b)); break;
      default:
        a = pick(0, 2);
        if (r(2) == 0) same("image " + a, x.image(a), m.image(a)); else same("from " + a, x.from(a), m.from(a));
    }
  }

  String madeText() {
    if (r(3) == 0) return TEXTS[r(TEXTS.length)];
    StringBuilder b = new StringBuilder();
    if (r(4) == 0) { // any signs
      for (int i = r(20); i > 0; i--) b.append("altpsy()!-+*/<>=&| 0127".charAt(r(23)));
      return b.toString();
    }
    value(b, 4);
    if (r(5) == 0 && b.length() > 0) b.setCharAt(r(b.length()), "altpsy()!-+*/<>=&| 09~b".charAt(r(23)));
    return b.length() > 55 ? b.substring(0, 55) : b.toString();
  }

  void value(StringBuilder b, int deep) {
    int kind = deep == 0 ? r(2) : r(9);
    if (r(6) == 0) b.append(' ');
    if (kind == 0) b.append("altpsy".charAt(r(6)));
    else if (kind == 1) b.append(r(3) == 0 ? r(2000000) : r(60));
    else if (kind == 2) { b.append('('); value(b, deep - 1); b.append(')'); }
    else if (kind == 3) { b.append(r(2) == 0 ? '!' : '-'); value(b, deep - 1); }
    else { value(b, deep - 1); b.append("+-*/<>=&||&".charAt(r(11))); value(b, deep - 1); }
  }

  void trial() {
    int n = m.s.trials.size();
    int first = n == 0 ? 0 : m.s.trials.get(n - 1).day;
    int[] a = {odd() ? when() : Math.min(9999, first + r(Math.max(2, span / 9))), pick(1, r(2) == 0 ? 9 : 3), pick(1, r(2) == 0 ? 8 : 3),
        pick(-1, r(2) == 0 ? 11 : 4), pick(-1, r(2) == 0 ? 11 : 4), r(3) == 0 ? pick(-1, 5) : -1, pick(0, 5), random.nextInt(), pick(1, r(2) == 0 ? 24 : 6)};
    if (r(20) == 0) a[7] = ODD[r(ODD.length)];
    same("trial " + java.util.Arrays.toString(a), x.trial(a[0], a[1], a[2], a[3], a[4], a[5], a[6], a[7], a[8]), m.trial(a));
  }

  void ask(int kind) {
    int a, b, c, d;
    switch (kind) {
      case 0: a = when(); same("rollOf " + a, x.rollOf(a), m.rollOf(a)); break;
      case 1: a = pick(0, 4); same("fault " + a, x.fault(a), m.fault(a)); break;
      case 2: case 3: a = pick(0, 4); b = who(); c = when(); same("tells " + a + " " + b + " " + c, x.tells(a, b, c), m.tells(a, b, c)); break;
      case 4: a = pick(0, 2); b = when(); same("force " + a + " " + b, x.force(a, b), m.force(a, b)); break;
      case 5: a = who(); b = when(); c = pick(0, 2); same("may " + a + " " + b + " " + c, x.may(a, b, c), m.may(a, b, c)); break;
      case 6: a = which(); same("box " + a, x.box(a), m.box(a)); break;
      case 7: a = which(); b = pick(0, 24); same("drawn " + a + " " + b, x.drawn(a, b), m.drawn(a, b)); break;
      case 8: case 9: case 10: a = which(); b = who(); same("slip " + a + " " + b, x.slip(a, b), m.slip(a, b)); break;
      case 11: a = which(); same("jury " + a, x.jury(a), m.jury(a)); break;
      case 12: a = which(); b = pick(0, 4); same("about " + a + " " + b, x.about(a, b), m.about(a, b)); break;
      case 13: a = when(); same("bad " + a, x.bad(a), m.bad(a)); break;
      case 14: a = who(); b = when(); same("owed " + a + " " + b, x.owed(a, b), m.owed(a, b)); break;
      case 15: a = pick(0, 41); b = r(8) == 0 ? pick(0, 41) : r(a + 1); c = r(8) == 0 ? pick(0, 41) : r(a + 1); d = pick(0, r(2) == 0 ? 5 : 41);
        same("chance " + a + " " + b + " " + c + " " + d, x.chance(a, b, c, d), m.chance(a, b, c, d)); break;
      case 16: a = which(); b = pick(0, 2); same("twelve " + a + " " + b, x.twelve(a, b), m.twelve(a, b)); break;
      case 17: a = pick(0, 2); same("part " + a, x.part(a), m.part(a)); break;
      case 18: case 19: a = which(); b = pick(0, 4); c = pick(0, 2); same("beside " + a + " " + b + " " + c, x.beside(a, b, c), m.beside(a, b, c)); break;
      case 20: a = odd() ? ODD[r(ODD.length)] : r(1 << m.s.trials.size()); b = r(2) == 0 ? -1 : which(); same("clash " + a + " " + b, x.clash(a, b), m.clash(a, b)); break;
      case 21: a = pick(0, 4); b = when(); same("turn " + a + " " + b, x.turn(a, b), m.turn(a, b)); break;
      case 22: a = pick(0, 6); same("count " + a, x.count(a), m.count(a)); break;
      default: same("digest", x.digest(), m.digest());
    }
  }
}

import java.math.BigInteger;
import java.util.ArrayList;
import java.util.List;
import java.util.TreeSet;

/**
 * The document once more, written apart from the program: nothing is kept that can be worked out,
 * texts are worked by descent, sets are sets. Slow, and meant only to be compared with.
 */
final class PlainModel {
  static final long BAD = -2, NO = -3, FULL = -4, NONE = -1;

  record Person(int parish, int trade, int land, int born) { }
  record Fact(int person, int family, int known) { }
  record Roll(int people, int year, int known) { }
  record Act(int sort, int from, int struck, String text) { }

  static final class Trial {
    int day, days, seats, side0, side1, trade, strikes, lot, slips;
    TreeSet<Integer> stay = new TreeSet<>();
    int[][] likes = new int[2][30];

    Trial copy() {
      Trial t = new Trial();
      t.day = day; t.days = days; t.seats = seats; t.side0 = side0; t.side1 = side1;
      t.trade = trade; t.strikes = strikes; t.lot = lot; t.slips = slips;
      t.stay = new TreeSet<>(stay);
      t.likes = new int[][] {likes[0].clone(), likes[1].clone()};
      return t;
    }

    boolean meets(Trial other, int wait, int otherWait) {
      for (int d = day + wait; d < day + wait + days; d++) {
        if (d >= other.day + otherWait && d < other.day + otherWait + other.days) return true;
      }
      return false;
    }
  }

  static final class State {
    List<Person> people = new ArrayList<>();
    List<Fact> facts = new ArrayList<>();
    List<Roll> rolls = new ArrayList<>();
    List<Act> acts = new ArrayList<>();
    List<Trial> trials = new ArrayList<>();
    String[] texts = {"", "", "", ""};
    int pay = 5, fine = 20;

    State copy() {
      State s = new State();
      s.people.addAll(people); s.facts.addAll(facts); s.rolls.addAll(rolls); s.acts.addAll(acts);
      for (Trial t : trials) s.trials.add(t.copy());
      s.texts = texts.clone();
      s.pay = pay; s.fine = fine;
      return s;
    }
  }

  static final class Outcome {
    TreeSet<Integer> box = new TreeSet<>(), away = new TreeSet<>(), jury = new TreeSet<>(), passers = new TreeSet<>();
    List<Integer> drawn = new ArrayList<>(), left = new ArrayList<>();
    List<List<Integer>> struck = List.of(new ArrayList<>(), new ArrayList<>());
    int lot;
  }

  State s = new State();
  State[] images = new State[2];
  long above = 0, below = 1;
  private List<Outcome> known = null;

  static boolean in(long v, long a, long b) { return v >= a && v <= b; }
  static boolean day(int d) { return in(d, 0, 9999); }
  boolean isPerson(int p) { return in(p, 0, s.people.size() - 1); }
  boolean isTrial(int t) { return in(t, 0, s.trials.size() - 1); }
  static int year(int d) { return 100 + d / 100; }

  static long bits(Iterable<Integer> set) {
    long b = 0;
    for (int i : set) b += 1L << i;
    return b;
  }

  // ---- texts

  static final class Fault extends Exception {
    final int number;
    Fault(int number) { super("" + number); this.number = number; }
  }

  interface Letters { long of(char c); }

  /** Descends through the grammar as the document words it. */
  static final class Descent {
    final String text; final Letters letters; int at = 0, open = 0;
    Descent(String text, Letters letters) { this.text = text; this.letters = letters; }

    int peek() {
      while (at < text.length() && text.charAt(at) == ' ') at++;
      return at < text.length() ? text.charAt(at) : -1;
    }
    boolean take(char c) { if (peek() == c) { at++; return true; } return false; }
    Fault here() { peek(); return new Fault(10 * at + 1); }

    long all() throws Fault { long v = value(); if (peek() != -1) throw here(); return v; }
    long value() throws Fault {
      long v = both(); 
      while (take('|')) { long w = both(); v = v != 0 | w != 0 ? 1 : 0; }
      return v;
    }
    long both() throws Fault {
      long v = held();
      while (take('&')) { long w = held(); v = v != 0 & w != 0 ? 1 : 0; }
      return v;
    }
    long held() throws Fault {
      long v = sum();
      if (take('<')) return v < sum() ? 1 : 0;
      if (take('>')) return v > sum() ? 1 : 0;
      if (take('=')) return v == sum() ? 1 : 0;
      return v;
    }
    long sum() throws Fault {
      long v = term();
      while (true) {
        if (take('+')) v += term(); else if (take('-')) v -= term(); else return v;
      }
    }
    long term() throws Fault {
      long v = unit();
      while (true) {
        if (take('*')) v *= unit();
        else if (take('/')) { long w = unit(); v = w == 0 ? 0 : w == -1 ? -v : v / w; }
        else return v;
      }
    }
    long unit() throws Fault {
      int c = peek();
      if (c == -1) throw here();
      if (take('!')) return unit() == 0 ? 1 : 0;
      if (take('-')) return -unit();
      if (c == '(') {
        if (open == 8) throw new Fault(10 * at + 3);
        at++; open++;
        long v = value();
        if (!take(')')) throw here();
        open--;
        return v;
      }
      if (Character.isDigit(c)) {
        int first = at;
        while (at < text.length() && Character.isDigit(text.charAt(at))) at++;
        if (at - first > 6) throw new Fault(10 * first + 2);
        return Long.parseLong(text.substring(first, at));
      }
      if ("altpsy".indexOf(c) >= 0) { at++; return letters.of((char) c); }
      throw here();
    }
  }

  static long faultOf(String text) {
    try { new Descent(text, c -> 0).all(); return NONE; } catch (Fault f) { return f.number; }
  }

  /** The TRIALS that count are those worked out so far: all that begin ahead of the DAY are among them. */
  long work(String text, int p, int d, List<Outcome> ahead) {
    Person who = s.people.get(p);
    try {
      return new Descent(text, c -> {
        int times = 0, since = 999;
        for (int t = 0; t < ahead.size(); t++) {
          int began = s.trials.get(t).day;
          if (began < d && ahead.get(t).jury.contains(p)) { times++; since = year(d) - year(began); }
        }
        return switch (c) {
          case 'a' -> year(d) - who.born; case 'l' -> who.land; case 't' -> who.trade;
          case 'p' -> who.parish; case 's' -> times; default -> since;
        };
      }).all();
    } catch (Fault f) { throw new IllegalStateException(); }
  }

  // ---- trials

  int inForce(int sort, int d) {
    int best = -1;
    for (int i = 0; i < s.acts.size(); i++) {
      Act a = s.acts.get(i);
      if (a.sort != sort || a.from > d || a.struck != -1 && a.struck <= d) continue;
      if (best == -1 || a.from >= s.acts.get(best).from) best = i;
    }
    return best;
  }

  boolean holds(int sort, int p, int d, List<Outcome> ahead, String instead, int insteadSort) {
    int force = inForce(sort, d);
    String text = instead != null && sort == insteadSort ? instead : force == -1 ? null : s.acts.get(force).text;
    return text == null ? sort == 0 : work(text, p, d, ahead) != 0;
  }

  TreeSet<Integer> rollAt(int d) {
    Roll best = null;
    for (Roll r : s.rolls) if (r.known <= d && (best == null || r.year >= best.year)) best = r;
    TreeSet<Integer> set = new TreeSet<>();
    for (int i = 0; i < s.people.size(); i++) if (best == null || (best.people >> i & 1) == 1) set.add(i);
    return set;
  }

  boolean isKin(int p, Trial t, int d) {
    for (Fact f : s.facts) if (f.person == p && f.known <= d && (f.family == t.side0 || f.family == t.side1)) return true;
    return false;
  }

  Outcome hear(int number, List<Outcome> ahead, String instead, int sort) {
    Trial t = s.trials.get(number);
    Outcome o = new Outcome();
    List<Integer> passers = new ArrayList<>();
    TreeSet<Integer> listed = rollAt(t.day);
    for (int p = 0; p < s.people.size(); p++) {
      boolean sits = false;
      for (int u = 0; u < number; u++) sits |= s.trials.get(u).meets(t, 0, 0) && ahead.get(u).jury.contains(p);
      if (sits || isKin(p, t, t.day) || !holds(0, p, t.day, ahead, instead, sort)) continue;
      boolean boxed = listed.contains(p) && (t.trade == -1 || s.people.get(p).trade == t.trade)
          && !holds(1, p, t.day, ahead, instead, sort);
      if (boxed) o.box.add(p); else passers.add(p);
    }
    List<Integer> in = new ArrayList<>(o.box);
    o.lot = t.lot;
    while (o.drawn.size() < t.slips && !in.isEmpty()) {
      o.lot = o.lot * 1103515245 + 12345;
      o.drawn.add(in.remove((o.lot >>> 16) % in.size()));
    }
    for (int p : o.drawn) if (t.stay.contains(p)) o.away.add(p); else o.left.add(p);
    boolean[] through = new boolean[2];
    for (int side = 0; !through[0] || !through[1]; side = 1 - side) {
      int worst = -1;
      for (int i = 0; i < o.left.size(); i++) {
        if (worst == -1 || t.likes[side][o.left.get(i)] <= t.likes[side][o.left.get(worst)]) worst = i;
      }
      through[side] = o.struck.get(side).size() == t.strikes || worst == -1 || t.likes[side][o.left.get(worst)] >= 0;
      if (!through[side]) o.struck.get(side).add(o.left.remove(worst));
    }
    for (int p : o.left) if (o.jury.size() < t.seats) o.jury.add(p);
    for (int p : passers) if (o.jury.size() < t.seats) { o.jury.add(p); o.passers.add(p); }
    if (o.jury.size() < t.seats) { o.jury.clear(); o.passers.clear(); }
    return o;
  }

  List<Outcome> hearings() {
    if (known == null) {
      List<Outcome> all = new ArrayList<>();
      for (int i = 0; i < s.trials.size(); i++) all.add(hear(i, all, null, 0));
      known = all;
    }
    return known;
  }

  // ---- the calls

  long person(int parish, int trade, int land, int born) {
    if (!in(parish, 0, 3) || !in(trade, 0, 3) || !in(land, 0, 1000) || !in(born, 0, 99)) return BAD;
    if (s.people.size() == 30) return FULL;
    known = null;
    s.people.add(new Person(parish, trade, land, born));
    return s.people.size() - 1;
  }

  long kin(int p, int family, int from) {
    if (!isPerson(p) || !in(family, 0, 9) || !day(from)) return BAD;
    if (s.facts.size() == 40) return FULL;
    known = null;
    s.facts.add(new Fact(p, family, from));
    return s.facts.size() - 1;
  }

  long roll(int people, int year, int from) {
    if (!in(people, 0, (1L << s.people.size()) - 1) || !in(year, 0, 199) || !day(from)) return BAD;
    if (s.rolls.size() == 4) return FULL;
    known = null;
    s.rolls.add(new Roll(people, year, from));
    return s.rolls.size() - 1;
  }

  long rollOf(int d) { return day(d) ? bits(rollAt(d)) : BAD; }

  long write(int t, int c) {
    if (!in(t, 0, 3) || !in(c, 0, 127)) return BAD;
    if (s.texts[t].length() == 50) return FULL;
    s.texts[t] += (char) c;
    return s.texts[t].length();
  }

  long erase(int t) {
    if (!in(t, 0, 3)) return BAD;
    int old = s.texts[t].length();
    s.texts[t] = "";
    return old;
  }

  long fault(int t) { return in(t, 0, 3) ? faultOf(s.texts[t]) : BAD; }

  long tells(int t, int p, int d) {
    if (!in(t, 0, 3) || !isPerson(p) || !day(d)) return -2000000000000000000L;
    return faultOf(s.texts[t]) != NONE ? -3000000000000000000L : work(s.texts[t], p, d, hearings());
  }

  long act(int t, int sort, int from) {
    if (!in(t, 0, 3) || !in(sort, 0, 1) || !day(from)) return BAD;
    if (faultOf(s.texts[t]) != NONE) return NO;
    if (s.acts.size() == 20) return FULL;
    known = null;
    s.acts.add(new Act(sort, from, -1, s.texts[t]));
    return s.acts.size() - 1;
  }

  long strikeOut(int a, int d) {
    if (!in(a, 0, s.acts.size() - 1) || !day(d)) return BAD;
    Act old = s.acts.get(a);
    if (old.struck != -1) return NO;
    known = null;
    s.acts.set(a, new Act(old.sort, old.from, d, old.text));
    return 1;
  }

  long force(int sort, int d) { return in(sort, 0, 1) && day(d) ? inForce(sort, d) : BAD; }

  long may(int p, int d, int what) {
    if (!isPerson(p) || !day(d) || !in(what, 0, 1)) return BAD;
    return holds(what, p, d, hearings(), null, 0) ? 1 : 0;
  }

  long trial(int[] a) {
    int last = s.trials.isEmpty() ? 0 : s.trials.get(s.trials.size() - 1).day;
    if (!in(a[0], last, 9999) || !in(a[1], 1, 9) || !in(a[2], 1, 8) || !in(a[3], -1, 9) || !in(a[4], -1, 9)
        || !in(a[5], -1, 3) || !in(a[6], 0, 4) || !in(a[8], 1, 24)) return BAD;
    if (s.trials.size() == 10) return FULL;
    known = null;
    Trial t = new Trial();
    t.day = a[0]; t.days = a[1]; t.seats = a[2]; t.side0 = a[3]; t.side1 = a[4]; t.trade = a[5];
    t.strikes = a[6]; t.lot = a[7]; t.slips = a[8];
    s.trials.add(t);
    return s.trials.size() - 1;
  }

  long away(int t, int p, boolean is) {
    if (!isTrial(t) || !isPerson(p)) return BAD;
    known = null;
    return (is ? s.trials.get(t).stay.add(p) : s.trials.get(t).stay.remove(p)) ? 1 : NO;
  }

  long like(int t, int side, int p, int v) {
    if (!isTrial(t) || !in(side, 0, 1) || !isPerson(p) || !in(v, -100, 100)) return -1000;
    known = null;
    int old = s.trials.get(t).likes[side][p];
    s.trials.get(t).likes[side][p] = v;
    return old;
  }

  long box(int t) { return isTrial(t) ? bits(hearings().get(t).box) : BAD; }

  long drawn(int t, int i) {
    if (!isTrial(t) || i < 0) return BAD;
    List<Integer> order = hearings().get(t).drawn;
    return i < order.size() ? order.get(i) : NONE;
  }

  long slip(int t, int p) {
    if (!isTrial(t) || !isPerson(p)) return BAD;
    Outcome o = hearings().get(t);
    if (o.passers.contains(p)) return 7;
    if (o.jury.contains(p)) return 5;
    if (o.left.contains(p)) return 6;
    if (o.struck.get(1).contains(p)) return 4;
    if (o.struck.get(0).contains(p)) return 3;
    if (o.away.contains(p)) return 2;
    return o.box.contains(p) ? 1 : 0;
  }

  long jury(int t) { return isTrial(t) ? bits(hearings().get(t).jury) : BAD; }

  long about(int t, int what) {
    if (!isTrial(t) || !in(what, 0, 3)) return -2000000000;
    Outcome o = hearings().get(t);
    return what == 0 ? o.passers.size() : what == 3 ? o.lot : o.struck.get(what - 1).size();
  }

  long bad(int d) {
    if (!day(d)) return BAD;
    TreeSet<Integer> set = new TreeSet<>();
    for (int t = 0; t < s.trials.size(); t++) for (int p : hearings().get(t).jury) if (isKin(p, s.trials.get(t), d)) set.add(t);
    return bits(set);
  }

  long sums(int pay, int fine) {
    if (!in(pay, 0, 100) || !in(fine, 0, 1000)) return BAD;
    s.pay = pay; s.fine = fine;
    return 1;
  }

  long owed(int p, int d) {
    if (!isPerson(p) || !day(d)) return -1000000;
    long sum = 0;
    for (int t = 0; t < s.trials.size(); t++) {
      if (s.trials.get(t).day > d) continue;
      if (hearings().get(t).jury.contains(p)) sum += (long) s.pay * s.trials.get(t).days;
      if (hearings().get(t).away.contains(p)) sum -= s.fine;
    }
    return sum;
  }

  // ---- chances, days

  static BigInteger ways(int n, int k) {
    if (k < 0 || k > n) return BigInteger.ZERO;
    if (k == 0) return BigInteger.ONE;
    return ways(n - 1, k - 1).multiply(BigInteger.valueOf(n)).divide(BigInteger.valueOf(k));
  }

  long set(BigInteger good, BigInteger all) {
    if (good.signum() == 0 || all.signum() == 0) { above = 0; below = 1; return 0; }
    BigInteger g = good.gcd(all);
    above = good.divide(g).longValueExact(); below = all.divide(g).longValueExact();
    return 1;
  }

  long chance(int n, int k, int m, int j) {
    if (!in(n, 0, 40) || !in(k, 0, n) || !in(m, 0, n) || !in(j, 0, 40)) return BAD;
    BigInteger good = BigInteger.ZERO;
    for (int i = j; i <= 40; i++) good = good.add(ways(k, i).multiply(ways(n - k, m - i)));
    return set(good, ways(n, m));
  }

  long twelve(int t, int what) {
    if (!isTrial(t) || !in(what, 0, 1)) return BAD;
    int[] many = new int[4];
    int all = 0;
    for (int p = 0; p < s.people.size(); p++) {
      if (what == 0 ? hearings().get(t).box.contains(p) : holds(0, p, s.trials.get(t).day, hearings(), null, 0)) {
        many[s.people.get(p).parish]++; all++;
      }
    }
    BigInteger good = BigInteger.ZERO;
    for (int n : many) good = good.add(ways(n, s.trials.get(t).seats));
    return set(good, ways(all, s.trials.get(t).seats));
  }

  long part(int what) { return what == 0 ? above : what == 1 ? below : -1; }

  long beside(int t, int text, int sort) {
    if (!isTrial(t) || !in(text, 0, 3) || !in(sort, 0, 1)) return BAD;
    if (faultOf(s.texts[text]) != NONE) return NO;
    return bits(hearings().get(t).jury) ^ bits(hear(t, hearings(), s.texts[text], sort).jury);
  }

  boolean foes(Trial a, Trial b) {
    for (int f : new int[] {a.side0, a.side1}) if (f != -1 && (f == b.side0 || f == b.side1)) return true;
    return a.trade != -1 && a.trade == b.trade;
  }

  long clash(int set, int what) {
    if (set < 0 || set >= 1 << s.trials.size() || Integer.bitCount(set) > 6) return -10;
    if (what != -1 && (!isTrial(what) || (set >> what & 1) == 0)) return -10;
    List<Integer> which = new ArrayList<>();
    for (int t = 0; t < s.trials.size(); t++) if ((set >> t & 1) == 1) which.add(t);
    int rows = 1;
    for (int i = 0; i < which.size(); i++) rows *= 6;
    int[] best = null;
    int least = 99;
    for (int row = 0; row < rows; row++) {
      int[] waits = new int[which.size()];
      int rest = row, sum = 0;
      for (int i = which.size() - 1; i >= 0; i--) { waits[i] = rest % 6; rest /= 6; sum += waits[i]; }
      if (sum >= least) continue;
      boolean well = true;
      for (int i = 0; i < waits.length && well; i++) for (int j = 0; j < i; j++) {
        Trial a = s.trials.get(which.get(i)), b = s.trials.get(which.get(j));
        if (foes(a, b) && a.meets(b, waits[i], waits[j])) well = false;
      }
      if (well) { best = waits; least = sum; }
    }
    if (best == null) return -5;
    return what == -1 ? least : best[which.indexOf(what)];
  }

  long turn(int parish, int d) {
    if (!in(parish, 0, 3) || !day(d)) return BAD;
    int best = -1;
    for (int p : rollAt(d)) {
      if (s.people.get(p).parish != parish || !holds(0, p, d, hearings(), null, 0)) continue;
      if (best == -1) { best = p; continue; }
      long s0 = work("s", p, d, hearings()), s1 = work("s", best, d, hearings());
      if (s0 < s1 || s0 == s1 && work("y", p, d, hearings()) > work("y", best, d, hearings())) best = p;
    }
    return best;
  }

  // ---- images

  long image(int i) {
    if (!in(i, 0, 1)) return BAD;
    images[i] = s.copy();
    return 1;
  }

  long from(int i) {
    if (!in(i, 0, 1)) return BAD;
    if (images[i] == null) return NO;
    known = null;
    s = images[i].copy();
    return 1;
  }

  long count(int what) {
    switch (what) {
      case 0: return s.people.size();
      case 1: return s.facts.size();
      case 2: return s.rolls.size();
      case 3: return s.acts.size();
      case 4: return s.trials.size();
      case 5: return hearings().stream().filter(o -> !o.jury.isEmpty()).count();
      default: return BAD;
    }
  }

  long digest() {
    List<Long> vs = new ArrayList<>();
    for (int i = 0; i < 6; i++) vs.add(count(i));
    for (Person p : s.people) for (int v : new int[] {p.parish, p.trade, p.land, p.born}) vs.add((long) v);
    for (Fact f : s.facts) for (int v : new int[] {f.person, f.family, f.known}) vs.add((long) v);
    for (Roll r : s.rolls) for (int v : new int[] {r.people, r.year, r.known}) vs.add((long) v);
    for (Act a : s.acts) {
      for (int v : new int[] {a.sort, a.from, a.struck, a.text.length()}) vs.add((long) v);
      for (char c : a.text.toCharArray()) vs.add((long) c);
    }
    for (int t = 0; t < s.trials.size(); t++) {
      vs.add(box(t)); vs.add(jury(t));
      for (int w = 0; w < 4; w++) vs.add(about(t, w));
    }
    for (String text : s.texts) {
      vs.add((long) text.length());
      for (char c : text.toCharArray()) vs.add((long) c);
    }
    vs.add((long) s.pay); vs.add((long) s.fine); vs.add(above); vs.add(below);
    long h = 367;
    for (long v : vs) h = 31 * h + v;
    return h;
  }
}

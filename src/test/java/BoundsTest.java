import java.util.ArrayList;
import java.util.List;

/**
 * For each number of each call the last that is as told and the first that is not, on both sides; for each
 * refusal that it changed nothing; and, where a call could be refused for more than one reason, which is told.
 */
public final class BoundsTest extends Helps {
  private static final long BAD_TELLS = -2000000000000000000L, NO_TELLS = -3000000000000000000L;
  private static final int LIKE_BAD = -1000, ABOUT_BAD = -2000000000, OWED_BAD = -1000000, CLASH_BAD = -10, CLASH_NO = -5;

  interface Call { long of(SwornLists x, int... a); }
  interface Table { SwornLists made(); }

  public static void main(String[] args) {
    eachNumberOfEachCall();
    numbersThatHangOnOthers();
    onATableOfNothing();
    refusedWithNo();
    refusedWithFull();
    theFirstReasonIsTold();
    roomAgainBehindAnImage();
    end("BoundsTest");
  }

  // ---- tables

  /** 4 people, 3 facts, 2 rolls, 3 acts (1 struck out), 3 trials, texts 0 (well), 1 (with a FAULT), 2 (empty), IMAGE 0. */
  private static SwornLists some() {
    SwornLists x = people(4);
    x.kin(0, 1, 40);
    text(x, 0, "l<9");
    x.act(0, 0, 5);
    plainTrial(x, 3, 2, 1, 2);
    x.like(0, 1, 2, -7);
    x.image(0);
    x.kin(3, 2, 10);
    x.kin(1, 1, 60);
    x.roll(15, 100, 0);
    x.roll(7, 101, 30);
    text(x, 1, "l<");
    x.act(0, 0, 9);
    x.strikeOut(1, 50);
    text(x, 3, "l=3");
    x.act(3, 1, 20);
    x.trial(20, 3, 2, 1, 2, NONE, 2, 77, 3);
    x.trial(22, 1, 1, NONE, 3, 2, 1, -5, 24);
    x.like(1, 0, 1, -4);
    x.like(1, 1, 0, -100);
    x.like(2, 0, 3, 100);
    x.away(1, 2, true);
    x.away(1, 3, true);
    x.away(2, 2, true);
    x.sums(9, 70);
    x.chance(10, 4, 3, 2);
    return x;
  }

  /** As many of all as there may be. */
  private static SwornLists full() {
    SwornLists x = people(30);
    for (int i = 0; i < 40; i++) x.kin(i % 30, i % 10, 100 * i);
    for (int i = 0; i < 4; i++) x.roll((1 << 30) - 1 - i, 100 + i, 10 * i);
    text(x, 0, "l<29");
    for (int i = 0; i < 20; i++) x.act(0, i % 2, 9980 + i);
    for (int i = 0; i < 10; i++) x.trial(90 * i, 9, 8, i, NONE, NONE, 2, i, 24);
    text(x, 1, "(");
    for (int i = 0; i < 50; i++) x.write(2, ' ');
    x.strikeOut(0, 9999);
    x.like(0, 0, 1, -1);
    x.chance(6, 2, 2, 2);
    return x;
  }

  /** All that can be asked of some(), and of its IMAGES; the asking uses the table up. */
  private static List<Long> look(SwornLists x, int people, int trials) {
    List<Long> seen = new ArrayList<>();
    seen.add(x.digest());
    seen.add(x.part(0));
    seen.add(x.part(1));
    for (int t = 0; t < trials; t++) {
      for (int p = 0; p < people; p++) {
        seen.add((long) x.slip(t, p));
        seen.add((long) x.like(t, 0, p, 0));
        seen.add((long) x.like(t, 1, p, 0));
        seen.add((long) x.away(t, p, true));
      }
    }
    seen.add((long) x.clash(7, NONE));
    for (int i = 0; i < 2; i++) {
      seen.add((long) x.from(i));
      seen.add(x.digest());
      seen.add((long) x.like(0, 1, 2, 0));
    }
    return seen;
  }

  private static String name(String call, int[] a) {
    StringBuilder b = new StringBuilder(call).append('(');
    for (int i = 0; i < a.length; i++) b.append(i == 0 ? "" : ", ").append(a[i]);
    return b.append(')').toString();
  }

  private static void refused(Table table, String name, Call call, long want, int... a) {
    SwornLists x = table.made();
    due(name(name, a), call.of(x, a), want);
    boolean same = look(x, 4, 2).equals(look(table.made(), 4, 2));
    due(name(name, a) + " changed nothing", same ? 1 : 0, 1);
  }

  private static void taken(Table table, String name, Call call, long want, int... a) {
    due(name(name, a), call.of(table.made(), a), want);
  }

  // ---- each number by itself

  /** A call with its numbers as told, and for each of them the lowest and the highest that is. */
  private static void bounds(String name, Call call, long bad, int[] well, int[] low, int[] high) {
    for (int i = 0; i < well.length; i++) {
      for (int v : new int[] {low[i], high[i]}) {
        int[] a = well.clone();
        a[i] = v;
        due(name(name, a) + " is taken", call.of(some(), a) != bad ? 1 : 0, 1);
      }
      for (long v : new long[] {low[i] - 1L, high[i] + 1L, MIN, MAX, MIN + 1L, low[i] - 32L, high[i] + 32L, low[i] + 256L * 65536}) {
        if (v != (int) v || v >= low[i] && v <= high[i]) continue;
        int[] a = well.clone();
        a[i] = (int) v;
        refused(BoundsTest::some, name, call, bad, a);
      }
    }
  }

  private static int[] of(int... a) { return a; }

  private static void eachNumberOfEachCall() {
    bounds("person", (x, a) -> x.person(a[0], a[1], a[2], a[3]), BAD, of(1, 1, 1, 1), of(0, 0, 0, 0), of(3, 3, 1000, 99));
    bounds("kin", (x, a) -> x.kin(a[0], a[1], a[2]), BAD, of(1, 1, 1), of(0, 0, 0), of(3, 9, 9999));
    bounds("roll", (x, a) -> x.roll(a[0], a[1], a[2]), BAD, of(1, 1, 1), of(0, 0, 0), of(15, 199, 9999));
    bounds("rollOf", (x, a) -> x.rollOf(a[0]), BAD, of(1), of(0), of(9999));
    bounds("write", (x, a) -> x.write(a[0], a[1]), BAD, of(1, 1), of(0, 0), of(3, 127));
    bounds("erase", (x, a) -> x.erase(a[0]), BAD, of(1), of(0), of(3));
    bounds("fault", (x, a) -> x.fault(a[0]), BAD, of(1), of(0), of(3));
    bounds("tells", (x, a) -> x.tells(a[0], a[1], a[2]), BAD_TELLS, of(0, 1, 1), of(0, 0, 0), of(3, 3, 9999));
    bounds("act", (x, a) -> x.act(a[0], a[1], a[2]), BAD, of(0, 1, 1), of(0, 0, 0), of(3, 1, 9999));
    bounds("strikeOut", (x, a) -> x.strikeOut(a[0], a[1]), BAD, of(0, 1), of(0, 0), of(2, 9999));
    bounds("force", (x, a) -> x.force(a[0], a[1]), BAD, of(0, 1), of(0, 0), of(1, 9999));
    bounds("may", (x, a) -> x.may(a[0], a[1], a[2]), BAD, of(1, 1, 1), of(0, 0, 0), of(3, 9999, 1));
    bounds("trial", BoundsTest::tried, BAD, of(22, 1, 1, 1, 1, 1, 1, 1, 1), of(22, 1, 1, NONE, NONE, NONE, 0, MIN, 1),
        of(9999, 9, 8, 9, 9, 3, 4, MAX, 24));
    bounds("away", (x, a) -> x.away(a[0], a[1], a[2] == 1), BAD, of(1, 1, 1), of(0, 0, MIN), of(2, 3, MAX));
    bounds("like", (x, a) -> x.like(a[0], a[1], a[2], a[3]), LIKE_BAD, of(1, 1, 1, 1), of(0, 0, 0, -100), of(2, 1, 3, 100));
    bounds("box", (x, a) -> x.box(a[0]), BAD, of(1), of(0), of(2));
    bounds("drawn", (x, a) -> x.drawn(a[0], a[1]), BAD, of(1, 1), of(0, 0), of(2, MAX));
    bounds("slip", (x, a) -> x.slip(a[0], a[1]), BAD, of(1, 1), of(0, 0), of(2, 3));
    bounds("jury", (x, a) -> x.jury(a[0]), BAD, of(1), of(0), of(2));
    bounds("about", (x, a) -> x.about(a[0], a[1]), ABOUT_BAD, of(1, 1), of(0, 0), of(2, 3));
    bounds("bad", (x, a) -> x.bad(a[0]), BAD, of(1), of(0), of(9999));
    bounds("sums", (x, a) -> x.sums(a[0], a[1]), BAD, of(1, 1), of(0, 0), of(100, 1000));
    bounds("owed", (x, a) -> x.owed(a[0], a[1]), OWED_BAD, of(1, 1), of(0, 0), of(3, 9999));
    bounds("chance", (x, a) -> x.chance(a[0], a[1], a[2], a[3]), BAD, of(4, 3, 2, 1), of(3, 0, 0, 0), of(40, 4, 4, 40));
    bounds("twelve", (x, a) -> x.twelve(a[0], a[1]), BAD, of(1, 1), of(0, 0), of(2, 1));
    bounds("part", (x, a) -> x.part(a[0]), -1, of(1), of(0), of(1));
    bounds("beside", (x, a) -> x.beside(a[0], a[1], a[2]), BAD, of(1, 0, 1), of(0, 0, 0), of(2, 3, 1));
    bounds("clash, a set", (x, a) -> x.clash(a[0], NONE), CLASH_BAD, of(1), of(0), of(7));
    bounds("clash, a TRIAL", (x, a) -> x.clash(7, a[0]), CLASH_BAD, of(1), of(NONE), of(2));
    bounds("turn", (x, a) -> x.turn(a[0], a[1]), BAD, of(1, 1), of(0, 0), of(3, 9999));
    bounds("image", (x, a) -> x.image(a[0]), BAD, of(1), of(0), of(1));
    bounds("from", (x, a) -> x.from(a[0]), BAD, of(1), of(0), of(1));
    bounds("count", (x, a) -> x.count(a[0]), BAD, of(1), of(0), of(5));
  }

  // ---- numbers whose bounds hang on others, or on the table

  private static void numbersThatHangOnOthers() {
    Call chance = (x, a) -> x.chance(a[0], a[1], a[2], a[3]);
    for (int n : new int[] {0, 1, 39, 40}) {
      taken(BoundsTest::some, "chance", chance, 1, n, n, n, n);
      refused(BoundsTest::some, "chance", chance, BAD, n, n + 1, n, 0);
      refused(BoundsTest::some, "chance", chance, BAD, n, n, n + 1, 0);
    }
    refused(BoundsTest::some, "chance", chance, BAD, 41, 41, 41, 0);
    refused(BoundsTest::some, "chance", chance, BAD, -1, -1, -1, 0);

    Call roll = (x, a) -> x.roll(a[0], a[1], a[2]);
    refused(BoundsTest::some, "roll, a bit of nobody among others", roll, BAD, 31, 0, 0);
    refused(BoundsTest::some, "roll, the bit of a person", roll, BAD, 16, 0, 0);
    refused(BoundsTest::some, "roll, bit 31 alone", roll, BAD, MIN, 0, 0);
    SwornLists x = people(29);
    due("roll of 29 and one more bit", x.roll((1 << 30) - 1, 0, 0), BAD);
    due("roll of all 29", x.roll((1 << 29) - 1, 0, 0), 0);
    x.person(0, 0, 0, 0);
    due("roll of all 30", x.roll((1 << 30) - 1, 0, 0), 1);
    due("roll of 30 and bit 30", x.roll(MAX, 0, 0), BAD);
    due("roll of 30 and bit 31", x.roll(MIN | 1, 0, 0), BAD);

    Call trial = BoundsTest::tried;
    taken(BoundsTest::some, "trial on the DAY of the last one", trial, 3, 22, 1, 1, 1, 1, 1, 1, 1, 1);
    refused(BoundsTest::some, "trial on the DAY ahead of it", trial, BAD, 21, 1, 1, 1, 1, 1, 1, 1, 1);
    refused(BoundsTest::some, "trial on the DAY of the first one", trial, BAD, 3, 1, 1, 1, 1, 1, 1, 1, 1);
    taken(BoundsTest::some, "trial with two sides of one FAMILY", trial, 3, 22, 1, 1, 4, 4, 1, 1, 1, 1);
    taken(BoundsTest::some, "trial that goes on behind the last DAY", trial, 3, 9999, 9, 1, 4, 4, 1, 1, 1, 1);

    Call clash = (y, a) -> y.clash(a[0], a[1]);
    refused(BoundsTest::some, "clash, a TRIAL not in it", clash, CLASH_BAD, 5, 1);
    refused(BoundsTest::some, "clash, a TRIAL of an empty set", clash, CLASH_BAD, 0, 0);
    refused(BoundsTest::some, "clash, a set with one that is not", clash, CLASH_BAD, 15, NONE);
    taken(BoundsTest::full, "clash, six", clash, 0, 0b1111110000, NONE);
    taken(BoundsTest::full, "clash, six apart", clash, 0, 0b1010101011, 9);
    refused(BoundsTest::full, "clash, seven", clash, CLASH_BAD, 0b1111111000, NONE);
    refused(BoundsTest::full, "clash, seven, one of them", clash, CLASH_BAD, 0b1111111000, 9);
    refused(BoundsTest::full, "clash, all ten", clash, CLASH_BAD, 0b1111111111, NONE);
    refused(BoundsTest::full, "clash, TRIAL 10", clash, CLASH_BAD, 1 << 10, NONE);
    refused(BoundsTest::full, "clash, bit 31", clash, CLASH_BAD, MIN, NONE);
  }

  /** The lowest number of each kind is not as told while nothing is there; what needs nothing is. */
  private static void onATableOfNothing() {
    Table nothing = SwornLists::new;
    refused(nothing, "kin", (x, a) -> x.kin(0, 0, 0), BAD);
    refused(nothing, "roll", (x, a) -> x.roll(1, 0, 0), BAD);
    taken(nothing, "roll of nobody", (x, a) -> x.roll(0, 0, 0), 0);
    taken(nothing, "rollOf", (x, a) -> x.rollOf(0), 0);
    refused(nothing, "tells", (x, a) -> x.tells(0, 0, 0), BAD_TELLS);
    refused(nothing, "act", (x, a) -> x.act(0, 0, 0), NO);
    refused(nothing, "strikeOut", (x, a) -> x.strikeOut(0, 0), BAD);
    taken(nothing, "force", (x, a) -> x.force(0, 0), NONE);
    refused(nothing, "may", (x, a) -> x.may(0, 0, 0), BAD);
    taken(nothing, "trial without people", (x, a) -> plainTrial(x, 0, 1, 1, 1), 0);
    for (boolean is : new boolean[] {true, false}) refused(nothing, "away", (x, a) -> x.away(0, 0, is), BAD);
    refused(nothing, "like", (x, a) -> x.like(0, 0, 0, 0), LIKE_BAD);
    refused(nothing, "box", (x, a) -> x.box(0), BAD);
    refused(nothing, "drawn", (x, a) -> x.drawn(0, 0), BAD);
    refused(nothing, "slip", (x, a) -> x.slip(0, 0), BAD);
    refused(nothing, "jury", (x, a) -> x.jury(0), BAD);
    refused(nothing, "about", (x, a) -> x.about(0, 3), ABOUT_BAD);
    taken(nothing, "bad", (x, a) -> x.bad(0), 0);
    refused(nothing, "owed", (x, a) -> x.owed(0, 0), OWED_BAD);
    refused(nothing, "twelve", (x, a) -> x.twelve(0, 0), BAD);
    refused(nothing, "beside", (x, a) -> x.beside(0, 0, 0), BAD);
    refused(nothing, "clash", (x, a) -> x.clash(1, NONE), CLASH_BAD);
    refused(nothing, "clash, TRIAL 0", (x, a) -> x.clash(0, 0), CLASH_BAD);
    taken(nothing, "clash of no TRIALS", (x, a) -> x.clash(0, NONE), 0);
    for (int parish = 0; parish < 4; parish++) taken(nothing, "turn", (x, a) -> x.turn(a[0], 0), NONE, parish);
    refused(nothing, "from", (x, a) -> x.from(0), NO);
    refused(nothing, "from", (x, a) -> x.from(1), NO);
    taken(nothing, "an image of nothing", (x, a) -> x.image(0), 1);
    SwornLists x = new SwornLists();
    x.image(1);
    x.person(0, 0, 0, 0);
    due("only that which was kept", x.from(0), NO);
    due("from an image of nothing", x.from(1), 1);
    due("nothing again", x.digest(), new SwornLists().digest());

    SwornLists y = new SwornLists();
    plainTrial(y, 0, 1, 1, 1);
    due("the box of nobody", y.box(0), 0);
    due("nobody drawn", y.drawn(0, 0), NONE);
    due("no jury of nobody", y.jury(0), 0);
    due("no jury counts", y.count(5), 0);
    due("slip of nobody", y.slip(0, 0), BAD);
    due("the lot of no draw", y.about(0, 3), 1);
    due("twelve of nobody", y.twelve(0, 0), 0);
    due("twelve of nobody who may", y.twelve(0, 1), 0);
    text(y, 0, "1");
    due("beside of nobody", y.beside(0, 0, 0), 0);
  }

  // ---- NO, FULL

  private static void refusedWithNo() {
    refused(BoundsTest::some, "tells of a FAULT", (x, a) -> x.tells(1, 0, 0), NO_TELLS);
    refused(BoundsTest::some, "tells of an empty TEXT", (x, a) -> x.tells(2, 0, 0), NO_TELLS);
    refused(BoundsTest::some, "act with a FAULT", (x, a) -> x.act(1, 0, 0), NO);
    refused(BoundsTest::some, "act with an empty TEXT", (x, a) -> x.act(2, 1, 9999), NO);
    refused(BoundsTest::some, "strikeOut, it is", (x, a) -> x.strikeOut(1, 50), NO);
    refused(BoundsTest::some, "strikeOut, it is, on a DAY ahead", (x, a) -> x.strikeOut(1, 0), NO);
    refused(BoundsTest::some, "away, so it is", (x, a) -> x.away(1, 2, true), NO);
    refused(BoundsTest::some, "not away, so it is", (x, a) -> x.away(1, 1, false), NO);
    refused(BoundsTest::some, "away, so it is, of one not drawn", (x, a) -> x.away(1, 3, true), NO);
    refused(BoundsTest::some, "beside with a FAULT", (x, a) -> x.beside(1, 1, 0), NO);
    refused(BoundsTest::some, "beside with an empty TEXT", (x, a) -> x.beside(1, 2, 1), NO);
    refused(BoundsTest::some, "from an IMAGE that was not kept", (x, a) -> x.from(1), NO);
  }

  private static void refusedWithFull() {
    refused(BoundsTest::full, "person 30", (x, a) -> x.person(0, 0, 0, 0), FULL);
    refused(BoundsTest::full, "FACT 40", (x, a) -> x.kin(0, 0, 0), FULL);
    refused(BoundsTest::full, "ROLL 4", (x, a) -> x.roll(1, 0, 0), FULL);
    refused(BoundsTest::full, "character 50", (x, a) -> x.write(2, ' '), FULL);
    refused(BoundsTest::full, "ACT 20", (x, a) -> x.act(0, 0, 0), FULL);
    refused(BoundsTest::full, "TRIAL 10", (x, a) -> plainTrial(x, 9999, 1, 1, 1), FULL);
    taken(BoundsTest::full, "another TEXT has room", (x, a) -> x.write(3, ' '), 1);
    SwornLists x = full();
    due("30 people", x.count(0), 30);
    due("40 facts", x.count(1), 40);
    due("4 rolls", x.count(2), 4);
    due("20 acts", x.count(3), 20);
    due("10 trials", x.count(4), 10);
    due("50 characters", x.erase(2), 50);
    due("room again in a TEXT", x.write(2, 'a'), 1);
    due("the last person", x.may(29, 9999, 0), 0);
    due("the last but one", x.may(28, 9999, 0), 1);
    due("the last act", x.strikeOut(19, 9999), 1);
    due("the last trial", x.like(9, 1, 29, 3), 0);
    due("the last trial again", x.like(9, 1, 29, 3), 3);
  }

  private static void theFirstReasonIsTold() {
    Call person = (x, a) -> x.person(a[0], a[1], a[2], a[3]);
    badAheadOf(BoundsTest::full, "person", person, BAD, FULL, of(0, 0, 0, 0), of(4, 4, 1001, 100), of(-1, -1, -1, -1));
    Call kin = (x, a) -> x.kin(a[0], a[1], a[2]);
    badAheadOf(BoundsTest::full, "kin", kin, BAD, FULL, of(0, 0, 0), of(30, 10, 10000), of(-1, -1, -1));
    Call roll = (x, a) -> x.roll(a[0], a[1], a[2]);
    badAheadOf(BoundsTest::full, "roll", roll, BAD, FULL, of(0, 0, 0), of(1 << 30, 200, 10000), of(-1, -1, -1));
    Call write = (x, a) -> x.write(a[0], a[1]);
    badAheadOf(BoundsTest::full, "write", write, BAD, FULL, of(2, 0), of(4, 128), of(-1, -1));
    Call act = (x, a) -> x.act(a[0], a[1], a[2]);
    badAheadOf(BoundsTest::full, "act", act, BAD, FULL, of(0, 0, 0), of(4, 2, 10000), of(-1, -1, -1));
    badAheadOf(BoundsTest::full, "act with a FAULT, ahead of FULL", act, BAD, NO, of(1, 0, 0), of(4, 2, 10000), of(-1, -1, -1));
    badAheadOf(BoundsTest::some, "act with a FAULT", act, BAD, NO, of(1, 0, 0), of(4, 2, 10000), of(-1, -1, -1));
    Call trial = BoundsTest::tried;
    badAheadOf(BoundsTest::full, "trial", trial, BAD, FULL, of(810, 1, 1, 0, 0, 0, 0, 0, 1), of(10000, 10, 9, 10, 10, 4, 5, 0, 25),
        of(809, 0, 0, -2, -2, -2, -1, 0, 0));
    Call tells = (x, a) -> x.tells(a[0], a[1], a[2]);
    badAheadOf(BoundsTest::some, "tells", tells, BAD_TELLS, NO_TELLS, of(1, 0, 0), of(4, 4, 10000), of(-1, -1, -1));
    Call strikeOut = (x, a) -> x.strikeOut(a[0], a[1]);
    badAheadOf(BoundsTest::some, "strikeOut", strikeOut, BAD, NO, of(1, 0), of(3, 10000), of(-1, -1));
    Call away = (x, a) -> x.away(a[0], a[1], true);
    badAheadOf(BoundsTest::some, "away", away, BAD, NO, of(1, 2), of(3, 4), of(-1, -1));
    Call stays = (x, a) -> x.away(a[0], a[1], false);
    badAheadOf(BoundsTest::some, "away no more", stays, BAD, NO, of(1, 1), of(3, 4), of(-1, -1));
    Call beside = (x, a) -> x.beside(a[0], a[1], a[2]);
    badAheadOf(BoundsTest::some, "beside", beside, BAD, NO, of(1, 1, 0), of(3, 4, 2), of(-1, -1, -1));
    Call from = (x, a) -> x.from(a[0]);
    badAheadOf(BoundsTest::some, "from", from, BAD, NO, of(1), of(2), of(-1));
    Call clash = (x, a) -> x.clash(a[0], a[1]);
    badAheadOf(BoundsTest::foes, "clash", clash, CLASH_BAD, CLASH_NO, of(3, 0), of(7, 2), of(-1, -2));
  }

  private static SwornLists foes() {
    SwornLists x = people(4);
    for (int i = 0; i < 2; i++) x.trial(0, 9, 1, 1, NONE, NONE, 0, 0, 1);
    return x;
  }

  /** Refused for a later reason as it stands; with any of its numbers not as told for that first. */
  private static void badAheadOf(Table table, String name, Call call, long bad, long later, int[] well, int[] high, int[] low) {
    refused(table, name, call, later, well);
    for (int i = 0; i < well.length; i++) {
      for (int v : new int[] {high[i], low[i]}) {
        if (v == well[i]) continue; // a LOT is always as told
        int[] a = well.clone();
        a[i] = v;
        refused(table, name, call, bad, a);
      }
    }
  }

  private static void roomAgainBehindAnImage() {
    SwornLists x = people(29);
    x.image(0);
    due("person 29", x.person(0, 0, 0, 0), 29);
    due("full", x.person(0, 0, 0, 0), FULL);
    x.image(1);
    x.from(0);
    due("person 29 again", x.person(1, 1, 1, 1), 29);
    due("full again", x.person(0, 0, 0, 0), FULL);
    x.from(0);
    due("one less", x.count(0), 29);
    due("the bit of one who is gone", x.roll(1 << 29, 0, 0), BAD);
    due("one who is gone", x.kin(29, 0, 0), BAD);
    x.from(1);
    due("full by an image", x.person(0, 0, 0, 0), FULL);
    due("he is back", x.kin(29, 0, 0), 0);
  }
}

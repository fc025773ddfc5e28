/** Each promise of the document by hand: ordinary inputs, the edges it names, wrong inputs. */
public final class PromiseTest extends Helps {
  public static void main(String[] args) {
    newObject(); person(); kin(); roll(); rollOf(); write(); erase(); fault(); tells(); act();
    strikeOut(); force(); may(); trial(); away(); like(); box(); drawn(); slip(); jury(); about();
    bad(); sums(); owed(); chance(); twelve(); part(); beside(); clash(); turn(); image(); from();
    count(); digest(); refusedChangesNothing();
    end("PromiseTest");
  }

  // ---- promises 1 to 13

  private static void newObject() {
    due("NONE", SwornLists.NONE, -1);
    due("BAD", SwornLists.BAD, -2);
    due("NO", SwornLists.NO, -3);
    due("FULL", SwornLists.FULL, -4);
    SwornLists x = new SwornLists();
    for (int i = 0; i <= 5; i++) due("new: count " + i, x.count(i), 0);
    due("new: rollOf", x.rollOf(0), 0);
    due("new: above", x.part(0), 0);
    due("new: below", x.part(1), 1);
    for (int i = 0; i < 4; i++) due("new: erase " + i, x.erase(i), 0);
    due("new: from 0", x.from(0), NO);
    due("new: from 1", x.from(1), NO);
    due("new: force", x.force(0, 0), NONE);
    due("new: bad", x.bad(9999), 0);
    due("new: box", x.box(0), BAD);
  }

  private static void person() {
    SwornLists x = new SwornLists();
    due("person low edges", x.person(0, 0, 0, 0), 0);
    due("person high edges", x.person(3, 3, 1000, 99), 1);
    due("person parish 4", x.person(4, 0, 0, 0), BAD);
    due("person parish -1", x.person(-1, 0, 0, 0), BAD);
    due("person trade 4", x.person(0, 4, 0, 0), BAD);
    due("person trade -1", x.person(0, -1, 0, 0), BAD);
    due("person land 1001", x.person(0, 0, 1001, 0), BAD);
    due("person land -1", x.person(0, 0, -1, 0), BAD);
    due("person born 100", x.person(0, 0, 0, 100), BAD);
    due("person born -1", x.person(0, 0, 0, -1), BAD);
    for (int i = 2; i < 30; i++) due("person " + i, x.person(1, 1, 1, 1), i);
    due("person 30", x.person(1, 1, 1, 1), FULL);
    due("person bad ahead of full", x.person(1, 1, 1, MAX), BAD);
    due("person count", x.count(0), 30);
    due("all people as bits", x.rollOf(0), (1 << 30) - 1);
  }

  private static void kin() {
    SwornLists x = people(2);
    due("kin", x.kin(0, 0, 0), 0);
    due("kin high", x.kin(1, 9, 9999), 1);
    due("kin of nobody", x.kin(2, 0, 0), BAD);
    due("kin person -1", x.kin(-1, 0, 0), BAD);
    due("kin family 10", x.kin(0, 10, 0), BAD);
    due("kin family -1", x.kin(0, -1, 0), BAD);
    due("kin day 10000", x.kin(0, 0, 10000), BAD);
    due("kin day -1", x.kin(0, 0, -1), BAD);
    for (int i = 2; i < 40; i++) due("kin " + i, x.kin(0, 0, 0), i);
    due("kin 40", x.kin(0, 0, 0), FULL);
    due("kin bad ahead of full", x.kin(2, 0, 0), BAD);
    due("kin count", x.count(1), 40);
  }

  private static void roll() {
    SwornLists x = people(3);
    due("roll of nobody's bit", x.roll(8, 0, 0), BAD);
    due("roll of negative bits", x.roll(MIN, 0, 0), BAD);
    due("roll of bit 30", x.roll(1 << 30, 0, 0), BAD);
    due("roll year 200", x.roll(7, 200, 0), BAD);
    due("roll year -1", x.roll(7, -1, 0), BAD);
    due("roll day 10000", x.roll(7, 0, 10000), BAD);
    due("roll day -1", x.roll(7, 0, -1), BAD);
    due("roll 0", x.roll(7, 0, 0), 0);
    due("roll 1, an empty set", x.roll(0, 199, 9999), 1);
    due("roll 2", x.roll(5, 0, 0), 2);
    due("roll 3", x.roll(5, 0, 0), 3);
    due("roll 4", x.roll(5, 0, 0), FULL);
    due("roll bad ahead of full", x.roll(8, 0, 0), BAD);
    due("roll count", x.count(2), 4);
    due("an empty roll", x.rollOf(9999), 0);
  }

  private static void rollOf() {
    SwornLists x = people(4);
    due("rollOf none", x.rollOf(0), 15);
    x.roll(1, 100, 10);
    x.roll(2, 90, 5);
    x.roll(4, 100, 20);
    x.roll(8, 101, 30);
    due("rollOf day 4", x.rollOf(4), 15);
    due("rollOf day 5", x.rollOf(5), 2);
    due("rollOf latest year", x.rollOf(10), 1);
    due("rollOf like years, greatest number", x.rollOf(20), 4);
    due("rollOf day 29", x.rollOf(29), 4);
    due("rollOf day 30", x.rollOf(30), 8);
    due("rollOf day -1", x.rollOf(-1), BAD);
    due("rollOf day 10000", x.rollOf(10000), BAD);
    due("rollOf day 9999", x.rollOf(9999), 8);
  }

  private static void write() {
    SwornLists x = new SwornLists();
    due("write text -1", x.write(-1, 97), BAD);
    due("write text 4", x.write(4, 97), BAD);
    due("write sign -1", x.write(0, -1), BAD);
    due("write sign 128", x.write(0, 128), BAD);
    due("write sign 0", x.write(0, 0), 1);
    due("write sign 127", x.write(0, 127), 2);
    due("write another", x.write(3, 97), 1);
    for (int i = 3; i <= 50; i++) due("write " + i, x.write(0, 97), i);
    due("write 51", x.write(0, 97), FULL);
    due("write bad ahead of full", x.write(0, 128), BAD);
    due("write how many stand", x.erase(0), 50);
  }

  private static void erase() {
    SwornLists x = people(1);
    text(x, 1, "a+1");
    due("erase -1", x.erase(-1), BAD);
    due("erase 4", x.erase(4), BAD);
    due("erase", x.erase(1), 3);
    due("erase again", x.erase(1), 0);
    due("erased is empty", x.fault(1), 1);
    due("write behind erase", x.write(1, 'l'), 1);
    due("fault behind erase", x.fault(1), NONE);
    due("tells behind erase", x.tells(1, 0, 0), 0);
  }

  private static void fault() {
    SwornLists x = new SwornLists();
    due("fault text -1", x.fault(-1), BAD);
    due("fault text 4", x.fault(4), BAD);
    for (String well : new String[] {"a", "l", "t", "p", "s", "y", "0", "123456", " a ", "(a)", "!a", "-a", "!-!-a", "a|l&t", "a<l", "a>l",
        "a=l", "a+l-t", "a*l/t", "a<l&l<t", "a<l|l<t", "(a<l)<t", "a<(l<t)", "((((((((a))))))))", "(a)(".substring(0, 3),
        "((a))+((l))+((((((((1))))))))", "a - - a", "1 + 2", " ( a ) ", "! ( a = 1 )", "000000", "(((((((1)))))))*((((((((2))))))))"}) {
      due("fault of " + well, faultOf(well), NONE);
    }
    String[] ill = {"", " ", "   ", "+", "*a", "a b", "ab", "a 1", "1a", "1 2", "12 34", "a+", "a+ ", "a<", "(", "(a", "(a ", ")", "a)", "()", "a<l<t",
        "a<l=t", "a<l+t>p", "(a<l>t)", "a!l", "a(l)", "(a)l", "a++", "a**l", "a||l", "a&&l", "a<=l", "A", "x", "~a", "a~", "a\t", "\u0000", "\u007f", "!", "-", "a!",
        "1234567", "  1234567", "a+12345678", "a1234567", "1234567 (", "(((((((((", "(((((((((a", " ((((((((( ", "((((((((a(", "1(((((((((", "((((((((1)+(((2)))))))))+"};
    int[] at = {1, 11, 31, 1, 1, 21, 11, 21, 11, 21, 31, 21, 31, 21, 11, 21, 31, 1, 11, 11, 31,
        31, 51, 41, 11, 11, 31, 21, 21, 21, 21, 21, 1, 1, 1, 11, 11, 1, 1, 11, 11, 11,
        2, 22, 22, 11, 2, 83, 83, 93, 91, 11, 123};
    for (int i = 0; i < ill.length; i++) due("fault of " + ill[i], faultOf(ill[i]), at[i]);
    due("a compare is free again behind & in a (", faultOf("(a<l&t<p|s<y)"), NONE);
    due("a compare within ( leaves that outside", faultOf("a<(l<t)<p"), 71);
    due("a ( behind a compare may compare", faultOf("a<(l)+(t<p)"), NONE);
    String fifty = "a+a+a+a+a+a+a+a+a+a+a+a+a+a+a+a+a+a+a+a+a+a+a+a+a+";
    due("fifty signs, too early", faultOf(fifty), 501);
    due("forty-nine nots", faultOf("!".repeat(49) + "a"), NONE);
    due("fifty nots", faultOf("!".repeat(50)), 501);
  }

  private static void tells() {
    due("age", told("a"), 50);
    due("land", told("l"), 7);
    due("trade", told("t"), 2);
    due("parish", told("p"), 1);
    due("sat", told("s"), 0);
    due("years", told("y"), 999);
    due("digits", told("012345"), 12345);
    due("times first", told("2+3*4"), 14);
    due("from the left", told("10-3-2"), 5);
    due("divide from the left", told("100/5*3/2"), 30);
    due("cut toward 0", told("-7/2"), -3);
    due("cut toward 0, below", told("7/-2"), -3);
    due("by 0", told("7/0+1"), 1);
    due("by 0 too", told("7/(l-7)"), 0);
    due("minus binds first", told("-2*-3"), 6);
    due("not binds first", told("!0+1"), 2);
    due("not of a number", told("!7"), 0);
    due("not not", told("!!7"), 1);
    due("minus not", told("-!0"), -1);
    due("not minus", told("!-5"), 0);
    due("less", told("1<2"), 1);
    due("not less", told("2<2"), 0);
    due("more", told("3>2"), 1);
    due("like", told("l=7"), 1);
    due("unlike", told("l=8"), 0);
    due("sums ahead of compares", told("1+1=2"), 1);
    due("both", told("5&3"), 1);
    due("both, one not", told("5&0"), 0);
    due("either", told("0|9"), 1);
    due("neither", told("0|0"), 0);
    due("& ahead of |", told("1|0&0"), 1);
    due("( ) first", told("(1|0)&0"), 0);
    due("compares ahead of &", told("1<2&3>2"), 1);
    due("blanks", told("  ( 2 + 3 )  * 4 "), 20);
    due("a value alone stays", told("((l))"), 7);
    due("wraps", told("999999*999999*999999*999999"), 999999L * 999999L * 999999L * 999999L);
    due("fifty signs", told("!".repeat(49) + "0"), 1);
    due("many held", told("1-(2-(3-(4-(5-(6-(7-(8-9)))))))"), 1 - (2 - (3 - (4 - (5 - (6 - (7 - (8 - 9))))))));
    due("the least long by -1", told("(-2*64*64*64*64*64*64*64*64*64*64*8/-8)/-1"), (-2L * 64 * 64 * 64 * 64 * 64 * 64 * 64 * 64 * 64 * 64 * 8 / -8) / -1);

    SwornLists x = people(2);
    text(x, 0, "a");
    due("age on the first DAY", x.tells(0, 0, 0), 50);
    due("age on DAY 100", x.tells(0, 0, 100), 51);
    due("age on the last DAY", x.tells(0, 0, 9999), 149);
    long bad = -2000000000000000000L, no = -3000000000000000000L;
    due("tells text -1", x.tells(-1, 0, 0), bad);
    due("tells text 4", x.tells(4, 0, 0), bad);
    due("tells person 2", x.tells(0, 2, 0), bad);
    due("tells person -1", x.tells(0, -1, 0), bad);
    due("tells day -1", x.tells(0, 0, -1), bad);
    due("tells day 10000", x.tells(0, 0, 10000), bad);
    due("tells of a fault", x.tells(1, 0, 0), no);
    due("tells bad ahead of fault", x.tells(1, 2, 0), bad);

    plainTrial(x, 150, 1, 2, 2);
    plainTrial(x, 150, 2, 2, 2);
    plainTrial(x, 399, 1, 2, 2);
    text(x, 0, "s*1000+y");
    due("sat, that DAY", x.tells(0, 0, 150), 999);
    due("sat, the DAY behind", x.tells(0, 0, 151), 1000);
    due("sat, a YEAR behind", x.tells(0, 0, 200), 1001);
    due("sat, DAY 399", x.tells(0, 0, 399), 1002);
    due("sat, DAY 400", x.tells(0, 0, 400), 2001);
  }

  private static void act() {
    SwornLists x = people(3);
    text(x, 0, "l>0");
    text(x, 1, "l>");
    due("act text -1", x.act(-1, 0, 0), BAD);
    due("act text 4", x.act(4, 0, 0), BAD);
    due("act sort 2", x.act(0, 2, 0), BAD);
    due("act sort -1", x.act(0, -1, 0), BAD);
    due("act day 10000", x.act(0, 0, 10000), BAD);
    due("act day -1", x.act(0, 0, -1), BAD);
    due("act with a fault", x.act(1, 0, 0), NO);
    due("act bad ahead of no", x.act(1, 2, 0), BAD);
    due("act", x.act(0, 0, 0), 0);
    text(x, 0, "l>1");
    due("act keeps its text", x.may(1, 0, 0), 1);
    for (int i = 1; i < 20; i++) due("act " + i, x.act(0, 1, 9999), i);
    due("act 20", x.act(0, 0, 0), FULL);
    due("act no ahead of full", x.act(1, 0, 0), NO);
    due("act count", x.count(3), 20);
  }

  private static void strikeOut() {
    SwornLists x = people(1);
    due("strikeOut none", x.strikeOut(0, 0), BAD);
    law(x, "1", 0, 5);
    due("strikeOut -1", x.strikeOut(-1, 0), BAD);
    due("strikeOut 1", x.strikeOut(1, 0), BAD);
    due("strikeOut day -1", x.strikeOut(0, -1), BAD);
    due("strikeOut day 10000", x.strikeOut(0, 10000), BAD);
    due("strikeOut", x.strikeOut(0, 9), 1);
    due("strikeOut again", x.strikeOut(0, 3), NO);
    due("strikeOut bad ahead of no", x.strikeOut(0, 10000), BAD);
    due("in force till then", x.force(0, 8), 0);
    due("not from then", x.force(0, 9), NONE);
    law(x, "1", 0, 5);
    due("strikeOut on DAY 0", x.strikeOut(1, 0), 1);
    due("never in force", x.force(0, 5), 0);
  }

  private static void force() {
    SwornLists x = people(1);
    law(x, "1", 0, 10);
    law(x, "1", 0, 20);
    law(x, "1", 0, 15);
    law(x, "1", 1, 0);
    law(x, "1", 0, 20);
    due("force ahead", x.force(0, 9), NONE);
    due("force from then", x.force(0, 10), 0);
    due("force latest", x.force(0, 16), 2);
    due("force like ones", x.force(0, 20), 4);
    due("force other sort", x.force(1, 20), 3);
    x.strikeOut(4, 25);
    due("force falls back", x.force(0, 25), 1);
    due("force ahead of it", x.force(0, 24), 4);
    due("force sort 2", x.force(2, 0), BAD);
    due("force sort -1", x.force(-1, 0), BAD);
    due("force day -1", x.force(0, -1), BAD);
    due("force day 10000", x.force(0, 10000), BAD);
  }

  private static void may() {
    SwornLists x = people(3);
    due("may, no act", x.may(0, 0, 0), 1);
    due("excused, no act", x.may(0, 0, 1), 0);
    law(x, "l-1", 0, 5);
    law(x, "l>1", 1, 7);
    due("may by a number", x.may(0, 5, 0), 1);
    due("may not by 0", x.may(1, 5, 0), 0);
    due("may ahead of the act", x.may(1, 4, 0), 1);
    due("excused not yet", x.may(2, 6, 1), 0);
    due("excused", x.may(2, 7, 1), 1);
    due("not excused", x.may(1, 7, 1), 0);
    x.strikeOut(0, 8);
    due("may, struck out", x.may(1, 8, 0), 1);
    due("may person 3", x.may(3, 0, 0), BAD);
    due("may person -1", x.may(-1, 0, 0), BAD);
    due("may day -1", x.may(0, -1, 0), BAD);
    due("may day 10000", x.may(0, 10000, 0), BAD);
    due("may what 2", x.may(0, 0, 2), BAD);
    due("may what -1", x.may(0, 0, -1), BAD);
    SwornLists y = people(2);
    plainTrial(y, 3, 1, 2, 2);
    law(y, "s<1", 0, 0);
    due("may by who sat, ahead", y.may(0, 3, 0), 1);
    due("may by who sat, behind", y.may(0, 4, 0), 0);
  }

  // ---- promises 14 to 24

  private static void trial() {
    SwornLists x = people(1);
    int[] well = {5, 1, 1, -1, -1, -1, 0, 0, 1};
    int[][] ill = {{0, -1}, {0, 10000}, {1, 0}, {1, 10}, {2, 0}, {2, 9}, {3, -2}, {3, 10}, {4, -2}, {4, 10}, {5, -2}, {5, 4},
        {6, -1}, {6, 5}, {8, 0}, {8, 25}, {0, MAX}, {1, MIN}, {2, MAX}, {3, MIN}, {8, MIN}};
    for (int[] one : ill) {
      int[] a = well.clone();
      a[one[0]] = one[1];
      due("trial with " + one[1] + " as number " + one[0], tried(x, a), BAD);
    }
    due("no trial yet", x.count(4), 0);
    due("trial", tried(x, well), 0);
    due("trial, high", tried(x, new int[] {5, 9, 8, 9, 9, 3, 4, MAX, 24}), 1);
    due("trial, too early", tried(x, new int[] {4, 1, 1, -1, -1, -1, 0, 0, 1}), BAD);
    due("trial, low", tried(x, new int[] {5, 1, 1, 0, 0, 0, 0, MIN, 1}), 2);
    for (int i = 3; i < 10; i++) due("trial " + i, tried(x, new int[] {9999, 9, 1, -1, -1, -1, 0, 0, 1}), i);
    due("trial 10", tried(x, new int[] {9999, 9, 1, -1, -1, -1, 0, 0, 1}), FULL);
    due("trial bad ahead of full", tried(x, well), BAD);
    due("trial count", x.count(4), 10);
  }

  private static void away() {
    SwornLists x = people(3);
    due("away no trial", x.away(0, 0, true), BAD);
    plainTrial(x, 0, 1, 1, 3);
    due("away trial 1", x.away(1, 0, true), BAD);
    due("away trial -1", x.away(-1, 0, true), BAD);
    due("away person 3", x.away(0, 3, true), BAD);
    due("away person -1", x.away(0, -1, true), BAD);
    due("away is not", x.away(0, 0, false), NO);
    due("away", x.away(0, 0, true), 1);
    due("away is", x.away(0, 0, true), NO);
    due("another", x.away(0, 1, true), 1);
    due("they are away", x.jury(0), 4);
    due("away no more", x.away(0, 0, false), 1);
    due("away is not again", x.away(0, 0, false), NO);
    due("the other yet", x.slip(0, 1), 2);
    plainTrial(x, 5, 1, 1, 3);
    due("of another trial", x.away(1, 1, false), NO);
  }

  private static void like() {
    SwornLists x = people(2);
    due("like no trial", x.like(0, 0, 0, 0), -1000);
    x.trial(0, 1, 1, NONE, NONE, NONE, 1, 0, 2);
    due("like at first", x.like(0, 0, 0, 100), 0);
    due("like what it was", x.like(0, 0, 0, -100), 100);
    due("like lowest", x.like(0, 0, 0, 0), -100);
    due("like other side", x.like(0, 1, 0, 5), 0);
    due("like other person", x.like(0, 0, 1, 5), 0);
    due("like 101", x.like(0, 0, 0, 101), -1000);
    due("like -101", x.like(0, 0, 0, -101), -1000);
    due("like side 2", x.like(0, 2, 0, 0), -1000);
    due("like side -1", x.like(0, -1, 0, 0), -1000);
    due("like trial 1", x.like(1, 0, 0, 0), -1000);
    due("like trial -1", x.like(-1, 0, 0, 0), -1000);
    due("like person 2", x.like(0, 0, 2, 0), -1000);
    due("like person -1", x.like(0, 0, -1, 0), -1000);
    due("like keeps", x.like(0, 1, 0, 5), 5);
  }

  private static void box() {
    SwornLists x = people(8);
    due("box no trial", x.box(0), BAD);
    x.trial(10, 3, 2, 1, 2, NONE, 0, 0, 2);
    due("box of all", x.box(0), 255);
    due("box -1", x.box(-1), BAD);
    due("box 1", x.box(1), BAD);
    x.kin(0, 1, 10);
    x.kin(1, 2, 11);
    x.kin(2, 3, 0);
    due("box without kin known by then", x.box(0), 254);
    x.kin(3, 2, 0);
    due("box without kin of side 1", x.box(0), 246);
    x.roll(0b11111100, 100, 10);
    due("box, the roll", x.box(0), 0b11110100);
    x.roll(0b01110100, 150, 11);
    due("box, a roll not known yet", x.box(0), 0b11110100);
    law(x, "l<7", 0, 10);
    due("box, who may", x.box(0), 0b01110100);
    law(x, "l=6", 1, 10);
    due("box, not excused", x.box(0), 0b00110100);
    law(x, "0", 0, 11);
    due("box, an act of later", x.box(0), 0b00110100);
    x.strikeOut(1, 10);
    due("box, an act struck out", x.box(0), 0b01110100);
    x.strikeOut(0, 11);
    due("box, an act struck out later", x.box(0), 0b01110100);

    SwornLists y = people(8);
    y.trial(0, 1, 1, NONE, NONE, 2, 0, 0, 2);
    due("box of a trade", y.box(0), 0b01000100);
    y.person(0, 2, 0, 0);
    due("one more comes", y.box(0), 0b101000100);

    SwornLists z = people(4);
    plainTrial(z, 10, 3, 4, 4);
    plainTrial(z, 12, 1, 1, 4);
    plainTrial(z, 13, 1, 1, 4);
    due("all sit", z.jury(0), 15);
    due("they sit the last day", z.box(1), 0);
    due("they are free the day behind", z.box(2), 15);
    z.away(0, 2, true);
    due("no jury sits", z.box(1), 15);
    SwornLists w = people(4);
    plainTrial(w, 10, 1, 2, 4);
    plainTrial(w, 10, 1, 2, 4);
    due("like days", w.box(1), 15 & ~w.jury(0));
  }

  private static void drawn() {
    SwornLists x = people(3);
    due("drawn no trial", x.drawn(0, 0), BAD);
    plainTrial(x, 0, 1, 1, 2);
    // 1 1103515245 + 12345 = 1103527590, bits 16 on 16838, by 3 left over 2; then 377401575 (5758), by 2: 0
    due("the first", x.drawn(0, 0), 2);
    int lot = 1103527590 * 1103515245 + 12345;
    due("the second", x.drawn(0, 1), (lot >>> 16) % 2);
    due("not so many", x.drawn(0, 2), NONE);
    due("not nearly so many", x.drawn(0, MAX), NONE);
    due("drawn -1", x.drawn(0, -1), BAD);
    due("drawn trial 1", x.drawn(1, 0), BAD);
    due("drawn trial -1", x.drawn(-1, 0), BAD);
    SwornLists y = people(3);
    y.trial(0, 1, 1, NONE, NONE, NONE, 0, MIN, 24);
    int seen = 0;
    for (int i = 0; i < 3; i++) seen |= 1 << y.drawn(0, i);
    due("all are drawn, if there are fewer", seen, 7);
    due("and no more", y.drawn(0, 3), NONE);
    SwornLists z = people(30);
    z.trial(0, 1, 1, NONE, NONE, NONE, 0, -77, 24);
    int l = -77;
    java.util.ArrayList<Integer> in = new java.util.ArrayList<>();
    for (int i = 0; i < 30; i++) in.add(i);
    for (int i = 0; i < 24; i++) {
      l = l * 1103515245 + 12345;
      due("drawn " + i + " of thirty", z.drawn(0, i), in.remove((l >>> 16) % in.size()));
    }
    due("the LOT behind", z.about(0, 3), l);
    due("24 at most", z.drawn(0, 24), NONE);
  }

  private static void slip() {
    SwornLists x = people(8);
    due("slip no trial", x.slip(0, 0), BAD);
    law(x, "l=7", 1, 0);
    x.trial(0, 1, 2, NONE, NONE, NONE, 1, 1, 6);
    due("slip, not in the box", x.slip(0, 7), 0);
    due("slip, not drawn", x.slip(0, notDrawn(x, 7)), 1);
    int[] order = new int[6];
    for (int i = 0; i < 6; i++) order[i] = x.drawn(0, i);
    x.away(0, order[0], true);
    x.like(0, 0, order[1], -1);
    x.like(0, 1, order[2], -1);
    due("slip, away", x.slip(0, order[0]), 2);
    due("slip, by side 0", x.slip(0, order[1]), 3);
    due("slip, by side 1", x.slip(0, order[2]), 4);
    due("slip, in the jury", x.slip(0, order[3]), 5);
    due("slip, in the jury too", x.slip(0, order[4]), 5);
    due("slip, left over", x.slip(0, order[5]), 6);
    for (int i = 3; i < 6; i++) x.away(0, order[i], true);
    due("slip, no jury: no passer", x.slip(0, 7), 0);
    x.away(0, order[5], false);
    due("slip, a passer", x.slip(0, 7), 7);
    due("slip, with him", x.slip(0, order[5]), 5);
    due("slip, not drawn is no passer", x.slip(0, notDrawn(x, 7)), 1);
    law(x, "l<7", 0, 0);
    due("slip, no jury: left over", x.slip(0, order[5]), 6);
    due("slip person 8", x.slip(0, 8), BAD);
    due("slip person -1", x.slip(0, -1), BAD);
    due("slip trial 1", x.slip(1, 0), BAD);
    due("slip trial -1", x.slip(-1, 0), BAD);
  }

  private static int notDrawn(SwornLists x, int many) {
    int seen = 0;
    for (int i = 0; x.drawn(0, i) >= 0; i++) seen |= 1 << x.drawn(0, i);
    for (int i = 0; i < many; i++) if ((seen >> i & 1) == 0) return i;
    return -9;
  }

  private static void jury() {
    SwornLists x = people(4);
    due("jury no trial", x.jury(0), BAD);
    x.trial(0, 1, 2, 5, NONE, NONE, 2, 1, 4);
    int[] order = new int[4];
    for (int i = 0; i < 4; i++) order[i] = x.drawn(0, i);
    due("the first two drawn", x.jury(0), 1 << order[0] | 1 << order[1]);
    x.like(0, 0, order[0], -3);
    x.like(0, 0, order[3], -3);
    due("of like ones the last drawn is struck first", x.about(0, 1), 2);
    due("the two left", x.jury(0), 1 << order[1] | 1 << order[2]);
    x.like(0, 1, order[3], -9);
    x.like(0, 1, order[0], -9);
    due("side 0 first, the last drawn", x.slip(0, order[3]), 3);
    due("side 1 then the one that it likes least and is left", x.slip(0, order[0]), 4);
    due("side 0 has none to strike then", x.about(0, 1), 1);
    x.like(0, 0, order[1], -1);
    due("too few left, nobody passes", x.jury(0), 0);
    due("jury -1", x.jury(-1), BAD);
    due("jury 1", x.jury(1), BAD);

    SwornLists y = people(6);
    y.roll(0b000011, 0, 0);
    y.kin(2, 4, 0);
    y.trial(0, 1, 5, NONE, 4, NONE, 0, 1, 4);
    due("passers by numbers, no kin", y.jury(0), 0b111011);
    law(y, "!(l=3)", 0, 0);
    due("passers who may serve: too few", y.jury(0), 0);
    law(y, "1", 0, 0);
    law(y, "1", 1, 0);
    due("passers may be excused", y.jury(0), 0b111011);
    y.away(0, 3, true);
    due("one not drawn is not AWAY", y.jury(0), 0b111011);
    y.trial(0, 1, 2, NONE, NONE, NONE, 0, 1, 4);
    due("passers do not sit elsewhere", y.jury(1), 0);
    y.trial(1, 1, 2, NONE, NONE, 3, 0, 1, 4);
    due("passers of any trade", y.jury(2), 0b000011);
  }

  private static void about() {
    SwornLists x = people(6);
    due("about no trial", x.about(0, 0), -2000000000);
    x.roll(0b001111, 0, 0);
    x.trial(0, 1, 3, NONE, NONE, NONE, 2, 9, 4);
    int[] order = new int[4];
    for (int i = 0; i < 4; i++) order[i] = x.drawn(0, i);
    due("no passers", x.about(0, 0), 0);
    due("side 0 struck none", x.about(0, 1), 0);
    x.like(0, 0, order[0], -1);
    x.like(0, 0, order[1], -2);
    x.like(0, 0, order[2], -3);
    x.like(0, 1, order[3], -1);
    due("side 0 struck", x.about(0, 1), 2);
    due("side 1 struck", x.about(0, 2), 1);
    due("passers", x.about(0, 0), 2);
    int lot = 9;
    for (int i = 0; i < 4; i++) lot = lot * 1103515245 + 12345;
    due("the lot behind", x.about(0, 3), lot);
    x.away(0, order[0], true);
    due("too few: no passers", x.about(0, 0), 0);
    due("about what 4", x.about(0, 4), -2000000000);
    due("about what -1", x.about(0, -1), -2000000000);
    due("about trial 1", x.about(1, 0), -2000000000);
    due("about trial -1", x.about(-1, 3), -2000000000);
    SwornLists y = people(0);
    y.trial(0, 1, 1, NONE, NONE, NONE, 0, 77, 9);
    due("nobody drawn, the lot stays", y.about(0, 3), 77);
    SwornLists z = people(4);
    z.trial(0, 1, 1, NONE, NONE, NONE, 0, 1, 4);
    z.like(0, 0, 0, -100);
    due("no strikes", z.about(0, 1), 0);
  }

  private static void bad() {
    SwornLists x = people(2);
    x.trial(0, 1, 2, 3, 4, NONE, 0, 1, 2);
    x.trial(5, 1, 2, NONE, 4, NONE, 0, 1, 2);
    due("bad, nothing known", x.bad(9999), 0);
    x.kin(0, 4, 50);
    due("bad by a day ahead", x.bad(49), 0);
    due("bad by then", x.bad(50), 3);
    x.kin(1, 3, 40);
    due("bad by one side", x.bad(40), 1);
    x.kin(1, 7, 1);
    due("not by another family", x.bad(39), 0);
    x.kin(0, 4, 5);
    due("known by its day: not in its jury", x.jury(1), 0);
    due("so not bad", x.bad(50), 1);
    due("bad day -1", x.bad(-1), BAD);
    due("bad day 10000", x.bad(10000), BAD);
  }

  private static void sums() {
    SwornLists x = people(1);
    plainTrial(x, 0, 1, 1, 1);
    due("pay at first", x.owed(0, 0), 5);
    due("sums pay -1", x.sums(-1, 0), BAD);
    due("sums pay 101", x.sums(101, 0), BAD);
    due("sums fine -1", x.sums(0, -1), BAD);
    due("sums fine 1001", x.sums(0, 1001), BAD);
    due("refused sums change nothing", x.owed(0, 0), 5);
    due("sums high", x.sums(100, 1000), 1);
    due("pay 100", x.owed(0, 0), 100);
    x.away(0, 0, true);
    due("fine 1000", x.owed(0, 0), -1000);
    due("sums low", x.sums(0, 0), 1);
    due("fine 0", x.owed(0, 0), 0);
  }

  private static void owed() {
    SwornLists x = people(2);
    plainTrial(x, 10, 4, 2, 2);
    plainTrial(x, 20, 3, 1, 2);
    x.away(1, 0, true);
    due("owed ahead", x.owed(0, 9), 0);
    due("owed from the first day", x.owed(0, 10), 20);
    due("owed, another not begun", x.owed(0, 19), 20);
    due("fined", x.owed(0, 20), 0);
    due("the other sits", x.owed(1, 20), 35);
    due("owed person 2", x.owed(2, 0), -1000000);
    due("owed person -1", x.owed(-1, 0), -1000000);
    due("owed day -1", x.owed(0, -1), -1000000);
    due("owed day 10000", x.owed(0, 10000), -1000000);
    x.sums(0, 7);
    due("fine alone", x.owed(0, 9999), -7);
    SwornLists y = people(2);
    y.trial(0, 1, 1, NONE, NONE, NONE, 0, 1, 1);
    int other = 1 - y.drawn(0, 0);
    y.away(0, other, true);
    due("told to stay away, not drawn", y.owed(other, 0), 0);
  }

  // ---- promises 25 to 34

  private static void chance() {
    SwornLists x = new SwornLists();
    due("chance", x.chance(10, 4, 3, 2), 1);
    part(x, 1, 3);
    due("chance of certainty", x.chance(40, 20, 20, 0), 1);
    part(x, 1, 1);
    due("chance, wide", x.chance(40, 20, 20, 20), 1);
    part(x, 1, 137846528820L);
    due("chance, half and more", x.chance(40, 20, 20, 10), 1);
    due("above", x.part(0) * 2 > x.part(1) ? 1 : 0, 1);
    due("chance none", x.chance(0, 0, 0, 0), 1);
    part(x, 1, 1);
    due("chance 0", x.chance(4, 1, 2, 2), 0);
    part(x, 0, 1);
    due("chance j 40", x.chance(4, 1, 2, 40), 0);
    due("chance must be", x.chance(4, 3, 2, 1), 1);
    part(x, 1, 1);
    due("chance in lowest terms", x.chance(6, 2, 2, 2), 1);
    part(x, 1, 15);
    for (int[] ill : new int[][] {{41, 0, 0, 0}, {-1, 0, 0, 0}, {4, 5, 0, 0}, {4, -1, 0, 0}, {4, 0, 5, 0}, {4, 0, -1, 0}, {4, 0, 0, -1}, {4, 0, 0, 41}, {MAX, MAX, MAX, 0}}) {
      due("chance " + java.util.Arrays.toString(ill), x.chance(ill[0], ill[1], ill[2], ill[3]), BAD);
    }
    part(x, 1, 15);
  }

  private static void twelve() {
    SwornLists x = new SwornLists();
    for (int i = 0; i < 6; i++) x.person(i < 3 ? 0 : i < 5 ? 1 : 2, 0, i, 0);
    due("twelve no trial", x.twelve(0, 0), BAD);
    plainTrial(x, 5, 1, 2, 2);
    due("twelve", x.twelve(0, 0), 1);
    part(x, 4, 15);
    law(x, "l<5", 0, 5);
    law(x, "l=0", 1, 5);
    due("twelve of the box", x.twelve(0, 0), 1);
    part(x, 1, 3);
    due("twelve of all who may", x.twelve(0, 1), 1);
    part(x, 2, 5);
    plainTrial(x, 9, 1, 4, 2);
    due("twelve 0", x.twelve(1, 1), 0);
    part(x, 0, 1);
    x.chance(10, 4, 3, 2);
    plainTrial(x, 20, 1, 8, 2);
    due("twelve, too few", x.twelve(2, 1), 0);
    part(x, 0, 1);
    x.chance(10, 4, 3, 2);
    due("twelve what 2", x.twelve(0, 2), BAD);
    due("twelve what -1", x.twelve(0, -1), BAD);
    due("twelve trial -1", x.twelve(-1, 0), BAD);
    due("twelve trial 3", x.twelve(3, 0), BAD);
    part(x, 1, 3);
    SwornLists y = people(3);
    plainTrial(y, 0, 1, 1, 1);
    due("twelve of one seat", y.twelve(0, 0), 1);
    part(y, 1, 1);
    SwornLists z = new SwornLists();
    for (int i = 0; i < 4; i++) z.person(i, 0, 0, 0);
    z.person(3, 0, 0, 0);
    plainTrial(z, 0, 1, 2, 2);
    due("twelve of the last parish", z.twelve(0, 0), 1);
    part(z, 1, 10);
  }

  private static void part() {
    SwornLists x = new SwornLists();
    part(x, 0, 1);
    due("part 2", x.part(2), -1);
    due("part -1", x.part(-1), -1);
    due("part far", x.part(MAX), -1);
    x.chance(3, 2, 1, 1);
    part(x, 2, 3);
  }

  private static void beside() {
    SwornLists x = people(4);
    due("beside no trial", x.beside(0, 0, 0), BAD);
    plainTrial(x, 0, 1, 2, 1);
    plainTrial(x, 3, 1, 1, 4);
    due("beside with a fault", x.beside(0, 0, 0), NO);
    due("beside trial 2", x.beside(2, 0, 0), BAD);
    due("beside trial -1", x.beside(-1, 0, 0), BAD);
    due("beside text 4", x.beside(0, 4, 0), BAD);
    due("beside text -1", x.beside(0, -1, 0), BAD);
    due("beside sort 2", x.beside(0, 0, 2), BAD);
    due("beside sort -1", x.beside(0, 0, -1), BAD);
    due("one drawn, and nobody passes", x.jury(0), 0);
    text(x, 0, "l>1");
    due("beside: two of the box, one drawn, no jury", x.beside(0, 0, 0), 0);
    due("beside: who is excused may pass", Integer.bitCount(x.beside(0, 0, 1)), 2);
    text(x, 1, "1");
    due("beside: all excused, the first two pass", x.beside(0, 1, 1), 3);
    text(x, 2, "l=2");
    int was = x.jury(1);
    due("beside: one may", x.beside(1, 2, 0), was == 4 ? 0 : was ^ 4);
    due("beside changes nothing", x.jury(1), was);
    due("beside keeps no act", x.count(3), 0);
    law(x, "l=0", 0, 3);
    due("beside in place of what is in force", x.beside(1, 2, 0), 5);
    due("its trial alone", x.jury(0), 0);
    SwornLists y = people(2);
    plainTrial(y, 0, 1, 2, 2);
    plainTrial(y, 5, 1, 2, 2);
    text(y, 0, "s=1");
    due("trials ahead as they were", y.beside(1, 0, 0), 0);
    text(y, 0, "s=0");
    due("they sat", y.beside(1, 0, 0), 3);
  }

  private static void clash() {
    SwornLists x = people(1);
    due("clash of none", x.clash(0, NONE), 0);
    due("clash of no trial", x.clash(1, NONE), -10);
    x.trial(0, 2, 1, 1, NONE, NONE, 0, 0, 1);
    x.trial(0, 2, 1, NONE, 1, NONE, 0, 0, 1);
    x.trial(0, 3, 1, 2, 3, 1, 0, 0, 1);
    x.trial(1, 9, 1, 4, 5, 1, 0, 0, 1);
    x.trial(1, 9, 1, 5, 6, NONE, 0, 0, 1);
    due("one alone", x.clash(1, 0), 0);
    due("a family of either side", x.clash(3, NONE), 2);
    due("the first row", x.clash(3, 0), 0);
    due("the other waits", x.clash(3, 1), 2);
    due("no family alike", x.clash(5, NONE), 0);
    due("a trade alike", x.clash(12, NONE), 2);
    due("it waits", x.clash(12, 3), 2);
    due("it can not be", x.clash(24, NONE), -5);
    due("nor any wait", x.clash(24, 4), -5);
    due("bad ahead of that", x.clash(24, 0), -10);
    due("none is no family, no trade", x.clash(17, NONE), 0);
    due("clash -1", x.clash(-1, NONE), -10);
    due("clash of a trial that is not", x.clash(32, NONE), -10);
    due("clash what -2", x.clash(3, -2), -10);
    due("clash what 2", x.clash(3, 2), -10);
    due("clash what 5", x.clash(31, 5), -10);
    due("clash what 32", x.clash(1, 32), -10);
    due("clash what far", x.clash(3, MAX), -10);
    SwornLists y = people(1);
    for (int i = 0; i < 10; i++) y.trial(0, 1, 1, 1, NONE, NONE, 0, 0, 1);
    due("six in a row", y.clash(63, NONE), 15);
    for (int i = 0; i < 6; i++) due("six in a row: " + i, y.clash(63, i), i);
    due("others of ten", y.clash(0b1111110000, 9), 5);
    due("seven", y.clash(127, NONE), -10);
    due("seven, one asked", y.clash(127, 0), -10);
    SwornLists z = people(1);
    z.trial(0, 3, 1, 1, NONE, NONE, 0, 0, 1);
    z.trial(1, 1, 1, 1, NONE, NONE, 0, 0, 1);
    due("the earlier may wait", z.clash(3, NONE), 2);
    due("first by rows: the later waits", z.clash(3, 0), 0);
    due("and as long", z.clash(3, 1), 2);
    SwornLists w = people(1);
    w.trial(0, 9, 1, 1, NONE, NONE, 0, 0, 1);
    w.trial(2, 1, 1, 1, NONE, NONE, 0, 0, 1);
    due("the first goes behind the second", w.clash(3, NONE), 3);
    due("it waits three", w.clash(3, 0), 3);
  }

  private static void turn() {
    SwornLists x = people(8);
    due("turn, the least number", x.turn(1, 0), 1);
    x.trial(0, 1, 1, NONE, NONE, NONE, 0, 0, 1);
    law(x, "!(l=1)", 0, 50);
    due("turn, who may", x.turn(1, 50), 5);
    x.roll(0b11011111, 0, 60);
    due("turn, nobody on the roll who may", x.turn(1, 60), NONE);
    due("turn, the roll of the day", x.turn(2, 60), 2);
    due("turn parish 4", x.turn(4, 0), BAD);
    due("turn parish -1", x.turn(-1, 0), BAD);
    due("turn day -1", x.turn(0, -1), BAD);
    due("turn day 10000", x.turn(0, 10000), BAD);
    due("turn, no people", new SwornLists().turn(0, 0), NONE);

    SwornLists y = new SwornLists();
    y.person(0, 0, 0, 0);
    y.person(0, 1, 0, 0);
    y.person(1, 2, 0, 0);
    y.trial(100, 1, 1, NONE, NONE, 1, 0, 0, 1);
    due("turn on the day itself", y.turn(0, 100), 0);
    y.trial(250, 1, 1, NONE, NONE, 0, 0, 0, 1);
    due("turn, the least s", y.turn(0, 101), 0);
    due("turn, of like s the greatest y", y.turn(0, 251), 1);
    due("turn, one alone", y.turn(1, 251), 2);
    y.trial(260, 1, 1, NONE, NONE, 1, 0, 0, 1);
    due("turn, the other sat twice", y.turn(0, 261), 0);
    y.trial(270, 1, 1, NONE, NONE, 0, 0, 0, 1);
    due("turn, like s and y, the least number", y.turn(0, 271), 0);
    y.trial(280, 1, 1, NONE, NONE, 2, 0, 0, 1);
    law(y, "1", 1, 0);
    due("turn, one excused has his turn", y.turn(1, 9), 2);
  }

  private static void image() {
    SwornLists x = people(3);
    due("image -1", x.image(-1), BAD);
    due("image 2", x.image(2), BAD);
    due("image far", x.image(MIN), BAD);
    due("image 0", x.image(0), 1);
    x.person(0, 0, 0, 0);
    due("image 1", x.image(1), 1);
    x.person(0, 0, 0, 0);
    x.from(0);
    due("three again", x.count(0), 3);
    x.from(1);
    due("four again", x.count(0), 4);
    due("image anew", x.image(0), 1);
    x.person(0, 0, 0, 0);
    x.from(0);
    due("four", x.count(0), 4);
  }

  private static void from() {
    SwornLists x = people(4);
    due("from -1", x.from(-1), BAD);
    due("from 2", x.from(2), BAD);
    due("from 0", x.from(0), NO);
    x.kin(0, 3, 9);
    x.roll(7, 3, 3);
    law(x, "l<9", 0, 0);
    text(x, 0, "a+");
    x.trial(5, 2, 2, 3, NONE, NONE, 1, 4, 4);
    x.like(0, 0, 1, -5);
    x.away(0, 2, true);
    x.sums(6, 30);
    x.chance(10, 4, 3, 2);
    x.image(0);
    long kept = x.digest();
    x.kin(1, 3, 0);
    x.roll(3, 4, 0);
    law(x, "l<1", 0, 0);
    x.strikeOut(0, 5);
    x.erase(0);
    x.trial(6, 2, 2, 3, NONE, NONE, 1, 4, 4);
    x.like(0, 0, 1, 50);
    x.like(0, 1, 0, -1);
    x.away(0, 2, false);
    x.away(0, 3, true);
    x.sums(1, 1);
    x.person(1, 1, 1, 1);
    due("from", x.from(0), 1);
    due("all is as it was", x.digest(), kept);
    due("likes too", x.like(0, 0, 1, -5), -5);
    due("likes of the other side too", x.like(0, 1, 0, 0), 0);
    due("away too", x.away(0, 2, true), NO);
    due("away not", x.away(0, 3, false), NO);
    due("struck out not", x.strikeOut(0, 9999), 1);
    x.from(0);
    due("and again", x.digest(), kept);
    x.chance(4, 1, 2, 2);
    x.from(0);
    part(x, 0, 1);
    due("the other image is none", x.from(1), NO);
    x.trial(6, 2, 2, 3, NONE, NONE, 1, 4, 4);
    due("a new trial has no likes of an old one", x.like(1, 0, 1, 0), 0);
    due("nor its away", x.away(1, 2, false), NO);
    SwornLists y = people(2);
    y.image(0);
    plainTrial(y, 9, 1, 1, 2);
    y.like(0, 0, 0, 9);
    y.away(0, 1, true);
    y.from(0);
    plainTrial(y, 3, 1, 1, 2);
    due("a trial told anew: like", y.like(0, 0, 0, 1), 0);
    due("a trial told anew: away", y.away(0, 1, false), NO);
    SwornLists z = people(3);
    plainTrial(z, 9, 1, 1, 3);
    z.image(0);
    z.roll(4, 0, 0);
    due("one on the roll", z.box(0), 4);
    z.from(0);
    due("all are in the box again", z.box(0), 7);
  }

  private static void count() {
    SwornLists x = people(4);
    x.kin(0, 1, 1);
    x.kin(0, 1, 1);
    x.kin(0, 1, 1);
    x.roll(1, 0, 100);
    law(x, "1", 0, 0);
    law(x, "1", 0, 0);
    plainTrial(x, 0, 1, 4, 4);
    plainTrial(x, 0, 1, 1, 4);
    plainTrial(x, 1, 1, 3, 4);
    plainTrial(x, 2, 1, 5, 4);
    plainTrial(x, 3, 1, 1, 1);
    due("people", x.count(0), 4);
    due("facts", x.count(1), 3);
    due("rolls", x.count(2), 1);
    due("acts", x.count(3), 2);
    due("trials", x.count(4), 5);
    due("trials with a jury", x.count(5), 3);
    due("count 6", x.count(6), BAD);
    due("count -1", x.count(-1), BAD);
  }

  private static void digest() {
    SwornLists x = new SwornLists();
    long h = folded(367, 0, 0, 0, 0, 0, 0, 0, 0, 0, 0, 5, 20, 0, 1);
    due("digest of nothing", x.digest(), h);
    x.person(1, 2, 3, 4);
    x.person(3, 2, 1, 0);
    x.kin(1, 7, 8);
    x.roll(3, 150, 2);
    text(x, 0, "1");
    x.act(0, 0, 6);
    x.act(0, 1, 9998);
    x.strikeOut(1, 9999);
    x.write(1, 'z');
    x.write(1, 0);
    x.sums(9, 8);
    x.trial(9, 1, 3, NONE, NONE, NONE, 0, 5, 1);
    x.chance(10, 4, 3, 2);
    int lot = 5 * 1103515245 + 12345;
    h = folded(367, 2, 1, 1, 2, 1, 0, 1, 2, 3, 4, 3, 2, 1, 0, 1, 7, 8, 3, 150, 2,
        0, 6, -1, 1, '1', 1, 9998, 9999, 1, '1', 3, 0, 0, 0, 0, lot,
        1, '1', 2, 'z', 0, 0, 0, 9, 8, 1, 3);
    due("digest", x.digest(), h);
    due("digest again", x.digest(), h);
    SwornLists y = people(1);
    y.trial(0, 1, 1, NONE, NONE, 3, 0, 7, 1);
    due("digest with a passer", y.digest(), folded(367, 1, 0, 0, 0, 1, 1, 0, 0, 0, 50, 0, 1, 1, 0, 0, 7, 0, 0, 0, 0, 5, 20, 0, 1));
  }

  /** Each refusal in turn, with the digest taken ahead and behind. */
  private static void refusedChangesNothing() {
    SwornLists x = people(3);
    text(x, 0, "a");
    text(x, 1, "a+");
    x.act(0, 0, 0);
    x.strikeOut(0, 4);
    x.trial(7, 1, 1, NONE, NONE, NONE, 1, 3, 3);
    x.like(0, 0, 1, -2);
    x.away(0, 2, true);
    x.image(0);
    x.chance(10, 4, 3, 2);
    long h = x.digest();
    long[] got = {x.person(4, 0, 0, 0), x.kin(3, 0, 0), x.roll(8, 0, 0), x.write(4, 0), x.write(0, 128), x.erase(4), x.act(1, 0, 0), x.act(0, 2, 0),
        x.strikeOut(0, 5), x.strikeOut(1, 5), x.trial(6, 1, 1, NONE, NONE, NONE, 1, 3, 3), x.away(0, 2, true), x.away(0, 3, true),
        x.sums(101, 5), x.sums(5, 1001), x.chance(41, 0, 0, 0), x.twelve(0, 2), x.image(2), x.from(1), x.from(2), x.beside(0, 1, 0)};
    long[] want = {BAD, BAD, BAD, BAD, BAD, BAD, NO, BAD, NO, BAD, BAD, NO, BAD, BAD, BAD, BAD, BAD, BAD, NO, BAD, NO};
    for (int i = 0; i < got.length; i++) due("refusal " + i, got[i], want[i]);
    due("a refused like", x.like(0, 0, 1, 101), -1000);
    due("what it was", x.like(0, 0, 1, -2), -2);
    due("digest behind refusals", x.digest(), h);
  }
}

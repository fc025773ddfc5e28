/** The edges that the document's terms name, a sentence at a time, in the document's order. */
public final class EdgeTest extends Helps {
  public static void main(String[] args) {
    peopleComeInOrder(); yearOfADay(); factsAreKnownFromADay(); rollsAreKnownFromADay(); theRollOfADay();
    actsKeepTheTextOfThen(); actsAreFromADayOn(); actsAreStruckOutOnce(); actInForce(); withoutAnyAct();
    truthOfAnAct(); fiftyCharacters(); digitsOneToSix(); whatOfOnePerson(); satAheadOfADay(); yearsSinceThat();
    truthsAreOneAndZero(); longsWrap(); cutTowardZero(); howFastSignsBind(); blanksAnywhere(); charactersThatMayStand();
    faultOfACharacter(); faultOfASeventhDigit(); faultOfANinthOpen(); oneCompareOnly(); eachTextByItself();
    trialsNoEarlier(); hangsOnWhatIsKnown(); boxByEachRule(); boxAndTrialsOfLesserNumbers(); drawOfSlips(); drawWraps();
    awayIsToldAndDrawn(); likesAreApart(); struckInTurn(); sidesAreThrough(); struckOfLikeOnes(); juryBySeats(); passersByEachRule();
    noJuryNobodySits(); badAsKnown(); payAndFine(); owedByADay();
    farFromChance(); inLowestTerms(); twelveOfABox(); twelveOfAll(); besideOneTrial(); clashWaits(); clashRows(); clashFamiliesAndTrades();
    turnByRows(); imagesKeepAllBut(); imagesKeepTextsOfActs(); lotThatLooksBad(); digestOfAll(); fiveHundredAndTwelveCalls();
    end("EdgeTest");
  }

  private static SwornLists withKin(int many, int person, int family, int known) {
    SwornLists x = people(many);
    x.kin(person, family, known);
    return x;
  }

  // ---- 1 PEOPLE

  /** PEOPLE 0 .. 29, as they come: PARISH 0 .. 3, TRADE 0 .. 3, LAND (0 .. 1000), BORN in a YEAR (0 .. 99). */
  private static void peopleComeInOrder() {
    SwornLists x = new SwornLists();
    due("the first", x.person(3, 0, 1000, 99), 0);
    due("one refused takes no number", x.person(4, 0, 0, 0), BAD);
    due("the second", x.person(0, 3, 0, 0), 1);
    text(x, 0, "p*1000*1000+t*100000+l*10+a/100");
    due("as told, high", x.tells(0, 0, 9999), 3010001);
    due("as told, low", x.tells(0, 1, 0), 300001);
    due("like ones are two", x.person(0, 3, 0, 0), 2);
    for (int i = 3; i < 30; i++) due("as they come", x.person(0, 0, 0, 0), i);
    due("the thirty-first", x.person(0, 0, 0, 0), FULL);
  }

  /** A DAY is 0 .. 9999, its YEAR is 100 more than DAY by 100, cut (100 .. 199). */
  private static void yearOfADay() {
    SwornLists x = new SwornLists();
    x.person(0, 0, 0, 0);
    x.person(0, 0, 0, 99);
    text(x, 0, "a");
    int[] days = {0, 1, 99, 100, 101, 199, 200, 9899, 9900, 9999};
    int[] years = {100, 100, 100, 101, 101, 101, 102, 198, 199, 199};
    for (int i = 0; i < days.length; i++) {
      due("YEAR of DAY " + days[i], x.tells(0, 0, days[i]), years[i]);
      due("age of one BORN in 99", x.tells(0, 1, days[i]), years[i] - 99);
    }
  }

  /** FACTS 0 .. 39, as they come: a person is KIN of a FAMILY 0 .. 9, KNOWN from a DAY. */
  private static void factsAreKnownFromADay() {
    for (int known : new int[] {0, 1, 9998, 9999}) {
      for (int day : new int[] {0, 1, 9998, 9999}) {
        SwornLists x = withKin(2, 0, 9, known);
        x.trial(day, 1, 1, 9, NONE, NONE, 0, 0, 1);
        due("KIN from " + known + " in the box of " + day, x.box(0), known <= day ? 2 : 3);
      }
    }
    for (int family = 0; family <= 9; family++) {
      SwornLists x = withKin(2, 1, family, 0);
      x.trial(0, 1, 1, 0, 9, NONE, 0, 0, 1);
      due("KIN of FAMILY " + family, x.box(0), family == 0 || family == 9 ? 1 : 3);
    }
    SwornLists x = people(3);
    for (int i = 0; i < 39; i++) due("FACT " + i, x.kin(0, 1, 0), i);
    due("the fortieth counts", x.kin(2, 5, 0), 39);
    x.trial(0, 1, 1, 5, NONE, NONE, 0, 0, 1);
    due("it is known", x.box(0), 3);
    due("the forty-first", x.kin(1, 5, 0), FULL);
    due("it is not", x.box(0), 3);
    SwornLists y = withKin(2, 0, 1, 50);
    y.kin(0, 1, 7);
    y.trial(7, 1, 1, 1, NONE, NONE, 0, 0, 1);
    due("told twice, known from the first DAY", y.box(0), 2);
  }

  /** ROLLS 0 .. 3, as they come: a set of PEOPLE as of a YEAR (0 .. 199), KNOWN from a DAY. */
  private static void rollsAreKnownFromADay() {
    SwornLists x = people(3);
    due("ROLL 0", x.roll(1, 0, 9999), 0);
    due("not known the DAY ahead of the last", x.rollOf(9998), 7);
    due("known on the last DAY", x.rollOf(9999), 1);
    due("ROLL 1", x.roll(2, 199, 0), 1);
    due("known from the first DAY", x.rollOf(0), 2);
    due("the YEAR counts, not from when", x.rollOf(9999), 2);
    due("ROLL 2", x.roll(0, 199, 5000), 2);
    due("ROLL 3", x.roll(7, 198, 5000), 3);
    due("an empty one is one", x.rollOf(5000), 0);
    due("not yet", x.rollOf(4999), 2);
    due("ROLL 4", x.roll(7, 199, 0), FULL);
    due("it is not there", x.rollOf(4999), 2);
    SwornLists y = people(2);
    y.roll(3, 150, 1);
    due("a YEAR later than its DAY's", y.rollOf(1), 3);
    y.person(0, 0, 0, 0);
    due("one who comes later is not on it", y.rollOf(1), 3);
    due("but among all", y.rollOf(0), 7);
  }

  /** THE ROLL of a DAY: of those KNOWN by then that of the latest YEAR, of like ones the greatest number; none: all PEOPLE. */
  private static void theRollOfADay() {
    SwornLists x = people(4);
    due("none: all", x.rollOf(0), 15);
    x.roll(1, 120, 50);
    due("none KNOWN by then: all", x.rollOf(49), 15);
    due("KNOWN by then", x.rollOf(50), 1);
    x.roll(2, 119, 60);
    due("of an earlier YEAR", x.rollOf(60), 1);
    x.roll(4, 120, 40);
    due("of a like YEAR, the greatest number, though known ahead", x.rollOf(50), 4);
    due("that one alone", x.rollOf(40), 4);
    x.roll(8, 121, 70);
    due("of the latest YEAR", x.rollOf(70), 8);
    due("the DAY ahead", x.rollOf(69), 4);
    due("none by DAY 39", x.rollOf(39), 15);
    SwornLists y = people(2);
    y.roll(2, 0, 0);
    y.roll(1, 0, 0);
    due("like in all, the greatest number", y.rollOf(0), 1);
    y.roll(2, 0, 0);
    due("and again", y.rollOf(0), 2);
    due("nobody there, all are none", new SwornLists().rollOf(9999), 0);
  }

  // ---- ACTS

  /** ACTS 0 .. 19, as they come: a TEXT (as it is then; without FAULT). */
  private static void actsKeepTheTextOfThen() {
    SwornLists x = people(2);
    text(x, 0, "l=1");
    due("ACT 0", x.act(0, 0, 0), 0);
    x.write(0, '+');
    due("written on: a FAULT now", x.fault(0), 41);
    due("the ACT is as then", x.may(1, 0, 0) * 10 + x.may(0, 0, 0), 10);
    due("now it is refused", x.act(0, 0, 0), NO);
    x.write(0, '1');
    due("ACT 1", x.act(0, 0, 5), 1);
    due("written on: l = 1 + 1", x.may(1, 5, 0), 0);
    x.erase(0);
    due("erased, the ACT stays", x.may(1, 4, 0), 1);
    due("an empty TEXT is a FAULT", x.act(0, 1, 0), NO);
    text(x, 1, "l=0");
    due("ACT 2", x.act(1, 1, 0), 2);
    text(x, 1, "l=1");
    due("it is as then", x.may(0, 0, 1) * 10 + x.may(1, 0, 1), 10);
    due("two ACTS of one TEXT", x.act(1, 1, 0), 3);
    due("the later one", x.may(0, 0, 1) * 10 + x.may(1, 0, 1), 1);
    for (int i = 4; i < 20; i++) due("as they come", x.act(1, i % 2, 9999), i);
    due("the twentieth is there", x.force(1, 9999), 19);
    due("the twenty-first", x.act(1, 1, 9999), FULL);
    due("it is not there", x.force(1, 9999), 19);
  }

  /** Of a sort: 0 MAY (who may serve), 1 EXCUSED, from a DAY on. */
  private static void actsAreFromADayOn() {
    for (int sort = 0; sort <= 1; sort++) {
      for (int from : new int[] {0, 1, 5000, 9999}) {
        SwornLists x = people(1);
        law(x, sort == 0 ? "0" : "1", sort, from);
        due("on the DAY", x.may(0, from, sort), sort);
        due("on the last DAY", x.may(0, 9999, sort), sort);
        if (from > 0) due("on the DAY ahead", x.may(0, from - 1, sort), 1 - sort);
        due("the other sort", x.may(0, 9999, 1 - sort), sort);
        due("the other sort has none", x.force(1 - sort, 9999), NONE);
      }
    }
  }

  /** An ACT is STRUCK OUT (once) from a DAY on. */
  private static void actsAreStruckOutOnce() {
    for (int day : new int[] {0, 4, 5, 6, 9999}) {
      SwornLists x = people(1);
      law(x, "0", 0, 5);
      due("STRUCK OUT", x.strikeOut(0, day), 1);
      for (int asked : new int[] {0, 4, 5, 6, 7, 9998, 9999}) {
        due("struck out from " + day + ", on " + asked, x.force(0, asked), asked >= 5 && asked < day ? 0 : NONE);
      }
      due("once", x.strikeOut(0, day), NO);
      due("once, another DAY", x.strikeOut(0, 9999 - day), NO);
      due("as the first time", x.force(0, Math.max(5, day)), NONE);
      due("its number is not free", law(x, "0", 0, 5), 1);
      due("another may be", x.strikeOut(1, 0), 1);
    }
  }

  /** IN FORCE on a DAY: of a sort's ACTS from then or ahead, not STRUCK OUT by then, that of the latest DAY, of like ones the greatest number. */
  private static void actInForce() {
    SwornLists x = people(1);
    law(x, "1", 0, 20);
    law(x, "1", 0, 10);
    law(x, "1", 1, 30);
    law(x, "1", 0, 20);
    law(x, "1", 0, 0);
    int[] days = {0, 9, 10, 19, 20, 9999};
    int[] acts = {4, 4, 1, 1, 3, 3};
    for (int i = 0; i < days.length; i++) due("in force on " + days[i], x.force(0, days[i]), acts[i]);
    due("of the other sort, ahead", x.force(1, 29), NONE);
    due("of the other sort", x.force(1, 30), 2);
    x.strikeOut(3, 25);
    due("the like one ahead of it", x.force(0, 25), 0);
    due("till then", x.force(0, 24), 3);
    x.strikeOut(0, 25);
    due("then that of an earlier DAY", x.force(0, 25), 1);
    x.strikeOut(1, 26);
    x.strikeOut(4, 27);
    due("then that of the first DAY", x.force(0, 26), 4);
    due("then none", x.force(0, 27), NONE);
    due("all may again", x.may(0, 27, 0), 1);
  }

  /** Without any all MAY, nobody is EXCUSED. */
  private static void withoutAnyAct() {
    SwornLists x = people(30);
    for (int p = 0; p < 30; p++) due("may", x.may(p, 9999, 0) * 10 + x.may(p, 0, 1), 10);
    plainTrial(x, 0, 1, 1, 1);
    due("all are in the box", x.box(0), (1 << 30) - 1);
  }

  /** A person MAY serve, is EXCUSED on a DAY, if that tells a truth. */
  private static void truthOfAnAct() {
    String[] texts = {"0", "1", "2", "-1", "999999", "1-1", "65536*65536*65536*65536", "65536*65536*65536*32768", "0/0", "!5", "!0"};
    int[] truths = {0, 1, 1, 1, 1, 0, 0, 1, 0, 0, 1};
    for (int i = 0; i < texts.length; i++) {
      for (int sort = 0; sort <= 1; sort++) {
        SwornLists x = people(1);
        law(x, texts[i], sort, 0);
        due("a truth of " + texts[i], x.may(0, 0, sort), truths[i]);
      }
    }
  }

  // ---- TEXTS

  /** A TEXT 0 .. 3 (50 characters at most). */
  private static void fiftyCharacters() {
    SwornLists x = people(1);
    for (int t = 0; t < 4; t++) {
      for (int i = 1; i <= 49; i++) due("TEXT " + t, x.write(t, i % 2 == 1 ? '1' : '+'), i);
      due("the fiftieth", x.write(t, ' '), 50);
      due("the fifty-first", x.write(t, '1'), FULL);
      due("all fifty are read", x.fault(t), NONE);
      due("and worked", x.tells(t, 0, 0), 25);
    }
    due("an ACT of fifty", x.act(3, 0, 0), 0);
    due("how many there were", x.erase(3), 50);
    due("it is empty", x.erase(3), 0);
    due("the others stay", x.erase(0), 50);
    due("the ACT stays", x.may(0, 0, 0), 1);
    due("a fault of an empty TEXT", x.fault(3), 1);
  }

  /** UNIT: digits (1 .. 6). */
  private static void digitsOneToSix() {
    due("one", told("9"), 9);
    due("none", faultOf(""), 1);
    due("six", told("999999"), 999999);
    due("six, of which naughts", told("000001"), 1);
    due("six naughts", told("000000"), 0);
    due("seven", faultOf("1000000"), 2);
    due("seven naughts", faultOf("0000000"), 2);
    due("all digits", told("12345*100000+67890"), 1234567890);
  }

  /** a age, l LAND, t TRADE, p PARISH. */
  private static void whatOfOnePerson() {
    SwornLists x = new SwornLists();
    x.person(3, 1, 1000, 99);
    x.person(0, 3, 0, 0);
    String[] letters = {"a", "l", "t", "p", "s", "y"};
    long[] first = {1, 1000, 1, 3, 0, 999}, second = {199, 0, 3, 0, 0, 999};
    for (int i = 0; i < 6; i++) {
      text(x, 0, letters[i]);
      due("of the first: " + letters[i], x.tells(0, 0, 0), first[i]);
      due("of the second: " + letters[i], x.tells(0, 1, 9999), second[i]);
    }
  }

  /** s in how many TRIALS he SAT that began ahead of that DAY. */
  private static void satAheadOfADay() {
    SwornLists x = people(1);
    text(x, 0, "s");
    for (int i = 0; i < 10; i++) plainTrial(x, 1000 * i, 9, 1, 1);
    due("on the DAY of the first", x.tells(0, 0, 0), 0);
    due("on the next DAY, while it goes on", x.tells(0, 0, 1), 1);
    due("on the DAY of the last", x.tells(0, 0, 9000), 9);
    due("behind the last", x.tells(0, 0, 9001), 10);
    due("on the last DAY", x.tells(0, 0, 9999), 10);
    x.away(3, 0, true);
    due("one less", x.tells(0, 0, 9999), 9);
    due("ahead of that as many", x.tells(0, 0, 3000), 3);
    SwornLists y = people(3);
    y.trial(0, 1, 1, NONE, NONE, 3, 0, 0, 1);
    text(y, 0, "s");
    due("a PASSER SAT", y.tells(0, 0, 1), 1);
    due("another did not", y.tells(0, 1, 1), 0);
    SwornLists z = people(2);
    law(z, "s=0", 0, 0);
    plainTrial(z, 5, 1, 2, 2);
    plainTrial(z, 5, 1, 1, 2);
    plainTrial(z, 6, 1, 1, 2);
    due("who sits that DAY has not SAT yet, but sits", z.box(1), 0);
    due("the next DAY he has SAT", z.box(2), 0);
    due("none had SAT that DAY", z.twelve(1, 1), 1);
    due("all have by the next", z.twelve(2, 1), 0);
  }

  /** y YEAR less that of the last of these (999: none). */
  private static void yearsSinceThat() {
    SwornLists x = people(2);
    text(x, 0, "y");
    x.trial(99, 9, 1, NONE, NONE, 0, 0, 0, 1);
    x.trial(9899, 1, 1, NONE, NONE, 0, 0, 0, 1);
    due("none yet", x.tells(0, 0, 99), 999);
    due("a DAY on, a YEAR on", x.tells(0, 0, 100), 1);
    due("long since", x.tells(0, 0, 9899), 98);
    due("the last of these", x.tells(0, 0, 9900), 1);
    due("another never", x.tells(0, 1, 9999), 999);
    x.away(1, 0, true);
    due("the last in which he SAT", x.tells(0, 0, 9999), 99);
    SwornLists y = people(1);
    text(y, 0, "y");
    plainTrial(y, 100, 1, 1, 1);
    due("of the same YEAR", y.tells(0, 0, 101), 0);
    due("till its end", y.tells(0, 0, 199), 0);
    due("the next", y.tells(0, 0, 200), 1);
  }

  /** Truths are 1, 0, all is worked. */
  private static void truthsAreOneAndZero() {
    String[] texts = {"7|0", "0|7", "0|0", "7|7", "-1|0", "7&2", "7&0", "0&7", "-1&-1", "1&2&4", "1|2|4", "0|0|9", "9&9&0",
        "2<3", "3<3", "3<2", "3>2", "3>3", "2>3", "3=3", "3=2", "-3<-2", "!0", "!1", "!-1", "!!9", "!!0", "0&1/0", "1|1/0", "(2<3)+(3=3)+(1|0)+(1&1)+!0"};
    long[] dues = {1, 1, 0, 1, 1, 1, 0, 0, 1, 1, 1, 1, 0, 1, 0, 0, 1, 0, 0, 1, 0, 1, 1, 0, 0, 1, 0, 0, 1, 5};
    for (int i = 0; i < texts.length; i++) due(texts[i], told(texts[i]), dues[i]);
  }

  /** Longs wrap. */
  private static void longsWrap() {
    String least = "65536*65536*65536*32768";
    due("2 to the 63rd", told(least), Long.MIN_VALUE);
    due("less 1", told(least + "-1"), Long.MAX_VALUE);
    due("less 1, and 1", told(least + "-1+1"), Long.MIN_VALUE);
    due("the other way", told("-(" + least + ")"), Long.MIN_VALUE);
    due("by -1", told("(" + least + ")/-1"), Long.MIN_VALUE);
    due("by 1", told("(" + least + ")/1"), Long.MIN_VALUE);
    due("times -1", told(least + "*-1"), Long.MIN_VALUE);
    due("times 2", told(least + "*2"), 0);
    due("below 0", told(least + "<0"), 1);
    due("far above", told("999999*999999*999999"), 999997000002999999L);
    due("farther, wrapped", told("999999*999999*999999*10"), 999997000002999999L * 10);
  }

  /** / cut toward 0, by 0 is 0. */
  private static void cutTowardZero() {
    String[] texts = {"7/2", "-7/2", "7/-2", "-7/-2", "1/2", "-1/2", "0/5", "6/2", "-6/2", "7/0", "-7/0", "0/0", "7/0*5", "7/0+5", "5+7/0", "7/(2-2)", "1/7/0", "0-7/2"};
    long[] dues = {3, -3, -3, 3, 0, 0, 0, 3, -3, 0, 0, 0, 0, 5, 5, 0, 0, -3};
    for (int i = 0; i < texts.length; i++) due(texts[i], told(texts[i]), dues[i]);
  }

  /** VALUE: BOTHS with |; BOTH: HELDS with &; HELD: SUM < > = SUM; SUM: TERMS with + -; TERM: UNITS with * /; ( VALUE ), ! UNIT, - UNIT. */
  private static void howFastSignsBind() {
    String[] texts = {"1|1&0", "0&1|1", "0&0|1", "1|0&0|0", "1&0=0", "0=0&1", "1<2|0", "2|0<1", "1+1<3", "3>1+1", "2=1+1", "1+2*3", "2*3+1",
        "8-4-2", "8-4+2", "8/4/2", "8/4*2", "8*4/2", "9-2*3", "-2+5", "-2*3+1", "2--3", "2+-3", "2*-3", "!2+3", "!2*3", "!(2-2)", "-(2+3)*2", "!-0", "-!0",
        "!0=1", "!(0=1)", "(1|0)&0", "1|(0&0)", "((2+3))*4", "2*(3+4)", "(1<2)<2", "1<(2<2)", "10-(3-(2-1))", "!0+!0", "0|1+1", "2&1+1=2"};
    long[] dues = {1, 1, 1, 1, 1, 1, 1, 1, 1, 1, 1, 7, 7, 2, 6, 1, 4, 16, 3, 3, -5, 5, -1, -6, 3, 0, 1, -10, 1, -1, 1, 1, 0, 1, 20, 14, 1, 0, 8, 2, 1, 1};
    for (int i = 0; i < texts.length; i++) due(texts[i], told(texts[i]), dues[i]);
    due("all eight open", told("1-(1-(1-(1-(1-(1-(1-(1-(5))))))))"), 5);
    due("a sum alone is no truth", told("l"), 7);
    due("nor one in ( )", told("(l)"), 7);
  }

  /** Blanks anywhere but within digits. */
  private static void blanksAnywhere() {
    due("all about", told("  (  1  +  2  )  *  -  3  "), -9);
    due("behind !", told("! 0"), 1);
    due("about a compare", told(" 1 < 2 & 2 > 1 "), 1);
    due("forty-nine", told(" ".repeat(49) + "l"), 7);
    due("forty-nine behind", told("l" + " ".repeat(49)), 7);
    due("within digits", faultOf("1 2"), 21);
    due("within six digits", faultOf("123 456"), 41);
    due("behind six digits", faultOf("123456 7"), 71);
    due("between letters", faultOf("a l"), 21);
    due("a tab is none", faultOf("a\t"), 11);
    due("an end of a line is none", faultOf("\na"), 1);
    due("nothing else", faultOf(" "), 11);
    due("fifty", faultOf(" ".repeat(50)), 501);
  }

  /** 10 times the place of the first character that can not stand there and 1, for all 128 characters where a UNIT starts, and behind one. */
  private static void charactersThatMayStand() {
    for (char c = 0; c < 128; c++) {
      boolean unit = "0123456789altpsy".indexOf(c) >= 0, starts = "(!- ".indexOf(c) >= 0, joins = "|&<>=+-*/".indexOf(c) >= 0;
      due("alone: " + (int) c, faultOf("" + c), unit ? NONE : starts ? 11 : 1);
      due("behind a UNIT: " + (int) c, faultOf("a" + c), c == ' ' ? NONE : joins ? 21 : 11);
      due("behind a UNIT in (: " + (int) c, faultOf("(a" + c), c == ')' ? NONE : joins || c == ' ' ? 31 : 21);
      due("between UNITS: " + (int) c, faultOf("a" + c + "a"), joins ? NONE : c == ' ' ? 21 : 11);
      due("behind a compare: " + (int) c, faultOf("a=" + c), unit ? NONE : starts ? 31 : 21);
      due("behind two: " + (int) c, faultOf("a=a" + c), c == ' ' ? NONE : "<>=".indexOf(c) >= 0 ? 31 : joins ? 41 : 31);
    }
  }

  /** Its length: too early. */
  private static void faultOfACharacter() {
    String[] texts = {"", "(", "((", "()", "(a", "(a ", "(a)+", "a|", "a&", "a<", "a>", "a=", "a+", "a-", "a*", "a/", "!", "-", "a+ ", ")", "a)", "(a))", "(a)a", "(a)(", "a(", "+a", "a+*a", "a!", "!)", "(!)"};
    int[] dues = {1, 11, 21, 11, 21, 31, 41, 21, 21, 21, 21, 21, 21, 21, 21, 21, 11, 11, 31, 1, 11, 31, 31, 31, 11, 1, 21, 11, 11, 21};
    for (int i = 0; i < texts.length; i++) due("fault of " + texts[i], faultOf(texts[i]), dues[i]);
    due("at the last place", faultOf(" ".repeat(49) + "+"), 491);
    due("too early at fifty", faultOf(" ".repeat(49) + "!"), 501);
    due("the first of two", faultOf("a+)+)"), 21);
    due("the first, though a seventh digit comes", faultOf("+1234567"), 1);
    due("the first, though a ninth ( comes", faultOf(")((((((((("), 1);
  }

  /** 2: a seventh digit (told at the first). */
  private static void faultOfASeventhDigit() {
    due("at once", faultOf("1234567"), 2);
    due("more than seven", faultOf("12345678901"), 2);
    due("fifty", faultOf("1".repeat(50)), 2);
    due("behind others", faultOf("a+1234567"), 22);
    due("behind blanks, to the end", faultOf(" ".repeat(43) + "1234567"), 432);
    due("six at the end", faultOf(" ".repeat(44) + "123456"), NONE);
    due("of two numbers the second", faultOf("123456+1234567"), 72);
    due("ahead of a character that can not stand", faultOf("1234567x"), 2);
    due("where digits can not stand", faultOf("a1234567"), 11);
    due("behind )", faultOf("(a)1234567"), 31);
    due("within (", faultOf("((1234567"), 22);
    due("within eight (", faultOf("((((((((1234567"), 82);
    due("six and a letter", faultOf("123456a"), 61);
  }

  /** 3: the 9th ( open. */
  private static void faultOfANinthOpen() {
    String eight = "(".repeat(8), shut = ")".repeat(8);
    due("eight", faultOf(eight + "a" + shut), NONE);
    due("nine", faultOf("(" + eight + "a" + shut + ")"), 83);
    due("nine, nothing else", faultOf("(" + eight), 83);
    due("eight, nothing else", faultOf(eight), 81);
    due("eight, twice", faultOf(eight + "a" + shut + "+" + eight + "a" + shut), NONE);
    due("one shut, one more", faultOf(eight + "a)+(a" + shut), NONE);
    due("one shut, two more", faultOf(eight + "a)+((a" + shut), 123);
    due("with others between", faultOf("!(-( (1+(2*(3<(4|(5&("), 211);
    due("a ninth with others between", faultOf("!(-( (1+(2*(3<(4|(5&(("), 213);
    due("a ninth that can not stand there", faultOf(eight + "a("), 91);
    due("at the last place", faultOf(eight + " " + "a+".repeat(20) + "("), 493);
    due("nine, one shut at once", faultOf("(a)+" + eight + "a" + shut), NONE);
  }

  /** What was found out of one TEXT is nothing to the next. */
  private static void eachTextByItself() {
    for (String ill : new String[] {"!", "-", "1+", "1-(", "((((((((", "(((((((((", "a<", "(a<l", "a<l<", "1234567", "2*(3+", "a<!"}) {
      SwornLists x = people(1);
      text(x, 0, ill);
      text(x, 1, "((((((((5<6))))))))*4");
      text(x, 2, "7");
      x.fault(0);
      due("a plain one behind " + ill, x.tells(2, 0, 0), 7);
      x.fault(0);
      due("eight ( behind " + ill, x.tells(1, 0, 0), 4);
      x.fault(0);
      due("an ACT behind " + ill, x.act(2, 0, 0), 0);
      due("it tells a truth", x.may(0, 0, 0), 1);
    }
  }

  /** HELD: SUM, or SUM < SUM, SUM > SUM, SUM = SUM: one compare in each. */
  private static void oneCompareOnly() {
    for (String one : new String[] {"<", ">", "="}) {
      for (String two : new String[] {"<", ">", "="}) {
        due("two compares", faultOf("a" + one + "l" + two + "t"), 31);
        due("with & between", faultOf("a" + one + "l&l" + two + "t"), NONE);
        due("with | between", faultOf("a" + one + "l|l" + two + "t"), NONE);
        due("in ( )", faultOf("(a" + one + "l)" + two + "t"), NONE);
        due("in ( ) behind", faultOf("a" + one + "(l" + two + "t)"), NONE);
        due("two and one in ( )", faultOf("a" + one + "(l" + two + "t)" + two + "p"), 71);
        due("in ( ) two", faultOf("p" + one + "(a" + one + "l" + two + "t)"), 61);
      }
    }
    due("with sums between", faultOf("a<l+t*p-1>2"), 91);
    due("a ( ahead, shut, has its own", faultOf("(a<l)+(a<l)<(a<l)"), NONE);
    due("and no more", faultOf("(a<l)+(a<l)<(a<l)<1"), 171);
    due("a & in ( ) ahead of one", faultOf("(a&l)<t"), NONE);
    due("a | in ( ) ahead of one", faultOf("(a|l)=t"), NONE);
    due("a & in ( ) behind one frees no other", faultOf("a<(l&t)<p"), 71);
    due("a & in ( ( ) ) ahead of one in ( )", faultOf("((a&l)<t)<p"), NONE);
  }

  // ---- 2 TRIALS

  /** TRIALS 0 .. 9, as they come, each on a DAY no earlier than that of the one told ahead. */
  private static void trialsNoEarlier() {
    SwornLists x = people(1);
    due("the first on any DAY", plainTrial(x, 5, 9, 1, 1), 0);
    due("a DAY earlier", plainTrial(x, 4, 1, 1, 1), BAD);
    due("the same DAY", plainTrial(x, 5, 1, 1, 1), 1);
    due("later, ahead of the end of one", plainTrial(x, 9, 1, 1, 1), 2);
    due("no earlier than the last, though than the first", plainTrial(x, 8, 1, 1, 1), BAD);
    due("on the last DAY", plainTrial(x, 9999, 9, 1, 1), 3);
    due("behind that", plainTrial(x, 10000, 1, 1, 1), BAD);
    due("on the DAY ahead of the last", plainTrial(x, 9998, 1, 1, 1), BAD);
    for (int i = 4; i < 10; i++) due("as they come", plainTrial(x, 9999, 1, 1, 1), i);
    due("the eleventh", plainTrial(x, 9999, 1, 1, 1), FULL);
    SwornLists y = people(1);
    due("the first on DAY 0", plainTrial(y, 0, 1, 1, 1), 0);
    SwornLists z = people(1);
    plainTrial(z, 3, 1, 1, 1);
    z.image(0);
    plainTrial(z, 50, 1, 1, 1);
    z.from(0);
    due("the one told ahead is that of the image", plainTrial(z, 3, 1, 1, 1), 1);
    due("and no earlier", plainTrial(z, 2, 1, 1, 1), BAD);
  }

  /** All about one hangs on what is KNOWN by its DAY: told later, it counts; known later, it does not. */
  private static void hangsOnWhatIsKnown() {
    SwornLists x = people(4);
    x.trial(10, 1, 4, 1, NONE, NONE, 0, 0, 4);
    due("all", x.jury(0), 15);
    x.kin(0, 1, 11);
    x.roll(0, 199, 11);
    law(x, "0", 0, 11);
    law(x, "1", 1, 11);
    due("all that is known later changes nothing", x.jury(0), 15);
    due("not its box", x.box(0), 15);
    x.kin(3, 1, 10);
    due("known on its DAY", x.box(0), 7);
    due("too few then", x.jury(0), 0);
    x.roll(14, 0, 10);
    due("a roll known on its DAY", x.box(0), 6);
    law(x, "l<2", 0, 10);
    due("an act from its DAY", x.box(0), 2);
    law(x, "l=1", 1, 10);
    due("excused on its DAY", x.box(0), 0);
    x.strikeOut(2, 10);
    due("an act struck out on its DAY", x.box(0), 4);
    x.strikeOut(3, 11);
    due("and one the DAY behind", x.box(0), 4);
  }

  /** THE BOX: on THE ROLL, MAY serve, not EXCUSED that DAY, of its TRADE, KIN of neither side. */
  private static void boxByEachRule() {
    SwornLists x = people(9);
    x.trial(50, 1, 1, 2, 7, 1, 0, 0, 1);
    due("of its TRADE", x.box(0), bits(1, 5));
    SwornLists y = people(9);
    y.trial(50, 1, 1, 2, 7, NONE, 0, 0, 1);
    due("of any TRADE", y.box(0), 511);
    y.roll(bits(0, 1, 2, 3, 4, 5, 6, 7), 0, 0);
    due("on THE ROLL", y.box(0), 255);
    law(y, "l>0", 0, 0);
    due("MAY serve", y.box(0), 254);
    law(y, "l=7", 1, 0);
    due("not EXCUSED", y.box(0), 126);
    y.kin(1, 2, 50);
    due("KIN of side 0", y.box(0), 124);
    y.kin(2, 7, 50);
    due("KIN of side 1", y.box(0), 120);
    y.kin(3, 3, 0);
    due("KIN of another FAMILY", y.box(0), 120);
    for (int trade = 0; trade < 4; trade++) {
      SwornLists z = people(8);
      z.trial(0, 1, 1, NONE, NONE, trade, 0, 0, 1);
      due("TRADE " + trade, z.box(0), bits(trade, trade + 4));
    }
    SwornLists w = people(3);
    for (int family = 0; family <= 9; family++) w.kin(0, family, 0);
    w.trial(0, 1, 1, NONE, NONE, NONE, 0, 0, 1);
    due("without sides nobody is KIN of them", w.box(0), 7);
    w.trial(0, 9, 1, NONE, 0, NONE, 0, 0, 1);
    due("of one side alone", w.box(1) & 1, 0);
  }

  /** And sit in no TRIAL of a lesser number that has a DAY in common with it. */
  private static void boxAndTrialsOfLesserNumbers() {
    for (int days = 1; days <= 9; days++) {
      SwornLists x = people(2);
      plainTrial(x, 100, days, 2, 2);
      plainTrial(x, 100 + days - 1, 1, 1, 2);
      plainTrial(x, 100 + days, 1, 1, 2);
      due("its last DAY, of " + days, x.box(1), 0);
      due("the DAY behind", x.box(2), 3);
      due("a later one takes nobody from it", x.box(0), 3);
    }
    SwornLists x = people(3);
    plainTrial(x, 0, 9, 1, 3);
    plainTrial(x, 0, 1, 1, 3);
    plainTrial(x, 5, 1, 1, 3);
    int first = x.jury(0);
    due("of two on a DAY", x.box(1), 7 & ~first);
    due("one goes on, one is over", x.box(2), 7 & ~first);
    x.away(0, x.drawn(0, 0), true);
    due("the first is another", x.jury(0) != first ? 1 : 0, 1);
    due("what hangs on it too", x.box(2), 7 & ~x.jury(0));
    SwornLists both = people(6);
    for (int i = 0; i < 3; i++) plainTrial(both, 10 + i, 3, 2, 6);
    plainTrial(both, 13, 1, 2, 6);
    due("of two that go on", both.box(2), 63 & ~both.jury(0) & ~both.jury(1));
    due("two are left", Integer.bitCount(both.box(2)), 2);
    due("the first is over", both.box(3), both.jury(0));
    SwornLists y = people(2);
    plainTrial(y, 9999, 9, 1, 2);
    plainTrial(y, 9999, 9, 1, 2);
    due("on the last DAY", y.box(1), 3 & ~y.jury(0));
    SwornLists z = people(4);
    z.roll(bits(0, 1), 0, 0);
    plainTrial(z, 0, 2, 3, 4);
    due("a PASSER sits", z.jury(0), 7);
    plainTrial(z, 1, 1, 1, 4);
    due("so he passes no other", z.jury(1), 8);
  }

  /** THE DRAW: as many SLIPS as told (all, if there are fewer), one by one. */
  private static void drawOfSlips() {
    for (int slips : new int[] {1, 2, 4, 5, 6, 24}) {
      SwornLists x = people(5);
      x.trial(0, 1, 1, NONE, NONE, NONE, 0, 12345, slips);
      int many = Math.min(slips, 5), lot = 12345, seen = 0;
      for (int i = 0; i < many; i++) {
        lot = lot * 1103515245 + 12345;
        seen |= 1 << x.drawn(0, i);
      }
      due("so many", Integer.bitCount(seen), many);
      due("not one more", x.drawn(0, many), NONE);
      due("the LOT behind so many", x.about(0, 3), lot);
    }
    SwornLists y = people(30);
    plainTrial(y, 0, 1, 1, 24);
    due("24 of 30", y.drawn(0, 23) >= 0 ? 1 : 0, 1);
    due("no more", y.drawn(0, 24), NONE);
    due("not drawn", y.slip(0, left(y)), 1);
    SwornLists z = people(24);
    plainTrial(z, 0, 1, 1, 24);
    int seen = 0;
    for (int i = 0; i < 24; i++) seen |= 1 << z.drawn(0, i);
    due("24 of 24", seen, (1 << 24) - 1);
    SwornLists w = people(3);
    law(w, "0", 0, 0);
    w.trial(0, 1, 1, NONE, NONE, NONE, 0, -9, 24);
    due("of an empty BOX nobody", w.drawn(0, 0), NONE);
    due("and the LOT stays", w.about(0, 3), -9);
  }

  private static int left(SwornLists x) {
    int seen = 0;
    for (int i = 0; i < 24; i++) seen |= 1 << x.drawn(0, i);
    return Integer.numberOfTrailingZeros(~seen);
  }

  /** The LOT becomes LOT 1103515245 and 12345, wrapped; its bits 16 on (0 .. 65535), left over by how many are in THE BOX, is the place. */
  private static void drawWraps() {
    for (int lot : new int[] {0, 1, -1, MAX, MIN, 2, 7, 65535, 65536, -65536, 123456789, -2000000000}) {
      SwornLists x = people(7);
      x.trial(0, 1, 1, NONE, NONE, NONE, 0, lot, 7);
      long now = lot;
      java.util.ArrayList<Integer> in = new java.util.ArrayList<>(java.util.List.of(0, 1, 2, 3, 4, 5, 6));
      for (int i = 0; i < 7; i++) {
        now = now * 1103515245L + 12345L & 0xffffffffL;
        due("LOT " + lot + ", slip " + i, x.drawn(0, i), in.remove((int) (now / 65536 % in.size())));
      }
      due("LOT " + lot + " behind", x.about(0, 3), (int) now);
    }
    SwornLists x = people(2);
    x.trial(0, 1, 1, NONE, NONE, NONE, 0, 0, 1);
    due("LOT 0 becomes 12345, its bits 16 on are 0", x.drawn(0, 0), 0);
    due("12345", x.about(0, 3), 12345);
    SwornLists one = people(1);
    one.trial(0, 1, 1, NONE, NONE, NONE, 0, -1, 1);
    due("of one that one", one.drawn(0, 0), 0);
    due("and the LOT moves", one.about(0, 3), -1103515245 + 12345);
  }

  /** AWAY: who was told to stay away from a TRIAL, and is drawn. */
  private static void awayIsToldAndDrawn() {
    SwornLists x = people(3);
    plainTrial(x, 0, 1, 1, 2);
    int[] order = order(x, 0, 2);
    int other = 3 - order[0] - order[1];
    x.away(0, order[0], true);
    x.away(0, other, true);
    due("told and drawn", x.slip(0, order[0]), 2);
    due("told, not drawn", x.slip(0, other), 1);
    due("fined", x.owed(order[0], 0), -20);
    due("not fined", x.owed(other, 0), 0);
    due("he is drawn yet", x.drawn(0, 0), order[0]);
    due("and in the box", x.box(0), 7);
    plainTrial(x, 5, 1, 1, 3);
    due("of that TRIAL alone", x.slip(1, order[0]) != 2 ? 1 : 0, 1);
    x.away(0, order[0], false);
    due("not told any more", x.slip(0, order[0]), 5);
    SwornLists y = people(2);
    law(y, "l=1", 1, 0);
    plainTrial(y, 0, 1, 1, 2);
    due("one who is not in the box may be told", y.away(0, 1, true), 1);
    due("he is not AWAY", y.slip(0, 1), 0);
    due("nor fined", y.owed(1, 9999), 0);
    y.strikeOut(0, 0);
    due("in the box he is", y.slip(0, 1), 2);
    due("and fined", y.owed(1, 0), -20);
  }

  /** LIKES: in each TRIAL a number of each side for each person, -100 .. 100; 0 at first. */
  private static void likesAreApart() {
    SwornLists x = people(3);
    plainTrial(x, 0, 1, 1, 1);
    plainTrial(x, 0, 1, 1, 1);
    int v = -100;
    for (int t = 0; t < 2; t++) for (int side = 0; side < 2; side++) for (int p = 0; p < 3; p++) due("0 at first", x.like(t, side, p, v++), 0);
    v = -100;
    for (int t = 0; t < 2; t++) for (int side = 0; side < 2; side++) for (int p = 0; p < 3; p++) due("each its own", x.like(t, side, p, 100), v++);
    due("100", x.like(0, 0, 0, 101), -1000);
    due("100 yet", x.like(0, 0, 0, -101), -1000);
    due("100 still", x.like(0, 0, 0, -100), 100);
    due("-100", x.like(0, 0, 0, -100), -100);
    due("the like one is no refusal", x.like(0, 0, 0, -100), -100);
  }

  /** Struck: side 0, then side 1, in turn, till both are through. */
  private static void struckInTurn() {
    SwornLists x = people(6);
    x.trial(0, 1, 1, NONE, NONE, NONE, 2, 1, 6);
    int[] o = order(x, 0, 6);
    int[][] likes = {{-5, -4, -3, 0, 0, 0}, {-8, -9, -1, 0, 0, 0}};
    for (int side = 0; side < 2; side++) for (int i = 0; i < 6; i++) x.like(0, side, o[i], likes[side][i]);
    int[] slips = {3, 4, 3, 5, 6, 6};
    for (int i = 0; i < 6; i++) due("in turn " + i, x.slip(0, o[i]), slips[i]);
    SwornLists y = people(3);
    y.trial(0, 1, 1, NONE, NONE, NONE, 1, 1, 3);
    int[] q = order(y, 0, 3);
    for (int side = 0; side < 2; side++) y.like(0, side, q[1], -1);
    due("both dislike one: side 0 strikes him", y.slip(0, q[1]), 3);
    due("and side 1 none", y.about(0, 2), 0);
    y.like(0, 0, q[1], 0);
    due("then side 1", y.slip(0, q[1]), 4);
    due("and side 0 none", y.about(0, 1), 0);
    y.like(0, 1, q[1], 0);
    due("then neither", y.slip(0, q[1]), 6);
    due("side 1 none either", y.about(0, 2), 0);
    SwornLists z = people(8);
    z.trial(0, 1, 8, NONE, NONE, NONE, 4, 5, 8);
    for (int p = 0; p < 8; p++) { z.like(0, 0, p, -1); z.like(0, 1, p, -1); }
    int[] r = order(z, 0, 8);
    for (int i = 0; i < 8; i++) due("all in turn, the last first", z.slip(0, r[i]), i % 2 == 1 ? 3 : 4);
    due("four by side 0", z.about(0, 1), 4);
    due("four by side 1", z.about(0, 2), 4);
    due("none is left", z.jury(0), 0);
  }

  /** A side is through, if it struck as many as it has STRIKES, or likes all that are left 0 or better. */
  private static void sidesAreThrough() {
    for (int strikes = 0; strikes <= 4; strikes++) {
      for (int disliked = 0; disliked <= 5; disliked++) {
        SwornLists x = people(8);
        x.trial(0, 1, 1, NONE, NONE, NONE, strikes, 3, 8);
        for (int p = 0; p < disliked; p++) x.like(0, 0, p, -100 + p);
        due(strikes + " STRIKES, " + disliked + " disliked", x.about(0, 1), Math.min(strikes, disliked));
        due("the other side", x.about(0, 2), 0);
        for (int p = 0; p < disliked; p++) due("the least liked first", x.slip(0, p) == 3 ? 1 : 0, p < strikes ? 1 : 0);
        for (int p = 0; p < disliked; p++) { x.like(0, 1, p, -100 + p); x.like(0, 0, p, 0); }
        due("side 1 goes on though side 0 is through", x.about(0, 2), Math.min(strikes, disliked));
        due("side 0 is", x.about(0, 1), 0);
      }
    }
    int[] likes = {-100, -1, 0, 1, 100};
    for (int like : likes) {
      SwornLists x = people(2);
      x.trial(0, 1, 1, NONE, NONE, NONE, 4, 3, 2);
      x.like(0, 1, 1, like);
      due("liked " + like, x.about(0, 2), like < 0 ? 1 : 0);
    }
    SwornLists y = people(4);
    y.trial(0, 1, 1, NONE, NONE, NONE, 4, 3, 3);
    int[] o = order(y, 0, 3);
    int undrawn = 6 - o[0] - o[1] - o[2];
    y.away(0, o[0], true);
    for (int p = 0; p < 4; p++) y.like(0, 0, p, p == o[0] || p == undrawn ? -50 : -1);
    due("one AWAY is not struck", y.slip(0, o[0]), 2);
    due("nor one not drawn", y.slip(0, undrawn), 1);
    due("the others are", y.about(0, 1), 2);
  }

  /** The one it likes least, of like ones the one drawn last. */
  private static void struckOfLikeOnes() {
    for (int last = 0; last < 5; last++) {
      SwornLists x = people(5);
      x.trial(0, 1, 1, NONE, NONE, NONE, 1, 9, 5);
      int[] o = order(x, 0, 5);
      for (int i = 0; i <= last; i++) x.like(0, 0, o[i], -7);
      for (int i = last + 1; i < 5; i++) x.like(0, 0, o[i], -6);
      for (int i = 0; i < 5; i++) due("the last of like ones", x.slip(0, o[i]) == 3 ? 1 : 0, i == last ? 1 : 0);
    }
  }

  /** THE JURY: the first SEATS of those left, by THE DRAW; if there are fewer PASSERS too; still too few: there is no JURY. */
  private static void juryBySeats() {
    for (int seats = 1; seats <= 8; seats++) {
      for (int listed = 0; listed <= 9; listed++) {
        SwornLists x = people(8 + 1);
        x.roll((1 << listed) - 1, 0, 0);
        law(x, "l<8|l<" + listed, 0, 0);
        x.trial(0, 1, seats, NONE, NONE, NONE, 0, 4, 24);
        int want = 0;
        for (int i = 0; i < Math.min(seats, listed); i++) want |= 1 << x.drawn(0, i);
        int passers = Math.max(0, seats - listed);
        for (int i = 0; i < passers; i++) want |= 1 << listed + i;
        due(seats + " SEATS, " + listed + " listed", x.jury(0), want);
        due("PASSERS", x.about(0, 0), passers);
      }
    }
    SwornLists x = people(4);
    x.roll(3, 0, 0);
    law(x, "l<3", 0, 0);
    plainTrial(x, 0, 1, 3, 24);
    due("one PASSER is just enough", x.jury(0), 7);
    due("he is one", x.slip(0, 2), 7);
    law(x, "l<2", 0, 0);
    due("one too few", x.jury(0), 0);
    due("those left are left over", x.slip(0, 0) * 10 + x.slip(0, 1), 66);
    due("no PASSERS", x.about(0, 0), 0);
    SwornLists y = people(5);
    plainTrial(y, 0, 1, 2, 1);
    due("who is in the BOX, not drawn, is no PASSER", y.jury(0), 0);
    SwornLists z = people(8);
    plainTrial(z, 0, 1, 8, 8);
    due("eight of eight", z.jury(0), 255);
    due("none over", z.about(0, 0), 0);
    z.away(0, 3, true);
    due("seven of eight", z.jury(0), 0);
    SwornLists w = people(30);
    plainTrial(w, 0, 1, 8, 24);
    int[] order = order(w, 0, 24);
    int last = 0;
    for (int i = 0; i < 24; i++) {
      if (i < 17) w.away(0, order[i], true);
      else last |= 1 << order[i];
    }
    due("seven of 24 slips are left", w.jury(0), 0);
    w.away(0, order[0], false);
    due("eight of 24 slips, to the last", w.jury(0), last | 1 << order[0]);
  }

  /** PASSERS: PEOPLE by numbers who MAY serve that DAY, are not in THE BOX, KIN of neither side, sit in no such TRIAL. */
  private static void passersByEachRule() {
    SwornLists x = people(8);
    x.roll(1, 0, 0);
    x.trial(10, 2, 3, 1, 2, NONE, 0, 0, 24);
    due("by numbers", x.jury(0), bits(0, 1, 2));
    law(x, "!(l=1)", 0, 10);
    due("who MAY serve", x.jury(0), bits(0, 2, 3));
    x.kin(2, 1, 10);
    due("KIN of side 0", x.jury(0), bits(0, 3, 4));
    x.kin(3, 2, 10);
    due("KIN of side 1", x.jury(0), bits(0, 4, 5));
    x.kin(4, 2, 11);
    due("not known yet", x.jury(0), bits(0, 4, 5));
    law(x, "l=0|l=4", 1, 10);
    due("EXCUSED, and passes: one in the BOX no more", x.jury(0), bits(0, 4, 5));
    due("all three pass", x.about(0, 0), 3);
    x.away(0, 4, true);
    due("told to stay away, not drawn: he passes", x.slip(0, 4), 7);
    x.trial(11, 1, 2, NONE, NONE, NONE, 0, 0, 24);
    due("who sits that DAY does not pass", x.jury(1), bits(2, 3));
    x.trial(12, 1, 2, NONE, NONE, NONE, 0, 0, 24);
    due("the DAY behind they do", x.jury(2), bits(0, 2));
    SwornLists y = people(4);
    y.trial(0, 1, 2, NONE, NONE, 3, 0, 0, 24);
    due("of another TRADE", y.jury(0), bits(0, 3));
  }

  /** There is no JURY (nobody sits). A person SAT in a TRIAL if in its JURY. */
  private static void noJuryNobodySits() {
    SwornLists x = people(3);
    x.trial(0, 5, 3, 1, NONE, NONE, 0, 0, 24);
    x.trial(1, 1, 1, NONE, NONE, NONE, 0, 0, 24);
    due("all sit", x.count(5), 1);
    x.away(0, 0, true);
    due("no JURY", x.jury(0), 0);
    due("it does not count", x.count(5), 1);
    due("they are free", x.box(1), 7);
    text(x, 0, "s");
    due("nobody SAT in it", x.tells(0, 1, 1), 0);
    text(x, 0, "y");
    due("nor the last time", x.tells(0, 1, 1), 999);
    due("nobody is paid", x.owed(1, 0), 0);
    due("who is AWAY is fined", x.owed(0, 0), -20);
    x.kin(1, 1, 50);
    due("it is not BAD", x.bad(50), 0);
    x.away(0, 0, false);
    due("with a JURY it is", x.bad(50), 1);
  }

  /** BAD AS KNOWN at a DAY: a TRIAL with one in its JURY of whom a FACT KNOWN by then says that he is KIN of a side. */
  private static void badAsKnown() {
    SwornLists x = people(4);
    x.trial(10, 1, 2, 3, 4, NONE, 1, 0, 4);
    int[] o = order(x, 0, 4);
    x.kin(o[0], 3, 11);
    due("by the DAY ahead", x.bad(10), 0);
    due("by then", x.bad(11), 1);
    due("by the last DAY", x.bad(9999), 1);
    x.kin(o[0], 3, 10);
    due("known on its DAY: he is not in it", x.bad(9999), 0);
    SwornLists y = people(4);
    y.trial(0, 1, 2, 3, 4, NONE, 1, 0, 4);
    int[] q = order(y, 0, 4);
    y.kin(q[2], 3, 5);
    y.kin(q[3], 4, 5);
    due("those left over make none BAD", y.bad(9999), 0);
    y.kin(q[1], 5, 5);
    due("nor KIN of another", y.bad(9999), 0);
    y.kin(q[1], 4, 9999);
    due("not by the last DAY but one", y.bad(9998), 0);
    due("by the last DAY, of side 1", y.bad(9999), 1);
    y.like(0, 0, q[1], -1);
    due("struck, but another in his place", y.bad(9999), 1);
    due("KIN of side 0", y.bad(5), 1);
    due("the DAY ahead", y.bad(4), 0);
    SwornLists z = people(2);
    z.roll(1, 0, 0);
    for (int i = 0; i < 10; i++) z.trial(i, 1, 2, i, NONE, NONE, 0, 0, 1);
    for (int i = 0; i < 10; i++) z.kin(1, i, 100 + i);
    for (int i = 0; i < 10; i++) due("a PASSER too, TRIALS as bits", z.bad(100 + i), (1 << i + 1) - 1);
    due("none yet", z.bad(99), 0);
    SwornLists w = people(1);
    plainTrial(w, 0, 1, 1, 1);
    for (int family = 0; family <= 9; family++) w.kin(0, family, 0);
    due("without sides it is not BAD", w.bad(9999), 0);
  }

  /** PAY (0 .. 100; 5 at first), FINE (0 .. 1000; 20). */
  private static void payAndFine() {
    SwornLists x = people(2);
    plainTrial(x, 0, 1, 1, 2);
    int in = x.drawn(0, 0), out = x.drawn(0, 1);
    due("5 at first", x.owed(in, 0), 5);
    x.away(0, out, true);
    due("20 at first", x.owed(out, 0), -20);
    due("both high", x.sums(100, 1000), 1);
    due("100", x.owed(in, 0), 100);
    due("1000", x.owed(out, 0), -1000);
    due("PAY above", x.sums(101, 0), BAD);
    due("FINE above", x.sums(0, 1001), BAD);
    due("PAY below", x.sums(-1, 0), BAD);
    due("FINE below", x.sums(0, -1), BAD);
    due("100 yet", x.owed(in, 0), 100);
    due("1000 yet", x.owed(out, 0), -1000);
    due("both low", x.sums(0, 0), 1);
    due("nothing", x.owed(in, 0), 0);
    due("no FINE", x.owed(out, 0), 0);
    due("as they are is no refusal", x.sums(0, 0), 1);
  }

  /** OWED to a person by a DAY: PAY for each DAY of each TRIAL that began by then in which he SAT, less FINE for each that began by then from which he was AWAY. */
  private static void owedByADay() {
    SwornLists x = people(1);
    for (int i = 0; i < 10; i++) plainTrial(x, 10 + 100 * i, 9, 1, 1);
    due("the DAY ahead", x.owed(0, 9), 0);
    due("all its DAYS from the first on", x.owed(0, 10), 45);
    due("as it goes on", x.owed(0, 18), 45);
    due("by the last one", x.owed(0, 910), 450);
    due("by the DAY ahead of that", x.owed(0, 909), 405);
    x.sums(100, 1000);
    due("the most", x.owed(0, 9999), 9000);
    for (int i = 0; i < 10; i++) x.away(i, 0, true);
    due("the least", x.owed(0, 9999), -10000);
    due("but for the last", x.owed(0, 909), -9000);
    due("on the first DAY of the first", x.owed(0, 10), -1000);
    due("ahead of it", x.owed(0, 9), 0);
    SwornLists y = people(2);
    y.roll(1, 0, 0);
    plainTrial(y, 0, 3, 2, 1);
    due("a PASSER too", y.owed(1, 0), 15);
    SwornLists z = people(3);
    z.trial(0, 2, 1, NONE, NONE, NONE, 1, 0, 2);
    int[] o = order(z, 0, 2);
    z.like(0, 0, o[0], -1);
    due("who is struck has nothing", z.owed(o[0], 0), 0);
    due("who sits in his place has", z.owed(o[1], 0), 10);
    z.like(0, 0, o[0], 0);
    due("who is left over has nothing", z.owed(o[1], 0), 0);
  }

  // ---- 3 FAR FROM CHANCE

  private static void chance(int n, int k, int m, int j, long above, long below) {
    SwornLists x = new SwornLists();
    x.chance(3, 2, 1, 1);
    due("chance " + n + " " + k + " " + m + " " + j, x.chance(n, k, m, j), above == 0 ? 0 : 1);
    part(x, above, below);
  }

  /** m drawn of n (0 .. 40) of which k are of one sort: that j or more of these are drawn. */
  private static void farFromChance() {
    chance(0, 0, 0, 0, 1, 1);
    chance(0, 0, 0, 1, 0, 1);
    chance(0, 0, 0, 40, 0, 1);
    chance(1, 0, 1, 0, 1, 1);
    chance(1, 0, 1, 1, 0, 1);
    chance(1, 1, 1, 1, 1, 1);
    chance(1, 1, 0, 0, 1, 1);
    chance(1, 1, 0, 1, 0, 1);
    chance(2, 1, 1, 1, 1, 2);
    chance(4, 3, 3, 2, 1, 1);
    chance(4, 3, 3, 3, 1, 4);
    chance(4, 3, 3, 4, 0, 1);
    chance(5, 2, 2, 1, 7, 10);
    chance(5, 2, 2, 2, 1, 10);
    chance(5, 2, 4, 2, 3, 5);
    chance(40, 40, 40, 40, 1, 1);
    chance(40, 40, 39, 40, 0, 1);
    chance(40, 0, 40, 0, 1, 1);
    chance(40, 1, 20, 1, 1, 2);
    chance(40, 20, 20, 0, 1, 1);
    chance(40, 20, 20, 20, 1, 137846528820L);
    chance(40, 20, 20, 19, 401, 137846528820L);
    chance(40, 20, 20, 1, 137846528819L, 137846528820L);
    chance(40, 20, 20, 21, 0, 1);
    chance(40, 20, 20, 40, 0, 1);
    chance(40, 1, 1, 1, 1, 40);
  }

  /** Fractions in lowest terms, below above 0: THE FRACTION (0 by 1 at first). */
  private static void inLowestTerms() {
    SwornLists x = new SwornLists();
    part(x, 0, 1);
    x.chance(10, 5, 1, 1);
    part(x, 1, 2);
    x.chance(10, 5, 1, 2);
    part(x, 0, 1);
    x.chance(9, 6, 1, 1);
    part(x, 2, 3);
    x.chance(9, 6, 10, 1);
    part(x, 2, 3);
    due("another part", x.part(2), -1);
    due("another part below", x.part(-1), -1);
    SwornLists y = people(4);
    plainTrial(y, 0, 1, 1, 1);
    y.chance(9, 6, 1, 1);
    y.box(0);
    y.jury(0);
    y.owed(0, 0);
    y.image(0);
    y.from(0);
    y.erase(0);
    y.person(0, 0, 0, 0);
    part(y, 2, 3);
  }

  private static SwornLists ofParishes(int... parishes) {
    SwornLists x = new SwornLists();
    for (int i = 0; i < parishes.length; i++) x.person(parishes[i], 0, i, 0);
    return x;
  }

  private static void twelve(SwornLists x, int trial, int what, long above, long below) {
    x.chance(7, 3, 1, 1);
    due("twelve " + trial + " " + what, x.twelve(trial, what), above == 0 ? 0 : 1);
    part(x, above, below);
  }

  /** TWELVE: that SEATS of a TRIAL drawn from its BOX are all of one PARISH (what = 0); 0: it is 0, or there are too few. */
  private static void twelveOfABox() {
    SwornLists x = ofParishes(0, 0, 1, 1, 1, 2, 3, 3, 3, 3);
    for (int seats = 1; seats <= 6; seats++) plainTrial(x, 10 * seats, 1, seats, 1);
    twelve(x, 0, 0, 1, 1);
    twelve(x, 1, 0, 2, 9);
    twelve(x, 2, 0, 1, 24);
    twelve(x, 3, 0, 1, 210);
    twelve(x, 4, 0, 0, 1);
    law(x, "l>5", 0, 0);
    twelve(x, 3, 0, 1, 1);
    twelve(x, 4, 0, 0, 1);
    law(x, "l>4", 0, 0);
    twelve(x, 3, 0, 1, 5);
    twelve(x, 4, 0, 0, 1);
    law(x, "l>8", 0, 0);
    twelve(x, 0, 0, 1, 1);
    twelve(x, 1, 0, 0, 1);
    law(x, "0", 0, 0);
    twelve(x, 0, 0, 0, 1);
    SwornLists y = people(30);
    plainTrial(y, 0, 1, 8, 1);
    // two PARISHES have eight people, two seven
    twelve(y, 0, 0, 2, 5852925);
  }

  /** Likewise of all PEOPLE who MAY serve on its DAY (1). */
  private static void twelveOfAll() {
    SwornLists x = ofParishes(0, 0, 1, 1);
    x.trial(5, 1, 2, 1, NONE, 3, 0, 0, 1);
    twelve(x, 0, 0, 0, 1);
    twelve(x, 0, 1, 1, 3);
    x.roll(1, 0, 0);
    x.kin(0, 1, 0);
    law(x, "1", 1, 0);
    twelve(x, 0, 1, 1, 3);
    law(x, "l<3", 0, 5);
    twelve(x, 0, 1, 1, 3);
    law(x, "l<2", 0, 5);
    twelve(x, 0, 1, 1, 1);
    law(x, "0", 0, 6);
    twelve(x, 0, 1, 1, 1);
    law(x, "l<1", 0, 5);
    twelve(x, 0, 1, 0, 1);
    SwornLists y = ofParishes(0, 0);
    plainTrial(y, 0, 1, 2, 2);
    plainTrial(y, 0, 1, 2, 2);
    twelve(y, 1, 0, 0, 1);
    twelve(y, 1, 1, 1, 1);
  }

  /** BESIDE: with a TEXT in place of what is in force of a sort for one TRIAL alone (its BOX, its PASSERS; TRIALS ahead as they were). */
  private static void besideOneTrial() {
    SwornLists x = people(2);
    plainTrial(x, 0, 1, 1, 2);
    plainTrial(x, 0, 1, 1, 2);
    int first = x.jury(0), second = x.jury(1);
    text(x, 0, first == 1 ? "l=1" : "l=0");
    due("that one is in it as well", x.beside(1, 0, 0), 0);
    due("in the first he is not", x.beside(0, 0, 0), 3);
    text(x, 0, first == 1 ? "l=0" : "l=1");
    due("the other one sits ahead: no other JURY", x.beside(1, 0, 0), second);
    text(x, 0, "0");
    due("nobody may", x.beside(0, 0, 0), first);
    due("nobody is excused", x.beside(0, 0, 1), 0);
    text(x, 0, "1");
    due("all may", x.beside(0, 0, 0), 0);
    due("all are excused, and pass by numbers", x.beside(0, 0, 1), first == 1 ? 0 : 3);
    SwornLists y = people(4);
    law(y, "l<2", 0, 0);
    law(y, "l=0", 1, 0);
    plainTrial(y, 0, 1, 1, 4);
    due("1 alone", y.jury(0), 2);
    text(y, 0, "l>2");
    due("in place of who MAY: 3, and 0 is excused yet", y.beside(0, 0, 0), 10);
    text(y, 0, "l=1");
    due("in place of who is EXCUSED: 0, for 2 and 3 may not yet", y.beside(0, 0, 1), 3);
    text(y, 0, "l<2");
    due("the same text", y.beside(0, 0, 0), 0);
    due("all who may are EXCUSED: 0 passes", y.beside(0, 0, 1), 3);
    text(y, 0, "0");
    due("nobody may: no JURY then", y.beside(0, 0, 0), 2);
    due("all is as it was", y.jury(0) * 10 + y.count(3), 22);
    plainTrial(y, 0, 1, 4, 4);
    text(y, 0, "1");
    due("none with it, none without", y.beside(1, 0, 0), 0);
    SwornLists z = people(3);
    plainTrial(z, 0, 1, 3, 3);
    plainTrial(z, 5, 1, 3, 3);
    text(z, 0, "s=1");
    due("who SAT ahead", z.beside(1, 0, 0), 0);
    text(z, 0, "s=0");
    due("in the first none had", z.beside(0, 0, 0), 0);
    due("in the second all", z.beside(1, 0, 0), 7);
    SwornLists w = people(3);
    law(w, "0", 0, 0);
    plainTrial(w, 0, 1, 3, 3);
    text(w, 1, "1");
    due("no JURY but with it", w.beside(0, 1, 0), 7);
    w.away(0, 1, true);
    due("who is AWAY is so with it", w.beside(0, 1, 0), 0);
  }

  private static SwornLists twoTrials(int day0, int days0, int day1, int days1) {
    SwornLists x = people(1);
    x.trial(day0, days0, 1, 1, NONE, NONE, 0, 0, 1);
    x.trial(day1, days1, 1, 1, NONE, NONE, 0, 0, 1);
    return x;
  }

  private static void clash(String what, SwornLists x, int set, int... waits) {
    int sum = 0, at = 0;
    for (int wait : waits) sum += wait;
    due(what + ": the sum", x.clash(set, NONE), sum);
    for (int t = 0; t < 10; t++) if ((set >> t & 1) == 1) due(what + ": of " + t, x.clash(set, t), waits[at++]);
  }

  /** CLASH: days to wait (0 .. 5) for each. -5: it can not be. */
  private static void clashWaits() {
    clash("no DAY in common", twoTrials(0, 2, 2, 1), 3, 0, 0);
    clash("one in common", twoTrials(0, 2, 1, 1), 3, 0, 1);
    clash("a wait of 5", twoTrials(0, 5, 0, 6), 3, 0, 5);
    clash("a wait of 5 of the first", twoTrials(0, 6, 0, 5), 3, 5, 0);
    due("a wait of 6 can not be", twoTrials(0, 6, 0, 6).clash(3, NONE), -5);
    due("nor of one", twoTrials(0, 6, 0, 6).clash(3, 0), -5);
    due("nor of the other", twoTrials(0, 6, 0, 6).clash(3, 1), -5);
    due("but each alone can", twoTrials(0, 6, 0, 6).clash(2, NONE), 0);
    clash("nine DAYS, five gone", twoTrials(0, 9, 4, 9), 3, 0, 5);
    due("nine DAYS, four gone", twoTrials(0, 9, 3, 9).clash(3, NONE), -5);
    clash("at the last DAY", twoTrials(9999, 3, 9999, 9), 3, 0, 3);
    clash("none", people(1), 0);
    SwornLists x = people(1);
    for (int i = 0; i < 10; i++) x.trial(0, 1, 1, 1, NONE, NONE, 0, 0, 1);
    clash("six of one DAY", x, 0b111111, 0, 1, 2, 3, 4, 5);
    clash("others of ten", x, 0b1010101011, 0, 1, 2, 3, 4, 5);
    due("seven", x.clash(0b1111111, NONE), -10);
    SwornLists y = people(1);
    for (int i = 0; i < 4; i++) y.trial(0, 2, 1, 1, NONE, NONE, 0, 0, 1);
    clash("three of two DAYS", y, 7, 0, 2, 4);
    due("four can not be", y.clash(15, NONE), -5);
  }

  /** The sum least, of like ones the first row by TRIALS. */
  private static void clashRows() {
    clash("the first waits, for the sum is less", twoTrials(0, 3, 0, 1), 3, 1, 0);
    clash("a like sum: the first does not", twoTrials(0, 3, 0, 3), 3, 0, 3);
    clash("the first behind the second", twoTrials(0, 9, 2, 1), 3, 3, 0);
    clash("a like sum, later DAYS", twoTrials(0, 3, 1, 1), 3, 0, 2);
    SwornLists x = people(1);
    x.trial(0, 1, 1, 1, 2, NONE, 0, 0, 1);
    x.trial(0, 1, 1, 1, NONE, NONE, 0, 0, 1);
    x.trial(0, 1, 1, 2, NONE, NONE, 0, 0, 1);
    clash("the one in the middle waits for both", x, 7, 1, 0, 0);
    clash("of two the second", x, 3, 0, 1);
    clash("those without a FAMILY in common", x, 6, 0, 0);
  }

  /** No two which then have a DAY in common have a FAMILY in common or both a TRADE that is alike. */
  private static void clashFamiliesAndTrades() {
    int[][] sides = {{1, 2, 1, 3}, {1, 2, 3, 1}, {1, 2, 2, 3}, {1, 2, 3, 2}, {1, 1, 1, 1}, {1, 2, 3, 4}, {NONE, 1, NONE, 2}, {NONE, NONE, NONE, NONE}, {0, NONE, NONE, 0}, {9, NONE, 9, NONE}, {1, 1, 2, 2}};
    int[] clashes = {1, 1, 1, 1, 1, 0, 0, 0, 1, 1, 0};
    for (int i = 0; i < sides.length; i++) {
      SwornLists x = people(1);
      x.trial(0, 1, 1, sides[i][0], sides[i][1], NONE, 0, 0, 1);
      x.trial(0, 1, 1, sides[i][2], sides[i][3], NONE, 0, 0, 1);
      due("FAMILIES, row " + i, x.clash(3, NONE), clashes[i]);
    }
    for (int one = NONE; one <= 3; one++) {
      for (int two = NONE; two <= 3; two++) {
        SwornLists x = people(1);
        x.trial(0, 1, 1, NONE, NONE, one, 0, 0, 1);
        x.trial(0, 1, 1, NONE, NONE, two, 0, 0, 1);
        due("TRADES " + one + " " + two, x.clash(3, NONE), one != NONE && one == two ? 1 : 0);
      }
    }
  }

  /** TURN: of its PEOPLE on THE ROLL who MAY serve the one with the least s, of like ones the greatest y, then the least number. */
  private static void turnByRows() {
    SwornLists x = new SwornLists();
    for (int i = 0; i < 4; i++) x.person(3, i, i, 0);
    due("the least number", x.turn(3, 0), 0);
    for (int parish = 0; parish < 3; parish++) due("of another PARISH nobody", x.turn(parish, 0), NONE);
    int[] sits = {0, 1, 2, 3, 0, 2, 1};
    int[] days = {50, 150, 250, 350, 450, 550, 650};
    for (int i = 0; i < sits.length; i++) x.trial(days[i], 1, 1, NONE, NONE, sits[i], 0, 0, 1);
    int[] asked = {50, 51, 150, 151, 251, 350, 351, 450, 451, 550, 551, 650, 651, 9999};
    int[] turns = {0, 1, 1, 2, 3, 3, 0, 0, 1, 1, 1, 1, 3, 3};
    for (int i = 0; i < asked.length; i++) due("turn on " + asked[i], x.turn(3, asked[i]), turns[i]);
    law(x, "!(t=3)", 0, 651);
    due("who MAY serve: of like s the greatest y", x.turn(3, 651), 0);
    due("the DAY ahead, he MAY yet", x.turn(3, 650), 1);
    x.roll(bits(1, 2), 0, 652);
    due("on THE ROLL: of like s the greatest y", x.turn(3, 652), 2);
    due("the DAY ahead", x.turn(3, 651), 0);
    law(x, "0", 0, 700);
    due("nobody MAY", x.turn(3, 700), NONE);
    SwornLists y = people(8);
    law(y, "1", 1, 0);
    due("one EXCUSED has his turn", y.turn(3, 0), 3);
    y.roll(bits(7), 0, 0);
    due("on THE ROLL", y.turn(3, 0), 7);
    due("nobody of a PARISH on it", y.turn(2, 0), NONE);
    SwornLists z = new SwornLists();
    for (int i = 0; i < 2; i++) z.person(0, i, 0, 0);
    for (int i = 0; i < 2; i++) z.trial(i, 1, 1, NONE, NONE, 1, 0, 0, 1);
    z.trial(5000, 1, 1, NONE, NONE, 0, 0, 0, 1);
    due("the least s, though y of another is greater", z.turn(0, 5001), 0);
  }

  /** IMAGES 0, 1 keep all but them and THE FRACTION; the table goes on from one. */
  private static void imagesKeepAllBut() {
    SwornLists x = people(1);
    x.image(0);
    x.person(0, 0, 0, 0);
    x.image(1);
    x.person(0, 0, 0, 0);
    due("from 0", x.from(0), 1);
    due("one", x.count(0), 1);
    due("from 1, which is kept yet", x.from(1), 1);
    due("two", x.count(0), 2);
    x.person(0, 0, 0, 0);
    x.person(0, 0, 0, 0);
    x.from(1);
    due("what came behind is not in it", x.count(0), 2);
    x.image(0);
    x.from(0);
    due("kept anew", x.count(0), 2);
    x.chance(9, 6, 1, 1);
    x.image(0);
    x.chance(4, 2, 1, 1);
    x.from(0);
    part(x, 1, 2);
    SwornLists y = people(3);
    y.image(0);
    y.sums(1, 2);
    text(y, 2, "l");
    y.act(2, 0, 0);
    y.strikeOut(0, 9);
    y.roll(1, 0, 0);
    y.kin(0, 0, 0);
    plainTrial(y, 0, 1, 1, 3);
    y.image(1);
    long later = y.digest();
    y.from(0);
    due("as at first", y.digest(), people(3).digest());
    due("empty texts", y.erase(2), 0);
    y.sums(7, 7);
    y.from(1);
    due("as later", y.digest(), later);
    due("it is struck out", y.strikeOut(0, 9), NO);
    due("the TEXT is there", y.erase(2), 1);
    y.from(0);
    plainTrial(y, 0, 1, 1, 3);
    due("PAY as at first", y.owed(y.drawn(0, 0), 0), 5);
    due("an ACT takes number 0 again", law(y, "0", 0, 5), 0);
    due("which is not struck out", y.force(0, 9), 0);
  }

  /** Of an ACT its TEXT too. */
  private static void imagesKeepTextsOfActs() {
    SwornLists x = people(2);
    x.image(0);
    law(x, "l=0", 0, 0);
    x.image(1);
    x.from(0);
    law(x, "l=1", 0, 0);
    due("another ACT 0", x.may(0, 0, 0) * 10 + x.may(1, 0, 0), 1);
    x.from(1);
    due("that of the image", x.may(0, 0, 0) * 10 + x.may(1, 0, 0), 10);
    x.from(0);
    text(x, 3, "l");
    x.image(0);
    text(x, 3, "l+1");
    x.from(0);
    due("a TEXT as it was", x.tells(3, 1, 0), 1);
    due("so long", x.erase(3), 1);
  }

  /** BAD: -2000000000 (also a LOT may be that). */
  private static void lotThatLooksBad() {
    SwornLists x = new SwornLists();
    x.trial(0, 1, 1, NONE, NONE, NONE, 0, -2000000000, 1);
    due("a LOT", x.about(0, 3), -2000000000);
    due("what 4", x.about(0, 4), -2000000000);
    due("what 0", x.about(0, 0), 0);
  }

  /** h = 367; then h = 31 h + v for each v. */
  private static void digestOfAll() {
    SwornLists x = new SwornLists();
    x.person(3, 2, 1000, 99);
    x.person(0, 1, 5, 7);
    x.kin(0, 9, 9999);
    x.kin(1, 0, 3);
    x.roll(2, 199, 9999);
    x.roll(3, 0, 0);
    text(x, 0, "l<9");
    x.act(0, 1, 8);
    text(x, 0, "1");
    x.act(0, 0, 7);
    x.strikeOut(0, 6);
    x.trial(8, 1, 2, 0, NONE, NONE, 2, MAX, 1);
    x.trial(8, 1, 1, NONE, NONE, NONE, 2, MIN, 2);
    x.write(3, 127);
    x.sums(100, 1000);
    x.chance(40, 20, 20, 20);
    long first = MAX * 1103515245 + 12345, second = (MIN * 1103515245 + 12345) * 1103515245 + 12345;
    long h = folded(367, 2, 2, 2, 2, 2, 1, 3, 2, 1000, 99, 0, 1, 5, 7, 0, 9, 9999, 1, 0, 3, 2, 199, 9999, 3, 0, 0,
        1, 8, 6, 3, 'l', '<', '9', 0, 7, -1, 1, '1');
    int second1 = (MIN * 1103515245 + 12345 >>> 16) % 2;
    h = folded(h, 1, 0, 0, 0, 0, (int) first, 3, 1 << second1, 0, 0, 0, (int) second);
    h = folded(h, 1, '1', 0, 0, 1, 127, 100, 1000, 1, 137846528820L);
    due("digest", x.digest(), h);
    x.from(0);
    x.twelve(0, 5);
    x.clash(1, NONE);
    x.beside(0, 0, 0);
    due("asking changes nothing", x.digest(), h);
  }

  /** An object is used for at most 512 calls. */
  private static void fiveHundredAndTwelveCalls() {
    SwornLists x = people(30);
    for (int i = 0; i < 481; i++) x.like(0, i % 2, i % 30, i % 101);
    due("the last", x.count(0), 30);
    SwornLists y = new SwornLists();
    for (int i = 0; i < 511; i++) y.image(i % 2);
    due("as many images as calls", y.from(1), 1);
  }
}

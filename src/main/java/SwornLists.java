/**
 * Sworn lists: people on rolls, slips drawn by told numbers, juries, and what hangs on them.
 * Nothing that follows from the lists is kept with them: it is worked out anew when they change.
 */
public final class SwornLists {
  public static final int NONE = -1, BAD = -2, NO = -3, FULL = -4;

  private static final long BAD_TELLING = -2000000000000000000L, NO_TELLING = -3000000000000000000L;
  private static final int BAD_LIKING = -1000, BAD_ABOUT = -2000000000, BAD_OWED = -1000000;
  private static final int BAD_CLASH = -10, NO_DAYS = -5;

  private static final int MOST_PEOPLE = 30, MOST_FACTS = 40, MOST_ROLLS = 4, MOST_ACTS = 20;
  private static final int MOST_TRIALS = 10, MOST_TEXTS = 4, MOST_SIGNS = 50, MOST_IMAGES = 2;
  private static final int MOST_SLIPS = 24, MOST_STRIKES = 4, MOST_SEATS = 8, MOST_DAYS = 9;
  private static final int LAST_DAY = 9999, LAST_FAMILY = 9, LAST_TRADE = 3, LAST_PARISH = 3;
  private static final int MOST_OF_CHANCE = 40;

  /** The sorts of ACTS. */
  private static final int SERVES = 0, EXCUSED = 1;

  /** Columns of PEOPLE, of FACTS, of ROLLS, of ACTS. */
  private static final int PARISH = 0, TRADE = 1, LAND = 2, BORN = 3, PERSON_WIDTH = 4;
  private static final int WHO = 0, FAMILY = 1, KNOWN = 2, FACT_WIDTH = 3;
  private static final int LISTED = 0, AS_OF = 1, ROLL_WIDTH = 3;
  private static final int SORT = 0, SINCE = 1, STRUCK_OUT = 2, ACT_WIDTH = 3;

  /** Columns of TRIALS; of SIDE there are two, of LIKES one for each person and side. */
  private static final int DAY = 0, DAYS = 1, SEATS = 2, SIDE = 3, WANTED = 5, STRIKES = 6, LOT = 7;
  private static final int SLIPS = 8, STAY = 9, LIKES = 10, TRIAL_WIDTH = LIKES + 2 * MOST_PEOPLE;

  private final Court court = new Court();
  private final Book book = court.book;
  private final Book[] images = new Book[MOST_IMAGES];
  private final boolean[] kept = new boolean[MOST_IMAGES];
  private final Reader reader = new Reader();
  private final Fraction fraction = new Fraction();
  private final Waits waits = new Waits();

  public SwornLists() {
    for (int i = 0; i < MOST_IMAGES; i++) {
      images[i] = new Book();
    }
  }

  // ---- people, rolls, texts

  public int person(int parish, int trade, int land, int born) {
    if (!within(parish, 0, LAST_PARISH) || !within(trade, 0, LAST_TRADE)
        || !within(land, 0, 1000) || !within(born, 0, 99)) {
      return BAD;
    }
    int row = book.people.grow();
    if (row == FULL) {
      return FULL;
    }
    book.people.set(row, PARISH, parish);
    book.people.set(row, TRADE, trade);
    book.people.set(row, LAND, land);
    book.people.set(row, BORN, born);
    court.unsettle(0);
    return row;
  }

  public int kin(int person, int family, int known) {
    if (!book.people.has(person) || !within(family, 0, LAST_FAMILY) || !isDay(known)) {
      return BAD;
    }
    int row = book.facts.grow();
    if (row == FULL) {
      return FULL;
    }
    book.facts.set(row, WHO, person);
    book.facts.set(row, FAMILY, family);
    book.facts.set(row, KNOWN, known);
    court.unsettle(0);
    return row;
  }

  public int roll(int people, int year, int known) {
    if ((people & ~book.everyone()) != 0 || !within(year, 0, 199) || !isDay(known)) {
      return BAD;
    }
    int row = book.rolls.grow();
    if (row == FULL) {
      return FULL;
    }
    book.rolls.set(row, LISTED, people);
    book.rolls.set(row, AS_OF, year);
    book.rolls.set(row, KNOWN, known);
    court.unsettle(0);
    return row;
  }

  public int rollOf(int day) {
    return isDay(day) ? book.listedOn(day) : BAD;
  }

  public int write(int text, int character) {
    if (!isText(text) || !within(character, 0, 127)) {
      return BAD;
    }
    return book.texts.get(text).put(character);
  }

  public int erase(int text) {
    return isText(text) ? book.texts.get(text).clear() : BAD;
  }

  public int fault(int text) {
    return isText(text) ? reader.read(book.texts.get(text)) : BAD;
  }

  public long tells(int text, int person, int day) {
    if (!isText(text) || !book.people.has(person) || !isDay(day)) {
      return BAD_TELLING;
    }
    Text told = book.texts.get(text);
    if (reader.read(told) != NONE) {
      return NO_TELLING;
    }
    court.settle();
    return court.tell(told, person, day);
  }

  public int act(int text, int sort, int from) {
    if (!isText(text) || !isSort(sort) || !isDay(from)) {
      return BAD;
    }
    Text told = book.texts.get(text);
    if (reader.read(told) != NONE) {
      return NO;
    }
    int row = book.acts.grow();
    if (row == FULL) {
      return FULL;
    }
    book.acts.set(row, SORT, sort);
    book.acts.set(row, SINCE, from);
    book.acts.set(row, STRUCK_OUT, NONE);
    book.laws.get(row).copy(told);
    court.unsettle(0);
    return row;
  }

  public int strikeOut(int act, int day) {
    if (!book.acts.has(act) || !isDay(day)) {
      return BAD;
    }
    if (book.acts.at(act, STRUCK_OUT) != NONE) {
      return NO;
    }
    book.acts.set(act, STRUCK_OUT, day);
    court.unsettle(0);
    return 1;
  }

  public int force(int sort, int day) {
    return isSort(sort) && isDay(day) ? book.inForce(sort, day) : BAD;
  }

  public int may(int person, int day, int what) {
    if (!book.people.has(person) || !isDay(day) || !isSort(what)) {
      return BAD;
    }
    court.settle();
    return court.truths(book.lawOf(what, day), what, day, 1 << person) != 0 ? 1 : 0;
  }

  // ---- trials

  public int trial(int day, int days, int seats, int side0, int side1, int trade, int strikes,
      int lot, int slips) {
    if (!isNextDay(day) || !within(days, 1, MOST_DAYS) || !within(seats, 1, MOST_SEATS)
        || !within(side0, NONE, LAST_FAMILY) || !within(side1, NONE, LAST_FAMILY)
        || !within(trade, NONE, LAST_TRADE) || !within(strikes, 0, MOST_STRIKES)
        || !within(slips, 1, MOST_SLIPS)) {
      return BAD;
    }
    Rows trials = book.trials;
    int row = trials.grow();
    if (row == FULL) {
      return FULL;
    }
    trials.set(row, DAY, day);
    trials.set(row, DAYS, days);
    trials.set(row, SEATS, seats);
    trials.set(row, SIDE, side0);
    trials.set(row, SIDE + 1, side1);
    trials.set(row, WANTED, trade);
    trials.set(row, STRIKES, strikes);
    trials.set(row, LOT, lot);
    trials.set(row, SLIPS, slips);
    return row;
  }

  public int away(int trial, int person, boolean is) {
    if (!book.trials.has(trial) || !book.people.has(person)) {
      return BAD;
    }
    int stay = book.trials.at(trial, STAY);
    if (hasBit(stay, person) == is) {
      return NO;
    }
    book.trials.set(trial, STAY, stay ^ (1 << person));
    court.unsettle(trial);
    return 1;
  }

  public int like(int trial, int side, int person, int v) {
    if (!book.trials.has(trial) || !within(side, 0, 1) || !book.people.has(person)
        || !within(v, -100, 100)) {
      return BAD_LIKING;
    }
    int column = likesColumn(side, person);
    int old = book.trials.at(trial, column);
    book.trials.set(trial, column, v);
    court.unsettle(trial);
    return old;
  }

  public int box(int trial) {
    if (!book.trials.has(trial)) {
      return BAD;
    }
    court.settle();
    return court.hearing(trial).inBox;
  }

  public int drawn(int trial, int i) {
    if (!book.trials.has(trial) || i < 0) {
      return BAD;
    }
    court.settle();
    return court.hearing(trial).slipAt(i);
  }

  public int slip(int trial, int person) {
    if (!book.trials.has(trial) || !book.people.has(person)) {
      return BAD;
    }
    court.settle();
    return court.hearing(trial).standing(person);
  }

  public int jury(int trial) {
    if (!book.trials.has(trial)) {
      return BAD;
    }
    court.settle();
    return court.hearing(trial).sworn;
  }

  public int about(int trial, int what) {
    if (!book.trials.has(trial) || !within(what, 0, 3)) {
      return BAD_ABOUT;
    }
    court.settle();
    return court.hearing(trial).figure(what);
  }

  public int bad(int day) {
    if (!isDay(day)) {
      return BAD;
    }
    court.settle();
    int bits = 0;
    for (int t = 0; t < book.trials.size(); t++) {
      if ((court.hearing(t).sworn & book.kinOfSides(t, day)) != 0) {
        bits |= 1 << t;
      }
    }
    return bits;
  }

  public int sums(int pay, int fine) {
    if (!within(pay, 0, 100) || !within(fine, 0, 1000)) {
      return BAD;
    }
    book.pay = pay;
    book.fine = fine;
    return 1;
  }

  public int owed(int person, int day) {
    if (!book.people.has(person) || !isDay(day)) {
      return BAD_OWED;
    }
    court.settle();
    int sum = 0;
    for (int t = 0; t < book.trials.size(); t++) {
      if (book.trials.at(t, DAY) <= day) {
        Hearing hearing = court.hearing(t);
        sum += hasBit(hearing.sworn, person) ? book.pay * book.trials.at(t, DAYS) : 0;
        sum -= hasBit(hearing.missing, person) ? book.fine : 0;
      }
    }
    return sum;
  }

  // ---- chances, days

  public int chance(int n, int k, int m, int j) {
    if (!within(n, 0, MOST_OF_CHANCE) || !within(k, 0, n) || !within(m, 0, n)
        || !within(j, 0, MOST_OF_CHANCE)) {
      return BAD;
    }
    long good = 0;
    for (int i = j; i <= m; i++) {
      good += ways(k, i) * ways(n - k, m - i);
    }
    return fraction.become(good, ways(n, m));
  }

  public int twelve(int trial, int what) {
    if (!book.trials.has(trial) || !within(what, 0, 1)) {
      return BAD;
    }
    court.settle();
    int day = book.trials.at(trial, DAY);
    int seats = book.trials.at(trial, SEATS);
    int pool = what == 0 ? court.hearing(trial).inBox
        : court.truths(book.lawOf(SERVES, day), SERVES, day, book.everyone());
    long alike = 0;
    for (int parish = 0; parish <= LAST_PARISH; parish++) {
      alike += ways(Integer.bitCount(pool & book.peopleWith(PARISH, parish)), seats);
    }
    return fraction.become(alike, ways(Integer.bitCount(pool), seats));
  }

  public long part(int what) {
    if (what == 0) {
      return fraction.above;
    }
    return what == 1 ? fraction.below : -1;
  }

  public int beside(int trial, int text, int sort) {
    if (!book.trials.has(trial) || !isText(text) || !isSort(sort)) {
      return BAD;
    }
    Text other = book.texts.get(text);
    if (reader.read(other) != NONE) {
      return NO;
    }
    court.settle();
    int day = book.trials.at(trial, DAY);
    court.hear(trial, court.spare, sort == SERVES ? other : book.lawOf(SERVES, day),
        sort == EXCUSED ? other : book.lawOf(EXCUSED, day));
    return court.hearing(trial).sworn ^ court.spare.sworn;
  }

  public int clash(int trials, int what) {
    boolean isSet = (trials & ~lowBits(book.trials.size())) == 0
        && Integer.bitCount(trials) <= Waits.MOST;
    boolean isAsked = what == NONE || book.trials.has(what) && hasBit(trials, what);
    if (!isSet || !isAsked) {
      return BAD_CLASH;
    }
    waits.seek(book, trials);
    if (waits.leastSum == NONE) {
      return NO_DAYS;
    }
    return what == NONE ? waits.leastSum : waits.bestAt(Integer.bitCount(trials & lowBits(what)));
  }

  public int turn(int parish, int day) {
    if (!within(parish, 0, LAST_PARISH) || !isDay(day)) {
      return BAD;
    }
    court.settle();
    int among = book.listedOn(day) & book.peopleWith(PARISH, parish);
    return court.nextInTurn(court.truths(book.lawOf(SERVES, day), SERVES, day, among), day);
  }

  // ---- images

  public int image(int i) {
    if (!within(i, 0, MOST_IMAGES - 1)) {
      return BAD;
    }
    images[i].copy(book);
    kept[i] = true;
    return 1;
  }

  public int from(int i) {
    if (!within(i, 0, MOST_IMAGES - 1)) {
      return BAD;
    }
    if (!kept[i]) {
      return NO;
    }
    book.copy(images[i]);
    court.unsettle(0);
    return 1;
  }

  public int count(int what) {
    if (!within(what, 0, 5)) {
      return BAD;
    }
    court.settle();
    return howMany(what);
  }

  public long digest() {
    court.settle();
    long h = 367;
    for (int what = 0; what <= 5; what++) {
      h = 31 * h + howMany(what);
    }
    h = book.people.foldAll(h);
    h = book.facts.foldAll(h);
    h = book.rolls.foldAll(h);
    for (int i = 0; i < book.acts.size(); i++) {
      h = book.laws.get(i).fold(book.acts.foldRow(h, i));
    }
    for (int t = 0; t < book.trials.size(); t++) {
      h = court.hearing(t).fold(h);
    }
    for (int i = 0; i < MOST_TEXTS; i++) {
      h = book.texts.get(i).fold(h);
    }
    h = 31 * h + book.pay;
    h = 31 * h + book.fine;
    h = 31 * h + fraction.above;
    return 31 * h + fraction.below;
  }

  private int howMany(int what) {
    switch (what) {
      case 0: return book.people.size();
      case 1: return book.facts.size();
      case 2: return book.rolls.size();
      case 3: return book.acts.size();
      case 4: return book.trials.size();
      default: return court.sworn();
    }
  }

  private boolean isNextDay(int day) {
    int trials = book.trials.size();
    return isDay(day) && (trials == 0 || day >= book.trials.at(trials - 1, DAY));
  }

  private static boolean within(int number, int least, int most) {
    return number >= least && number <= most;
  }

  private static boolean isDay(int day) {
    return within(day, 0, LAST_DAY);
  }

  private static boolean isText(int text) {
    return within(text, 0, MOST_TEXTS - 1);
  }

  private static boolean isSort(int sort) {
    return sort == SERVES || sort == EXCUSED;
  }

  private static int yearOf(int day) {
    return 100 + day / 100;
  }

  private static boolean hasBit(int bits, int place) {
    return (bits & (1 << place)) != 0;
  }

  private static int lowBits(int many) {
    return (1 << many) - 1;
  }

  private static int likesColumn(int side, int person) {
    return LIKES + side * MOST_PEOPLE + person;
  }

  /** How many ways to take so many of so many; each step's product divides without a rest. */
  private static long ways(int of, int take) {
    if (take < 0 || take > of) {
      return 0;
    }
    long product = 1;
    for (int i = 1; i <= take; i++) {
      product = product * (of - take + i) / i;
    }
    return product;
  }

  /** Rows of numbers, added one by one up to a most. */
  private static final class Rows {
    private final int most;
    private final int width;
    private final int[] cells;
    private int size;

    Rows(int most, int width) {
      this.most = most;
      this.width = width;
      this.cells = new int[most * width];
    }

    int size() {
      return size;
    }

    boolean has(int row) {
      return row >= 0 && row < size;
    }

    /** A new row of zeros: its number, or FULL. */
    int grow() {
      if (size >= most) {
        return FULL;
      }
      size++;
      return size - 1;
    }

    int at(int row, int column) {
      boolean isThere = row >= 0 && row < size && column >= 0 && column < width;
      return isThere ? cells[row * width + column] : 0;
    }

    void set(int row, int column, int value) {
      if (row >= 0 && row < size && column >= 0 && column < width) {
        cells[row * width + column] = value;
      }
    }

    /** Copies the cells behind the last row too, which are zeros: a row that is grown stays clean. */
    void copy(Rows other) {
      size = Math.min(most, other.size);
      System.arraycopy(other.cells, 0, cells, 0, Math.min(cells.length, other.cells.length));
    }

    long foldRow(long h, int row) {
      for (int column = 0; column < width; column++) {
        h = 31 * h + at(row, column);
      }
      return h;
    }

    long foldAll(long h) {
      for (int row = 0; row < size; row++) {
        h = foldRow(h, row);
      }
      return h;
    }
  }

  /**
   * A TEXT as written, and the steps it was read into: a number of 0 or more is itself,
   * a sign stands below 0; each comes behind what it works on.
   */
  private static final class Text {
    private final int[] signs = new int[MOST_SIGNS];
    private final int[] steps = new int[MOST_SIGNS];
    private int length;
    private int stepCount;

    int length() {
      return length;
    }

    int signAt(int place) {
      return place >= 0 && place < length ? signs[place] : 0;
    }

    int put(int sign) {
      if (length >= MOST_SIGNS) {
        return FULL;
      }
      signs[length] = sign;
      length++;
      return length;
    }

    int clear() {
      int old = length;
      length = 0;
      return old;
    }

    int stepCount() {
      return stepCount;
    }

    int stepAt(int place) {
      return place >= 0 && place < stepCount ? steps[place] : 0;
    }

    void forgetSteps() {
      stepCount = 0;
    }

    void addStep(int step) {
      if (stepCount < MOST_SIGNS) {
        steps[stepCount] = step;
        stepCount++;
      }
    }

    void copy(Text other) {
      length = other.length;
      stepCount = other.stepCount;
      System.arraycopy(other.signs, 0, signs, 0, MOST_SIGNS);
      System.arraycopy(other.steps, 0, steps, 0, MOST_SIGNS);
    }

    long fold(long h) {
      h = 31 * h + length;
      for (int i = 0; i < length; i++) {
        h = 31 * h + signs[i];
      }
      return h;
    }
  }

  /** TEXTS by number. */
  private static final class Shelf {
    private final Text[] texts;
    private final Text blank = new Text();

    Shelf(int many) {
      texts = new Text[many];
      for (int i = 0; i < many; i++) {
        texts[i] = new Text();
      }
    }

    Text get(int i) {
      return i >= 0 && i < texts.length ? texts[i] : blank;
    }

    void copy(Shelf other) {
      for (int i = 0; i < texts.length; i++) {
        texts[i].copy(other.get(i));
      }
    }
  }

  /** All that was told; what an image keeps. */
  private static final class Book {
    private final Rows people = new Rows(MOST_PEOPLE, PERSON_WIDTH);
    private final Rows facts = new Rows(MOST_FACTS, FACT_WIDTH);
    private final Rows rolls = new Rows(MOST_ROLLS, ROLL_WIDTH);
    private final Rows acts = new Rows(MOST_ACTS, ACT_WIDTH);
    private final Rows trials = new Rows(MOST_TRIALS, TRIAL_WIDTH);
    private final Shelf laws = new Shelf(MOST_ACTS);
    private final Shelf texts = new Shelf(MOST_TEXTS);
    private int pay = 5;
    private int fine = 20;

    void copy(Book other) {
      people.copy(other.people);
      facts.copy(other.facts);
      rolls.copy(other.rolls);
      acts.copy(other.acts);
      trials.copy(other.trials);
      laws.copy(other.laws);
      texts.copy(other.texts);
      pay = other.pay;
      fine = other.fine;
    }

    int everyone() {
      return lowBits(people.size());
    }

    int peopleWith(int column, int value) {
      int bits = 0;
      for (int i = 0; i < people.size(); i++) {
        if (people.at(i, column) == value) {
          bits |= 1 << i;
        }
      }
      return bits;
    }

    int listedOn(int day) {
      int latest = NONE;
      for (int i = 0; i < rolls.size(); i++) {
        boolean known = rolls.at(i, KNOWN) <= day;
        if (known && (latest == NONE || rolls.at(i, AS_OF) >= rolls.at(latest, AS_OF))) {
          latest = i;
        }
      }
      return latest == NONE ? everyone() : rolls.at(latest, LISTED);
    }

    int inForce(int sort, int day) {
      int latest = NONE;
      for (int i = 0; i < acts.size(); i++) {
        int end = acts.at(i, STRUCK_OUT);
        boolean holds = acts.at(i, SORT) == sort && acts.at(i, SINCE) <= day
            && (end == NONE || end > day);
        if (holds && (latest == NONE || acts.at(i, SINCE) >= acts.at(latest, SINCE))) {
          latest = i;
        }
      }
      return latest;
    }

    /** The text IN FORCE; null: none. */
    Text lawOf(int sort, int day) {
      int act = inForce(sort, day);
      return act == NONE ? null : laws.get(act);
    }

    /** Who is KIN of a side of a TRIAL by the FACTS KNOWN by a DAY. */
    int kinOfSides(int trial, int day) {
      int bits = 0;
      for (int i = 0; i < facts.size(); i++) {
        int family = facts.at(i, FAMILY);
        boolean ofSide = family == trials.at(trial, SIDE) || family == trials.at(trial, SIDE + 1);
        if (ofSide && facts.at(i, KNOWN) <= day) {
          bits |= 1 << facts.at(i, WHO);
        }
      }
      return bits;
    }

    int ofTradeWanted(int trial) {
      int wanted = trials.at(trial, WANTED);
      return wanted == NONE ? everyone() : peopleWith(TRADE, wanted);
    }

    int lastDayOf(int trial) {
      return trials.at(trial, DAY) + trials.at(trial, DAYS) - 1;
    }

    /** Whether a TRIAL, and a later told one, have a DAY in common. */
    boolean overlap(int lesser, int greater) {
      return lastDayOf(lesser) >= trials.at(greater, DAY);
    }

    boolean shareFamily(int one, int other) {
      for (int side = 0; side <= 1; side++) {
        int family = trials.at(one, SIDE + side);
        boolean shared = family == trials.at(other, SIDE) || family == trials.at(other, SIDE + 1);
        if (family != NONE && shared) {
          return true;
        }
      }
      return false;
    }

    boolean shareTrade(int one, int other) {
      int wanted = trials.at(one, WANTED);
      return wanted != NONE && wanted == trials.at(other, WANTED);
    }
  }

  /** Reads a TEXT into its steps, or finds its FAULT. */
  private static final class Reader {
    private static final int MOST_DIGITS = 6, MOST_OPEN = 8;
    private static final int MISPLACED = 1, MANY_DIGITS = 2, MANY_OPEN = 3;

    private final int[] marks = new int[MOST_SIGNS];
    private int markCount;
    private int open;
    /** Bit n: the HELD that is being read with n ( open has its < > = already. */
    private int compared;
    private boolean wantsUnit;

    int read(Text text) {
      text.forgetSteps();
      markCount = 0;
      open = 0;
      compared = 0;
      wantsUnit = true;
      for (int place = 0; place < text.length(); place++) {
        int sign = text.signAt(place);
        if (wantsUnit && isDigit(sign)) {
          int end = digitsEnd(text, place);
          if (end - place > MOST_DIGITS) {
            return 10 * place + MANY_DIGITS;
          }
          text.addStep(numberIn(text, place, end));
          wantsUnit = false;
          place = Math.max(place, end - 1);
        } else if (wantsUnit && sign == '(' && open >= MOST_OPEN) {
          return 10 * place + MANY_OPEN;
        } else if (sign != ' ' && !(wantsUnit ? startsUnit(text, sign) : goesOn(text, sign))) {
          return 10 * place + MISPLACED;
        }
      }
      if (wantsUnit || open > 0) {
        return 10 * text.length() + MISPLACED;
      }
      release(text, Sign.OR);
      return NONE;
    }

    private static boolean isDigit(int sign) {
      return sign >= '0' && sign <= '9';
    }

    private static int digitsEnd(Text text, int place) {
      int end = place;
      while (end < text.length() && isDigit(text.signAt(end))) {
        end++;
      }
      return end;
    }

    private static int numberIn(Text text, int place, int end) {
      int number = 0;
      for (int i = place; i < end; i++) {
        number = 10 * number + text.signAt(i) - '0';
      }
      return number;
    }

    private boolean startsUnit(Text text, int sign) {
      switch (sign) {
        case 'a': case 'l': case 't': case 'p': case 's': case 'y':
          text.addStep(-sign);
          wantsUnit = false;
          return true;
        case '(':
          open++;
          compared &= ~(1 << open);
          hold(sign);
          return true;
        case '!':
          hold(sign);
          return true;
        case '-':
          hold(Sign.LESS);
          return true;
        default:
          return false;
      }
    }

    private boolean goesOn(Text text, int sign) {
      if (sign == ')') {
        return closes(text);
      }
      int rank = Sign.rank(sign);
      boolean again = rank == Sign.COMPARE && hasBit(compared, open);
      if (rank == Sign.BARE || rank == Sign.AHEAD || again) {
        return false;
      }
      if (rank == Sign.COMPARE) {
        compared |= 1 << open;
      } else if (rank < Sign.COMPARE) {
        compared &= ~(1 << open);
      }
      release(text, rank);
      hold(sign);
      wantsUnit = true;
      return true;
    }

    private boolean closes(Text text) {
      if (open == 0) {
        return false;
      }
      open--;
      release(text, Sign.OR);
      // what holds release back here is the ( itself
      markCount = Math.max(0, markCount - 1);
      return true;
    }

    private void hold(int mark) {
      if (markCount < MOST_SIGNS) {
        marks[markCount] = mark;
        markCount++;
      }
    }

    /** Marks that bind at least so fast become steps; a ( holds all behind it back. */
    private void release(Text text, int rank) {
      while (markCount > 0 && Sign.rank(marks[markCount - 1]) >= rank) {
        markCount--;
        text.addStep(-marks[markCount]);
      }
    }
  }

  /** The signs that work on values, and how. */
  private static final class Sign {
    /** The - ahead of a UNIT; a TEXT itself can not have this sign. */
    private static final int LESS = '~';
    /** How fast signs bind; BARE: one that works on nothing. */
    private static final int BARE = 0, OR = 1, AND = 2, COMPARE = 3, ADD = 4, TIMES = 5, AHEAD = 6;

    static int rank(int sign) {
      switch (sign) {
        case '|': return OR;
        case '&': return AND;
        case '<': case '>': case '=': return COMPARE;
        case '+': case '-': return ADD;
        case '*': case '/': return TIMES;
        case '!': case LESS: return AHEAD;
        default: return BARE;
      }
    }

    static long turned(int sign, long value) {
      return sign == '!' ? truth(value == 0) : -value;
    }

    static long joined(int sign, long left, long right) {
      switch (sign) {
        case '|': return truth(left != 0 || right != 0);
        case '&': return truth(left != 0 && right != 0);
        case '<': return truth(left < right);
        case '>': return truth(left > right);
        case '=': return truth(left == right);
        case '+': return left + right;
        case '-': return left - right;
        case '*': return left * right;
        default: return right == 0 ? 0 : left / right;
      }
    }

    private static long truth(boolean is) {
      return is ? 1 : 0;
    }
  }

  /** What comes of a TRIAL; sets of people are bits. */
  private static final class Hearing {
    private final int[] order = new int[MOST_SLIPS];
    private int slips;
    private int lot;
    private int inBox;
    private int called;
    private int missing;
    private int struckBy0;
    private int struckBy1;
    private int sworn;

    void draw(int people, int firstLot, int most) {
      inBox = people;
      lot = firstLot;
      slips = 0;
      called = 0;
      int still = Integer.bitCount(people);
      int last = Math.min(Math.min(most, MOST_SLIPS), still);
      while (slips < last && still > 0) {
        lot = lot * 1103515245 + 12345;
        int person = bitAt(inBox & ~called, (lot >>> 16) % still);
        order[slips] = person;
        slips++;
        still--;
        called |= 1 << person;
      }
    }

    private static int bitAt(int bits, int place) {
      int ahead = 0;
      for (int i = 0; i < MOST_PEOPLE; i++) {
        if (hasBit(bits, i)) {
          if (ahead == place) {
            return i;
          }
          ahead++;
        }
      }
      return 0;
    }

    void strike(Rows trials, int trial) {
      missing = called & trials.at(trial, STAY);
      struckBy0 = 0;
      struckBy1 = 0;
      // a side that finds nobody to strike finds nobody later, so rounds are enough
      for (int round = 0; round < trials.at(trial, STRIKES); round++) {
        struckBy0 |= leastLiked(trials, trial, 0);
        struckBy1 |= leastLiked(trials, trial, 1);
      }
    }

    private int left() {
      return called & ~missing & ~struckBy0 & ~struckBy1;
    }

    /** The bit of whom a side strikes next; 0: it is through. */
    private int leastLiked(Rows trials, int trial, int side) {
      int least = -1;
      int bit = 0;
      for (int i = 0; i < slips; i++) {
        int person = order[i];
        int liking = trials.at(trial, likesColumn(side, person));
        if (hasBit(left(), person) && liking <= least) {
          least = liking;
          bit = 1 << person;
        }
      }
      return bit;
    }

    void seat(int seats, int passers) {
      sworn = 0;
      for (int i = 0; i < slips && Integer.bitCount(sworn) < seats; i++) {
        sworn |= left() & (1 << order[i]);
      }
      for (int i = 0; i < MOST_PEOPLE && Integer.bitCount(sworn) < seats; i++) {
        sworn |= passers & (1 << i);
      }
      if (Integer.bitCount(sworn) < seats) {
        sworn = 0;
      }
    }

    int slipAt(int i) {
      return i >= 0 && i < slips ? order[i] : NONE;
    }

    int standing(int person) {
      if (!hasBit(inBox, person)) {
        return hasBit(sworn, person) ? 7 : 0;
      }
      if (!hasBit(called, person)) {
        return 1;
      }
      if (hasBit(missing, person)) {
        return 2;
      }
      if (hasBit(struckBy0, person)) {
        return 3;
      }
      if (hasBit(struckBy1, person)) {
        return 4;
      }
      return hasBit(sworn, person) ? 5 : 6;
    }

    int figure(int what) {
      switch (what) {
        case 0: return Integer.bitCount(sworn & ~inBox);
        case 1: return Integer.bitCount(struckBy0);
        case 2: return Integer.bitCount(struckBy1);
        default: return lot;
      }
    }

    long fold(long h) {
      h = 31 * h + inBox;
      h = 31 * h + sworn;
      for (int what = 0; what <= 3; what++) {
        h = 31 * h + figure(what);
      }
      return h;
    }
  }

  /** Holds what comes of each TRIAL, and works it out again from the first one that may differ. */
  private static final class Court {
    private static final int NEVER_SAT = 999;

    private final Book book = new Book();
    private final Hearing[] hearings = new Hearing[MOST_TRIALS];
    private final Hearing spare = new Hearing();
    private final long[] values = new long[MOST_SIGNS];
    private int settled;

    Court() {
      for (int i = 0; i < MOST_TRIALS; i++) {
        hearings[i] = new Hearing();
      }
    }

    Hearing hearing(int trial) {
      return trial >= 0 && trial < MOST_TRIALS ? hearings[trial] : spare;
    }

    void unsettle(int first) {
      settled = Math.min(settled, first);
    }

    void settle() {
      for (int t = settled; t < book.trials.size(); t++) {
        int day = book.trials.at(t, DAY);
        hear(t, hearing(t), book.lawOf(SERVES, day), book.lawOf(EXCUSED, day));
      }
      settled = book.trials.size();
    }

    /** Needs the TRIALS ahead settled: a text may ask who sat in them. */
    void hear(int trial, Hearing hearing, Text serving, Text excusing) {
      Rows trials = book.trials;
      int day = trials.at(trial, DAY);
      int clear = book.everyone() & ~book.kinOfSides(trial, day) & ~busy(trial);
      int fit = truths(serving, SERVES, day, clear);
      int listed = fit & book.listedOn(day) & book.ofTradeWanted(trial);
      int excused = truths(excusing, EXCUSED, day, listed);
      hearing.draw(listed & ~excused, trials.at(trial, LOT), trials.at(trial, SLIPS));
      hearing.strike(trials, trial);
      hearing.seat(trials.at(trial, SEATS), fit & ~hearing.inBox);
    }

    /** Who sits in a TRIAL of a lesser number with a DAY in common. */
    private int busy(int trial) {
      int bits = 0;
      for (int t = 0; t < trial; t++) {
        if (book.overlap(t, trial)) {
          bits |= hearing(t).sworn;
        }
      }
      return bits;
    }

    /** Of some people those of whom a law of a sort tells a truth on a DAY; null: no law. */
    int truths(Text law, int sort, int day, int among) {
      if (law == null) {
        return sort == SERVES ? among : 0;
      }
      int bits = 0;
      for (int i = 0; i < book.people.size(); i++) {
        if (hasBit(among, i) && tell(law, i, day) != 0) {
          bits |= 1 << i;
        }
      }
      return bits;
    }

    /** What a TEXT that was read tells of a person on a DAY. */
    long tell(Text text, int person, int day) {
      int top = 0;
      for (int i = 0; i < text.stepCount(); i++) {
        int step = text.stepAt(i);
        int rank = step < 0 ? Sign.rank(-step) : Sign.BARE;
        if (rank == Sign.BARE && top < MOST_SIGNS) {
          values[top] = step >= 0 ? step : letter(-step, person, day);
          top++;
        } else if (rank == Sign.AHEAD && top >= 1) {
          values[top - 1] = Sign.turned(-step, values[top - 1]);
        } else if (top >= 2) {
          top--;
          values[top - 1] = Sign.joined(-step, values[top - 1], values[top]);
        }
      }
      return values[0];
    }

    private long letter(int sign, int person, int day) {
      switch (sign) {
        case 'a': return yearOf(day) - book.people.at(person, BORN);
        case 'l': return book.people.at(person, LAND);
        case 't': return book.people.at(person, TRADE);
        case 'p': return book.people.at(person, PARISH);
        case 's': return timesSat(person, day);
        default: return yearsSince(person, day);
      }
    }

    private int timesSat(int person, int day) {
      int times = 0;
      for (int t = 0; t < book.trials.size(); t++) {
        if (book.trials.at(t, DAY) < day && hasBit(hearing(t).sworn, person)) {
          times++;
        }
      }
      return times;
    }

    private int yearsSince(int person, int day) {
      int years = NEVER_SAT;
      // TRIALS stand by days, so the last one found is the latest
      for (int t = 0; t < book.trials.size(); t++) {
        int began = book.trials.at(t, DAY);
        if (began < day && hasBit(hearing(t).sworn, person)) {
          years = yearOf(day) - yearOf(began);
        }
      }
      return years;
    }

    /** Of some people whose TURN it is. */
    int nextInTurn(int among, int day) {
      int next = NONE;
      for (int i = 0; i < book.people.size(); i++) {
        if (hasBit(among, i) && (next == NONE || isAhead(i, next, day))) {
          next = i;
        }
      }
      return next;
    }

    private boolean isAhead(int one, int other, int day) {
      int order = Integer.compare(timesSat(one, day), timesSat(other, day));
      return order < 0
          || order == 0 && yearsSince(one, day) > yearsSince(other, day);
    }

    /** How many TRIALS have a JURY. */
    int sworn() {
      int many = 0;
      for (int t = 0; t < book.trials.size(); t++) {
        if (hearing(t).sworn != 0) {
          many++;
        }
      }
      return many;
    }
  }

  /** A fraction in lowest terms. */
  private static final class Fraction {
    private static final int MOST_STEPS = 200;

    private long above = 0;
    private long below = 1;

    /** Of no ways at all nothing comes: 0 by 1. */
    int become(long good, long all) {
      long shared = commonDivisor(good, all);
      if (good <= 0 || all <= 0 || shared <= 0) {
        above = 0;
        below = 1;
        return 0;
      }
      above = good / shared;
      below = all / shared;
      return 1;
    }

    private static long commonDivisor(long one, long other) {
      long greater = one;
      long lesser = other;
      for (int i = 0; i < MOST_STEPS && lesser != 0; i++) {
        long rest = greater % lesser;
        greater = lesser;
        lesser = rest;
      }
      return greater;
    }
  }

  /** Seeks the days that each of a set of TRIALS waits. */
  private static final class Waits {
    private static final int MOST = 6, LONGEST = 5, MOST_STEPS = 1000000;

    private final int[] trials = new int[MOST];
    private final int[] waits = new int[MOST];
    private final int[] best = new int[MOST];
    /** Bit j of i: TRIALS i and j of the set must have no DAY in common. */
    private final int[] foes = new int[MOST];
    private int many;
    private int leastSum;

    int bestAt(int place) {
      return place >= 0 && place < many ? best[place] : 0;
    }

    /** Rows are tried as they stand by TRIALS, so a later one must be less to be taken. */
    void seek(Book book, int set) {
      gather(book, set);
      leastSum = many == 0 ? 0 : NONE;
      int at = 0;
      waits[0] = -1;
      for (int step = 0; step < MOST_STEPS && at >= 0 && at < many; step++) {
        waits[at]++;
        int sum = sumTo(at);
        if (waits[at] > longestOf(at) || leastSum != NONE && sum >= leastSum) {
          at--;
        } else if (fits(book, at)) {
          if (at == many - 1) {
            leastSum = sum;
            System.arraycopy(waits, 0, best, 0, MOST);
          } else {
            at++;
            waits[at] = -1;
          }
        }
      }
    }

    private void gather(Book book, int set) {
      many = 0;
      for (int t = 0; t < book.trials.size() && many < MOST; t++) {
        if (hasBit(set, t)) {
          trials[many] = t;
          foes[many] = 0;
          many++;
        }
      }
      for (int i = 0; i < many; i++) {
        for (int j = 0; j < i; j++) {
          if (book.shareFamily(trials[i], trials[j]) || book.shareTrade(trials[i], trials[j])) {
            foes[i] |= 1 << j;
            foes[j] |= 1 << i;
          }
        }
      }
    }

    /** One that nothing can clash with has no cause to wait. */
    private int longestOf(int at) {
      return foes[at] == 0 ? 0 : LONGEST;
    }

    private int sumTo(int at) {
      int sum = 0;
      for (int i = 0; i <= at; i++) {
        sum += waits[i];
      }
      return sum;
    }

    private boolean fits(Book book, int at) {
      int first = book.trials.at(trials[at], DAY) + waits[at];
      int last = book.lastDayOf(trials[at]) + waits[at];
      for (int i = 0; i < at; i++) {
        boolean ends = book.lastDayOf(trials[i]) + waits[i] < first;
        boolean begins = book.trials.at(trials[i], DAY) + waits[i] > last;
        if (hasBit(foes[at], i) && !ends && !begins) {
          return false;
        }
      }
      return true;
    }
  }
}

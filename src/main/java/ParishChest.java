import java.util.Arrays;

/**
 * A parish chest: register lines, souls joined of their mentions, laws and vestry words, holdings, rates,
 * offices and accounts, all as known on any day. DOC.md's words in capitals are the words of the comments here.
 */
public final class ParishChest {

    public static final int NONE = -1;

    private static final int NO_NUMBER = -1;
    private static final int NO_SUCH = -2;
    private static final int CANNOT_BE = -3;
    private static final int TWICE = -4;
    private static final int NO_ROOM = -5;
    private static final int NO_TEXT = -6;

    private static final int YEAR_DAYS = 366;
    private static final int LAST_YEAR = 399;
    private static final int LAST_DAY = 146399;
    private static final int LAST_HAND = 15;
    private static final int LAST_PARISH = 11;
    private static final int LAST_OFFICE = 3;
    private static final int LAST_IMAGE = 3;
    private static final int NOTHING = -2000000000;
    private static final long NO_SUM = -2000000000000L;

    private static final int MOST_LINES = 200;
    private static final int MOST_MENTIONS = 600;
    private static final int MOST_NAMES = 1200;
    private static final int MOST_TEXTS = 30;
    private static final int MOST_CLAUSES = 12;
    private static final int MOST_HOLDINGS = 40;
    private static final int MOST_WISHES = 9;
    private static final int CROPS = 3;

    private static final int BIRTHS = 0;
    private static final int WEDDINGS = 1;
    private static final int BURIALS = 2;
    private static final int RATES = 3;
    private static final int RELIEF = 4;
    private static final int ORDERS = 5;
    private static final int[] ROLES_OF = {3, 2, 1, 1, 1, 1};

    // What a MENTION is, over all BOOKS: its BOOK's first code and its ROLE.
    private static final int[] FIRST_CODE = {0, 3, 5, 6, 7, 8};
    private static final int CHILD = 0;
    private static final int FATHER = 1;
    private static final int MOTHER = 2;
    private static final int GROOM = 3;
    private static final int BRIDE = 4;
    private static final int DEAD = 5;
    private static final int RELIEVED = 7;

    // Columns: the first of nearly all rows is the DAY from which they are KNOWN.
    private static final int KNOWN = 0;
    private static final int DAY = 1;
    private static final int FROM = 1;
    private static final int YEAR = 1;
    private static final int TO = 2;
    private static final int LINE_BOOK = 2;
    private static final int LINE_HAND = 3;
    private static final int LINE_NUMBER = 4;
    private static final int LINE_TORN = 5;
    private static final int NAME_LENGTH = 0;
    private static final int NAME_TORN = 1;
    private static final int NAME_LETTERS = 2;
    private static final int NAME_WIDTH = 14;
    private static final int PAGE_BOOK = 3;
    private static final int FACT_MENTION = 3;
    private static final int FACT_GROUND = 4;
    private static final int FACT_PARISH = 5;
    private static final int APPEAL_LINE = 2;
    private static final int OF_HOLDING = 2;
    private static final int TOLD_VALUE = 3;
    private static final int TOLD_HOLDER = 3;
    private static final int PARENT = 2;
    private static final int PART_A = 3;
    private static final int PART_B = 4;
    private static final int LEVY_WHAT = 2;
    private static final int LEVY_PENCE = 3;
    private static final int PAID_LEVY = 3;
    private static final int PAID_PENCE = 4;
    private static final int OFFICE = 2;
    private static final int PENCE = 3;
    private static final int CLOSED_ON = 0;
    private static final int PRICE_CROP = 2;
    private static final int PRICE_SUM = 3;
    private static final int THING_SORT = 0;
    private static final int THING_NUMBER = 1;
    private static final int SEAL_WIDTH = 4;

    private static final int CERTIFICATE = 4;
    private static final int HIRE_DAYS = 365;
    private static final int RENT_DAYS = 40;

    private static final int GROWN_DAYS = 14 * 366;
    private static final int MOTHER_DAYS = 50 * 366;
    private static final int LIFE_DAYS = 110 * 366;
    private static final int PAGE_DAYS = 3660;

    private final Chest told = new Chest();
    private final Chest[] images = new Chest[LAST_IMAGE + 1];
    private final Tape tape = new Tape();
    private final Scribe scribe = new Scribe(told, tape);
    private final Souls souls = new Souls(told, scribe);
    private final Joining joining = new Joining(told, souls);
    private final Clerk clerk = new Clerk(tape);
    private final Bench bench = new Bench(told, souls);
    private final Rates rates = new Rates(told, souls, bench);
    private final Settlement settlement = new Settlement(told, souls, bench);
    private final int[] acres = new int[MOST_HOLDINGS * CROPS];
    private final long[] sums = new long[SEAL_WIDTH];
    private int status = 0;

    public ParishChest() {
    }

    // ---- the TAPE

    public int feed(int a, int b, int c, int d, int e) {
        if (!tape.hasRoomFor(20)) {
            return NONE;
        }
        tape.append(a);
        tape.append(b);
        tape.append(c);
        tape.append(d);
        tape.append(e);
        return tape.length;
    }

    public int end(int n) {
        if (n < 0 || n > tape.length) {
            return NONE;
        }
        tape.length = n;
        return n;
    }

    public int fault() {
        return tape.fault;
    }

    // ---- LINES and NAMES

    public int line(int book, int hand, int day, int known, int number) {
        if (!isBook(book) || hand < 0 || hand > LAST_HAND || !isDay(day) || !isDay(known) || !fitsBook(book, number)) {
            return refuseTape(NO_NUMBER);
        }
        if (told.lines.isFull()) {
            return refuseTape(NO_ROOM);
        }
        int torn = scribe.readLine(ROLES_OF[book]);
        if (torn == NONE) {
            return refuseTape(NO_TEXT);
        }
        tape.length = 0;
        int line = told.lines.rows;
        told.lines.add(known, day, book, hand, number, torn);
        for (int n = 0; n < 6; n++) {
            told.names.addFrom(scribe.draft, n * NAME_WIDTH);
        }
        told.things.add(0, line, 0, 0, 0, 0);
        learn(line);
        return accept(line);
    }

    public int of(int line, int what) {
        if (!isLine(line)) {
            return NO_SUCH;
        }
        switch (what) {
            case 0: return told.lines.at(line, LINE_BOOK);
            case 1: return told.lines.at(line, LINE_HAND);
            case 2: return told.lines.at(line, DAY);
            case 3: return told.lines.at(line, LINE_NUMBER);
            case 4: return told.lines.at(line, LINE_TORN);
            case 5: return rolesOf(line);
            default: return NO_SUCH;
        }
    }

    public int spell(int hand) {
        if (hand < 0 || hand > LAST_HAND) {
            return refuseTape(NO_NUMBER);
        }
        int pairs = scribe.readPairs();
        if (pairs == NONE) {
            return refuseTape(NO_TEXT);
        }
        tape.length = 0;
        scribe.keepPairs(hand, pairs);
        for (int line = 0; line < told.lines.rows; line++) {
            if (told.lines.at(line, LINE_HAND) == hand) {
                scribe.learn(line);
            }
        }
        return accept(pairs);
    }

    public int name(int mention, int which, int i) {
        if (!souls.isMention(mention) || which < 0 || which > 1 || i < NONE) {
            return NONE;
        }
        int length = Math.max(0, scribe.lengthOf(mention, which));
        if (i == NONE) {
            return length;
        }
        return i < length ? scribe.letterOf(mention, which, i) : NONE;
    }

    public int piece(int mention, int which, int from, int n) {
        if (n < 0 || n > 6) {
            return NO_NUMBER;
        }
        if (!souls.isMention(mention) || which < 0 || which > 1) {
            return NO_SUCH;
        }
        int row = mention * 2 + which;
        int length = told.names.at(row, NAME_LENGTH);
        if (length == 0) {
            return NO_SUCH;
        }
        if (from < 0 || from > length || n > length - from) {
            return CANNOT_BE;
        }
        int answer = 0;
        for (int i = 0; i < n; i++) {
            answer = answer * 27 + told.names.at(row, NAME_LETTERS + from + i) - 'a' + 1;
        }
        return answer;
    }

    // ---- SOULS

    public int terms(int given, int family, int ages, int kin, int slack) {
        if (!isWithin(given, 0, 100) || !isWithin(family, 0, 100) || !isWithin(ages, 0, 100) || !isWithin(kin, 0, 100)
                || !isWithin(slack, 0, 20)) {
            return refuse(NO_NUMBER);
        }
        souls.given = given;
        souls.family = family;
        souls.ages = ages;
        souls.kindred = kin;
        souls.slack = slack;
        return accept(0);
    }

    public int reason(int a, int b) {
        if (!souls.isMention(a) || !souls.isMention(b)) {
            return NONE;
        }
        return souls.reasonFor(a, b);
    }

    public int worth(int a, int b) {
        if (!souls.isMention(a) || !souls.isMention(b)) {
            return NONE;
        }
        return souls.worthOf(a, b);
    }

    public int apart(int a, int b) {
        if (!souls.isMention(a) || !souls.isMention(b)) {
            return refuse(NO_SUCH);
        }
        if (a == b) {
            return refuse(CANNOT_BE);
        }
        if (told.aparts.isFull()) {
            return refuse(NO_ROOM);
        }
        told.aparts.add(a, b, 0, 0, 0, 0);
        return accept(0);
    }

    public int together(int a, int b, int known) {
        if (!isDay(known)) {
            return refuse(NO_NUMBER);
        }
        if (!souls.isMention(a) || !souls.isMention(b)) {
            return refuse(NO_SUCH);
        }
        if (soulOn(a, LAST_DAY) == soulOn(b, LAST_DAY)) {
            return refuse(TWICE);
        }
        if (told.bonds.isFull()) {
            return refuse(NO_ROOM);
        }
        told.bonds.add(known, a, b, 0, 0, 0);
        return accept(told.bonds.rows);
    }

    public int waits(int known, int i) {
        if (!isDay(known)) {
            return NONE;
        }
        souls.asKnown(known);
        if (i == NONE) {
            return souls.waitingCount;
        }
        return i >= 0 && i < souls.waitingCount && i < souls.waiting.length ? souls.waiting[i] : NONE;
    }

    public int soul(int mention, int known) {
        return soulOn(mention, known);
    }

    public int mentions(int mention, int known, int what, int i) {
        int soul = soulOn(mention, known);
        if (soul == NONE) {
            return NONE;
        }
        if (what == 0) {
            return souls.sizeOf(soul);
        }
        return what == 1 ? souls.mentionOf(soul, i) : NONE;
    }

    public int kin(int mention, int known, int what, int i) {
        int soul = soulOn(mention, known);
        if (soul == NONE) {
            return NONE;
        }
        switch (what) {
            case 0: return souls.parentOf(soul, 1);
            case 1: return souls.parentOf(soul, 2);
            case 2: return souls.childOf(soul, i);
            case 3: return souls.spouseOf(soul, i);
            default: return NONE;
        }
    }

    public int span(int mention, int known, int what) {
        int soul = soulOn(mention, known);
        if (soul == NONE || what < 0 || what > 3) {
            return NONE;
        }
        souls.readSpan(soul);
        return souls.span[what];
    }

    // ---- the BEST JOINING

    public int wish(int mention) {
        if (!souls.isMention(mention)) {
            return refuse(NO_SUCH);
        }
        if (joining.isWished(mention)) {
            return refuse(TWICE);
        }
        if (joining.wished >= MOST_WISHES) {
            return refuse(NO_ROOM);
        }
        joining.put(mention);
        return accept(joining.wished);
    }

    public int clear() {
        int were = joining.wished;
        joining.empty();
        return were;
    }

    public int best(int what, int n) {
        if (what < 0 || what > 3 || what == 3 && (n < 0 || n > 1000)) {
            return NONE;
        }
        souls.asKnown(LAST_DAY);
        joining.settle();
        switch (what) {
            case 0: return joining.bestWorth;
            case 1: return joining.bestGroups;
            case 2: return joining.bound;
            default: return joining.rivalsWithin(n);
        }
    }

    public int group(int wish) {
        if (wish < 0 || wish >= joining.wished) {
            return NONE;
        }
        souls.asKnown(LAST_DAY);
        joining.settle();
        return joining.groupOf(wish);
    }

    public int join(int known) {
        if (!isDay(known)) {
            return refuse(NO_NUMBER);
        }
        souls.asKnown(LAST_DAY);
        joining.settle();
        int news = 0;
        for (int i = 0; i < joining.wished; i++) {
            if (joining.isNews(i)) {
                news++;
            }
        }
        if (told.bonds.rows + news > told.bonds.most) {
            return refuse(NO_ROOM);
        }
        for (int i = 0; i < joining.wished; i++) {
            if (joining.isNews(i)) {
                told.bonds.add(known, joining.mentionAt(joining.aheadOf(i)), joining.mentionAt(i), 0, 0, 0);
            }
        }
        return accept(news);
    }

    // ---- PAGES

    public int torn(int book, int from, int to, int known) {
        if (!isBook(book) || !isDay(from) || !isDay(to) || to < from || !isDay(known)) {
            return refuse(NO_NUMBER);
        }
        if (told.pages.isFull()) {
            return refuse(NO_ROOM);
        }
        told.pages.add(known, from, to, book, 0, 0);
        return accept(told.pages.rows);
    }

    public int fill(int book, int from, int to, int known, int what) {
        if (!isBook(book) || !isDay(from) || !isDay(to) || to < from || !isDay(known) || what < 0 || what > 2) {
            return NONE;
        }
        if (what == 2) {
            return guessedOf(book, from, to, known);
        }
        souls.asKnown(known);
        int least = leastOf(book, from, to);
        return what == 0 ? least : Math.max(least, mostOf(book, to - from, known));
    }

    // ---- LAWS and WORDS

    public int text(int sort, int from, int known) {
        if (sort < 0 || sort > 1 || !isDay(from) || !isDay(known)) {
            return refuseTape(NO_NUMBER);
        }
        if (told.textCount >= MOST_TEXTS) {
            return refuseTape(NO_ROOM);
        }
        Text text = clerk.read(sort, from, known);
        if (text == null) {
            return refuseTape(NO_TEXT);
        }
        tape.length = 0;
        int number = told.textCount;
        told.texts[number] = text;
        told.textCount = number + 1;
        told.things.add(1, number, 0, 0, 0, 0);
        return accept(number);
    }

    public int force(int text, int clause, int day, int known) {
        if (!isClause(text, clause) || !isDay(day) || !isDay(known)) {
            return NONE;
        }
        bench.readLaws(day, known);
        return bench.isInForce(text, clause) ? 1 : 0;
    }

    public int holds(int text, int clause, int mention, int day, int known) {
        if (!isClause(text, clause) || !isDay(day)) {
            return NONE;
        }
        int soul = soulOn(mention, known);
        if (soul == NONE) {
            return NONE;
        }
        bench.turnTo(day, known);
        return bench.holdsFor(text, clause, soul) ? 1 : 0;
    }

    public long counts(int kind, int mention, int day, int known, int what) {
        if (kind < 0 || kind > 7 || what < 0 || what > 2 || !isDay(day)) {
            return NO_SUM;
        }
        int soul = soulOn(mention, known);
        if (soul == NONE) {
            return NO_SUM;
        }
        bench.turnTo(day, known);
        if (!bench.weigh(Clerk.KIND_OF[kind], Clerk.WHICH_OF[kind], soul)) {
            return NO_SUM;
        }
        if (what == 0) {
            return bench.weight;
        }
        return what == 1 ? bench.counted : bench.quarrels;
    }

    public long about(int mention, int day, int known, int what) {
        if (!isDay(day) || what < 0 || what > 9) {
            return NONE;
        }
        int soul = soulOn(mention, known);
        if (soul == NONE) {
            return NONE;
        }
        bench.turnTo(day, known);
        return bench.quantity(what, soul);
    }

    // ---- where a SOUL BELONGS

    public int fact(int mention, int ground, int parish, int from, int to, int known) {
        if (ground < 0 || ground > CERTIFICATE || parish < 0 || parish > LAST_PARISH || !isDay(from) || !isDay(to)
                || to < from || !isDay(known)) {
            return refuse(NO_NUMBER);
        }
        if (!souls.isMention(mention)) {
            return refuse(NO_SUCH);
        }
        if (told.facts.isFull()) {
            return refuse(NO_ROOM);
        }
        told.things.add(2, told.facts.rows, 0, 0, 0, 0);
        told.facts.add(known, from, to, mention, ground, parish);
        return accept(told.facts.rows);
    }

    public int belong(int mention, int day, int known, int what) {
        if (!isDay(day) || what < 0 || what > 2) {
            return NONE;
        }
        int soul = soulOn(mention, known);
        if (soul == NONE) {
            return NONE;
        }
        settlement.known = known;
        int parish = settlement.belongs(soul, day, 0);
        if (what == 0) {
            return parish;
        }
        return what == 1 ? settlement.by : settlement.lacks;
    }

    public int order(int line, int known, int what) {
        if (!isKnownLine(line, known) || told.lines.at(line, LINE_BOOK) != ORDERS || what < 0 || what > 2) {
            return NONE;
        }
        int soul = soulOn(line * 3, known);
        boolean good = isGood(line, soul, known);
        if (what == 0) {
            return good ? 1 : 0;
        }
        int appeal = firstAppeal(line, known);
        if (good || appeal == NONE) {
            return 0;
        }
        if (what == 1) {
            return 1;
        }
        return souls.reliefOf(soul, told.lines.at(line, DAY), told.appeals.at(appeal, DAY));
    }

    public int appeal(int line, int day, int known) {
        if (!isDay(day) || !isDay(known)) {
            return refuse(NO_NUMBER);
        }
        if (!isLine(line) || told.lines.at(line, LINE_BOOK) != ORDERS) {
            return refuse(NO_SUCH);
        }
        if (day < told.lines.at(line, DAY)) {
            return refuse(NO_NUMBER);
        }
        if (told.appeals.isFull()) {
            return refuse(NO_ROOM);
        }
        told.appeals.add(known, day, line, 0, 0, 0);
        return accept(told.appeals.rows);
    }

    // ---- HOLDINGS

    public int holding() {
        if (told.holdings.isFull()) {
            return refuse(NO_ROOM);
        }
        return accept(addHolding(NONE, 0, 0, 0, 0));
    }

    public int value(int holding, int value, int day, int known) {
        if (value < 0 || value > 10000 || !isDay(day) || !isDay(known)) {
            return refuse(NO_NUMBER);
        }
        if (!isHolding(holding)) {
            return refuse(NO_SUCH);
        }
        if (told.holdings.at(holding, PARENT) != NONE) {
            return refuse(CANNOT_BE);
        }
        if (told.values.isFull()) {
            return refuse(NO_ROOM);
        }
        told.values.add(known, day, holding, value, 0, 0);
        return accept(told.values.rows);
    }

    public int split(int holding, int a, int b, int day, int known) {
        if (!isWithin(a, 1, 100) || !isWithin(b, 1, 100) || a >= b || !isDay(day) || !isDay(known)) {
            return refuse(NO_NUMBER);
        }
        if (!isHolding(holding)) {
            return refuse(NO_SUCH);
        }
        if (told.holdings.isFull()) {
            return refuse(NO_ROOM);
        }
        return accept(addHolding(holding, a, b, day, known));
    }

    public int hold(int holding, int mention, int day, int known) {
        if (!isDay(day) || !isDay(known)) {
            return refuse(NO_NUMBER);
        }
        if (!isHolding(holding) || mention != NONE && !souls.isMention(mention)) {
            return refuse(NO_SUCH);
        }
        if (told.helds.isFull()) {
            return refuse(NO_ROOM);
        }
        told.helds.add(known, day, holding, mention, 0, 0);
        return accept(told.helds.rows);
    }

    public int house(int holding, int day, int known, int what) {
        if (!isHolding(holding) || !isDay(day) || !isDay(known) || what < 0 || what > 1) {
            return NONE;
        }
        souls.asKnown(known);
        bench.readHouses(day, known);
        return what == 0 ? bench.left[holding] : bench.holder[holding];
    }

    // ---- LEVIES

    public int levy(int what, int year, int pence, int known) {
        if (what < 0 || what > 2 || !isYear(year) || !isWithin(pence, 0, 1000000) || !isDay(known)) {
            return refuse(NO_NUMBER);
        }
        if (told.levies.isFull()) {
            return refuse(NO_ROOM);
        }
        told.levies.add(known, year, what, pence, 0, 0);
        return accept(told.levies.rows - 1);
    }

    public int owe(int levy, int holding, int known) {
        if (!isDay(known) || !told.levies.isKnown(levy, known) || holding != NONE && !isHolding(holding)) {
            return NONE;
        }
        souls.asKnown(known);
        rates.partOut(levy, known);
        return holding == NONE ? rates.owedByAll() : rates.owed[holding];
    }

    public int pay(int levy, int holding, int pence, int day, int known) {
        if (!isWithin(pence, 1, 1000000) || !isDay(day) || !isDay(known)) {
            return refuse(NO_NUMBER);
        }
        if (levy < 0 || levy >= told.levies.rows || !isHolding(holding)) {
            return refuse(NO_SUCH);
        }
        if (told.paid.isFull()) {
            return refuse(NO_ROOM);
        }
        told.paid.add(known, day, holding, levy, pence, 0);
        return accept(told.paid.rows);
    }

    public int arrear(int levy, int holding, int day, int known) {
        if (!isDay(day) || !isDay(known) || !told.levies.isKnown(levy, known) || !isHolding(holding)) {
            return NOTHING;
        }
        souls.asKnown(known);
        rates.partOut(levy, known);
        int due = rates.owed[holding];
        for (int row = 0; row < told.paid.rows; row++) {
            if (told.paid.isKnown(row, known) && told.paid.at(row, DAY) <= day
                    && told.paid.at(row, OF_HOLDING) == holding && told.paid.at(row, PAID_LEVY) == levy) {
                due -= told.paid.at(row, PAID_PENCE);
            }
        }
        return due;
    }

    // ---- OFFICES and ACCOUNTS

    public int turn(int office, int year, int known, int what) {
        if (!isOffice(office) || !isYear(year) || !isDay(known) || what < 0 || what > 2) {
            return NONE;
        }
        souls.asKnown(known);
        rates.runTurns(office, year, known);
        switch (what) {
            case 0: return rates.servedBy[year];
            case 1: return rates.passedIn[year];
            default: return rates.unevenness(year);
        }
    }

    public int entry(int office, int year, int pence, int known) {
        if (!isOffice(office) || !isYear(year) || !isWithin(pence, -1000000, 1000000) || !isDay(known)) {
            return refuse(NO_NUMBER);
        }
        if (told.entries.isFull()) {
            return refuse(NO_ROOM);
        }
        told.entries.add(known, year, office, pence, 0, 0);
        return accept(told.entries.rows);
    }

    public int close(int office, int year, int balance, int day) {
        if (!isOffice(office) || !isYear(year) || !isDay(day)) {
            return refuse(NO_NUMBER);
        }
        int last = lastClosed(office);
        if (last != NONE && year != last + 1 || balance != balanceOf(office, year, day)) {
            return refuse(CANNOT_BE);
        }
        if (told.closings.isFull()) {
            return refuse(NO_ROOM);
        }
        told.closings.add(day, year, office, balance, 0, 0);
        return accept(0);
    }

    public int balance(int office, int year, int known) {
        if (!isOffice(office) || !isYear(year) || !isDay(known)) {
            return NOTHING;
        }
        return balanceOf(office, year, known);
    }

    // ---- relief, BADGES, SEATS, FEES, TITHES

    public int beyond(int line, int known) {
        if (!isKnownLine(line, known) || told.lines.at(line, LINE_BOOK) != RELIEF) {
            return NONE;
        }
        int soul = soulOn(line * 3, known);
        bench.turnTo(told.lines.at(line, DAY), known);
        bench.weigh(Clerk.RELIEF_SUM, 0, soul);
        long above = told.lines.at(line, LINE_NUMBER) - Math.max(0L, bench.weight);
        return (int) Math.max(0L, above);
    }

    public int badge(int mention, int day, int known) {
        if (!isDay(day)) {
            return NONE;
        }
        int soul = soulOn(mention, known);
        if (soul == NONE) {
            return NONE;
        }
        bench.turnTo(day, known);
        return bench.quantity(7, soul) == 1 && bench.weigh(Clerk.BADGE, 0, soul) ? 1 : 0;
    }

    public int seat(int day, int known, int i) {
        if (!isDay(day) || !isDay(known)) {
            return NONE;
        }
        souls.asKnown(known);
        rates.seatAll(day, known);
        if (i == NONE) {
            return rates.seatCount;
        }
        return i >= 0 && i < rates.seatCount && i < rates.seats.length ? rates.seats[i] : NONE;
    }

    public long fee(int line, int known) {
        if (!isKnownLine(line, known)) {
            return NONE;
        }
        int soul = soulOn(line * 3, known);
        bench.turnTo(told.lines.at(line, DAY), known);
        switch (told.lines.at(line, LINE_BOOK)) {
            case BURIALS: return feeOf(0, soul) + feeOf(1, soul);
            case WEDDINGS: return feeOf(2, soul);
            default: return 0;
        }
    }

    public int acres(int holding, int crop, int acres) {
        if (!isCrop(crop) || !isWithin(acres, 0, 1000)) {
            return refuse(NO_NUMBER);
        }
        if (!isHolding(holding)) {
            return refuse(NO_SUCH);
        }
        this.acres[holding * CROPS + crop] = acres;
        return accept(0);
    }

    public int price(int crop, int year, int price, int known) {
        if (!isCrop(crop) || !isYear(year) || !isWithin(price, 0, 10000) || !isDay(known)) {
            return refuse(NO_NUMBER);
        }
        if (told.prices.isFull()) {
            return refuse(NO_ROOM);
        }
        told.prices.add(known, year, crop, price, 0, 0);
        return accept(told.prices.rows);
    }

    public int coin(int holding, int year, int known) {
        if (!isHolding(holding) || !isYear(year) || !isDay(known)) {
            return NONE;
        }
        // 420 is a multiple of 1 .. 7, so that all CROPS have one divisor.
        long parts = 0;
        for (int crop = 0; crop < CROPS; crop++) {
            long together = 0;
            int priced = 0;
            for (int y = Math.max(0, year - 7); y < year; y++) {
                int price = priceOf(crop, y, known);
                if (price != NONE) {
                    together += price;
                    priced++;
                }
            }
            if (priced > 0) {
                parts += acres[holding * CROPS + crop] * together * (420 / priced);
            }
        }
        return (int) (parts / 4200);
    }

    // ---- seals

    public int seal(int year) {
        if (!isYear(year)) {
            return refuse(NO_NUMBER);
        }
        sumYear(year, told.seals, year * SEAL_WIDTH);
        return accept((int) told.seals[year * SEAL_WIDTH + 1]);
    }

    public int alter(int line, int mask) {
        if (!isWithin(mask, 1, 255)) {
            return refuse(NO_NUMBER);
        }
        if (!isLine(line)) {
            return refuse(NO_SUCH);
        }
        int number = told.lines.at(line, LINE_NUMBER) ^ mask;
        told.lines.put(line, LINE_NUMBER, number);
        souls.learn(line);
        return accept(number);
    }

    public int found(int year) {
        if (!isYear(year) || told.seals[year * SEAL_WIDTH] == 0) {
            return CANNOT_BE;
        }
        int at = year * SEAL_WIDTH;
        sumYear(year, sums, 0);
        long off = told.seals[at + 2] - sums[2];
        long offByPlace = told.seals[at + 3] - sums[3];
        if (told.seals[at + 1] != sums[1]) {
            return NO_SUCH;
        }
        if (off == 0) {
            return offByPlace == 0 ? NONE : NO_SUCH;
        }
        int place = 0;
        for (int line = 0; line < told.lines.rows; line++) {
            if (yearOf(line) == year) {
                place++;
                if (off * place == offByPlace) {
                    return line;
                }
            }
        }
        return NO_SUCH;
    }

    // ---- IMAGES, THINGS, counts

    public int image(int k) {
        if (!isWithin(k, 0, LAST_IMAGE)) {
            return refuse(NO_NUMBER);
        }
        Chest kept = images[k];
        if (kept == null) {
            kept = new Chest();
            images[k] = kept;
        }
        kept.copyFrom(told);
        return accept(0);
    }

    public int back(int k) {
        if (!isWithin(k, 0, LAST_IMAGE)) {
            return refuse(NO_NUMBER);
        }
        Chest kept = images[k];
        if (kept == null) {
            return refuse(NO_SUCH);
        }
        told.copyFrom(kept);
        for (int line = 0; line < told.lines.rows; line++) {
            learn(line);
        }
        tape.length = 0;
        joining.empty();
        return accept(0);
    }

    public int as(int thing, int kind) {
        if (kind < 0 || kind > 9) {
            return NO_NUMBER;
        }
        if (thing < 0 || thing >= told.things.rows) {
            return NO_SUCH;
        }
        int sort = told.things.at(thing, THING_SORT);
        int number = told.things.at(thing, THING_NUMBER);
        if (kind > 5) {
            return sort == kind - 6 ? number : CANNOT_BE;
        }
        if (sort != 0) {
            return CANNOT_BE;
        }
        int book = told.lines.at(number, LINE_BOOK);
        return book == kind || kind == RATES && book == RELIEF ? number : CANNOT_BE;
    }

    public int count(int what) {
        switch (what) {
            case 0: return told.lines.rows;
            case 1: return told.textCount;
            case 2: return told.facts.rows;
            case 3: return told.holdings.rows;
            case 4: return told.things.rows;
            case 5: return told.levies.rows;
            case 6: return told.bonds.rows;
            case 7: return joining.wished;
            case 8: return tape.length;
            case 9: return told.appeals.rows;
            case 10: return told.paid.rows;
            case 11: return told.entries.rows;
            default: return NONE;
        }
    }

    public int status() {
        return status;
    }

    // ---- what the calls share

    /** Whatever was worked out ahead of a call that is not REFUSED may be wrong behind it. */
    private int accept(int answer) {
        status = 0;
        told.version++;
        return answer;
    }

    private int refuse(int why) {
        status = why;
        return why;
    }

    /** The TAPE is empty behind every line(), spell(), text(), whatever it was REFUSED by. */
    private int refuseTape(int why) {
        tape.length = 0;
        return refuse(why);
    }

    private void learn(int line) {
        scribe.learn(line);
        souls.learn(line);
    }

    private static boolean isWithin(int x, int least, int most) {
        return x >= least && x <= most;
    }

    private static boolean isDay(int day) {
        return day >= 0 && day <= LAST_DAY;
    }

    private static boolean isYear(int year) {
        return year >= 0 && year <= LAST_YEAR;
    }

    private static boolean isBook(int book) {
        return book >= 0 && book <= ORDERS;
    }

    private static boolean isOffice(int office) {
        return office >= 0 && office <= LAST_OFFICE;
    }

    private static boolean isCrop(int crop) {
        return crop >= 0 && crop < CROPS;
    }

    private static boolean fitsBook(int book, int number) {
        switch (book) {
            case BURIALS: return isWithin(number, NONE, 120);
            case RATES:
            case RELIEF: return isWithin(number, 0, 100000);
            case ORDERS: return isWithin(number, 1, LAST_PARISH);
            default: return number == NONE;
        }
    }

    /** Whether a cache still stands by its key of two numbers and the chest's version; the key is the new one then. */
    private static boolean isFresh(int[] key, int a, int b, int version) {
        if (key.length < 3) {
            return false;
        }
        boolean fresh = key[0] == a && key[1] == b && key[2] == version;
        key[0] = a;
        key[1] = b;
        key[2] = version;
        return fresh;
    }

    private boolean isLine(int line) {
        return line >= 0 && line < told.lines.rows;
    }

    private boolean isKnownLine(int line, int known) {
        return isDay(known) && told.lines.isKnown(line, known);
    }

    private boolean isHolding(int holding) {
        return holding >= 0 && holding < told.holdings.rows && holding < MOST_HOLDINGS;
    }

    private boolean isClause(int text, int clause) {
        if (text < 0 || text >= told.textCount || text >= told.texts.length) {
            return false;
        }
        Text one = told.texts[text];
        return one != null && clause >= 0 && clause < one.clauses;
    }

    private int rolesOf(int line) {
        int book = told.lines.at(line, LINE_BOOK);
        return isBook(book) ? ROLES_OF[book] : 0;
    }

    private int yearOf(int line) {
        return told.lines.at(line, DAY) / YEAR_DAYS;
    }

    private int soulOn(int mention, int known) {
        if (!isDay(known) || !souls.isMention(mention)) {
            return NONE;
        }
        souls.asKnown(known);
        return souls.soulOf[mention];
    }

    private int addHolding(int parent, int a, int b, int day, int known) {
        int number = told.holdings.rows;
        told.holdings.add(known, day, parent, a, b, 0);
        told.things.add(3, number, 0, 0, 0, 0);
        return number;
    }

    // ---- FILLED

    private int leastOf(int book, int from, int to) {
        if (book != BIRTHS && book != BURIALS) {
            return 0;
        }
        int bar = book == BIRTHS ? CHILD : DEAD;
        int at = book == BIRTHS ? 0 : 2;
        int least = 0;
        for (int m = 0; m < told.lines.rows * 3 && m < MOST_MENTIONS; m++) {
            if (souls.soulOf[m] == m && !souls.hasBy(m, bar, LAST_DAY)) {
                souls.readSpan(m);
                int first = souls.span[at];
                int last = souls.span[at + 1];
                if (first >= from && last <= to && first <= last) {
                    least++;
                }
            }
        }
        return least;
    }

    private int mostOf(int book, int more, int known) {
        int most = 0;
        for (int line = 0; line < told.lines.rows; line++) {
            if (isLineOf(line, book, known)) {
                int first = told.lines.at(line, DAY);
                if (!isTornWithin(book, first, first + more, known)) {
                    most = Math.max(most, linesWithin(book, first, first + more, known));
                }
            }
        }
        return most;
    }

    private int guessedOf(int book, int from, int to, int known) {
        int first = Math.max(0, from - PAGE_DAYS);
        int last = Math.min(LAST_DAY, to + PAGE_DAYS);
        long days = wholeDays(book, first, from - 1, known) + wholeDays(book, to + 1, last, known);
        if (days == 0) {
            return 0;
        }
        long lines = 0;
        for (int line = 0; line < told.lines.rows; line++) {
            int day = told.lines.at(line, DAY);
            boolean around = day >= first && day < from || day > to && day <= last;
            if (around && isLineOf(line, book, known) && !isTornWithin(book, day, day, known)) {
                lines++;
            }
        }
        return (int) ((2 * lines * (to - from + 1) + days) / (2 * days));
    }

    private boolean isLineOf(int line, int book, int known) {
        return told.lines.isKnown(line, known) && told.lines.at(line, LINE_BOOK) == book;
    }

    private int linesWithin(int book, int first, int last, int known) {
        int lines = 0;
        for (int line = 0; line < told.lines.rows; line++) {
            int day = told.lines.at(line, DAY);
            if (day >= first && day <= last && isLineOf(line, book, known)) {
                lines++;
            }
        }
        return lines;
    }

    private boolean isPageOf(int page, int book, int known) {
        return told.pages.isKnown(page, known) && told.pages.at(page, PAGE_BOOK) == book;
    }

    private boolean isTornWithin(int book, int first, int last, int known) {
        for (int page = 0; page < told.pages.rows; page++) {
            if (isPageOf(page, book, known) && told.pages.at(page, FROM) <= last && told.pages.at(page, TO) >= first) {
                return true;
            }
        }
        return false;
    }

    /** DAYS first .. last that no PAGE has: each round steps over one PAGE, or over the DAYS up to the next one. */
    private int wholeDays(int book, int first, int last, int known) {
        int days = 0;
        int at = first;
        for (int round = 0; round <= 2 * told.pages.rows && at <= last; round++) {
            int behind = at;
            int stop = last + 1;
            for (int page = 0; page < told.pages.rows; page++) {
                if (isPageOf(page, book, known)) {
                    int from = told.pages.at(page, FROM);
                    int to = told.pages.at(page, TO);
                    if (from <= at && to >= behind) {
                        behind = to + 1;
                    } else if (from > at) {
                        stop = Math.min(stop, from);
                    }
                }
            }
            if (behind > at) {
                at = behind;
            } else {
                days += stop - at;
                at = stop;
            }
        }
        return days;
    }

    // ---- ORDERS

    private boolean isGood(int line, int soul, int known) {
        int day = told.lines.at(line, DAY);
        int parish = told.lines.at(line, LINE_NUMBER);
        settlement.known = known;
        if (soul == NONE || settlement.belongs(soul, day, 0) != parish) {
            return false;
        }
        return !bench.isCertified(soul, parish, day, known) || souls.reliefOf(soul, day - 365, day) > 0;
    }

    private int firstAppeal(int line, int known) {
        for (int row = 0; row < told.appeals.rows; row++) {
            if (told.appeals.at(row, APPEAL_LINE) == line && told.appeals.isKnown(row, known)) {
                return row;
            }
        }
        return NONE;
    }

    // ---- ACCOUNTS, FEES, PRICES, sums

    private int lastClosed(int office) {
        for (int row = told.closings.rows - 1; row >= 0; row--) {
            if (told.closings.at(row, OFFICE) == office) {
                return told.closings.at(row, YEAR);
            }
        }
        return NONE;
    }

    private int balanceOf(int office, int year, int known) {
        int sum = 0;
        int ahead = closing(office, year - 1);
        if (ahead != NONE && told.closings.at(ahead, CLOSED_ON) <= known) {
            sum = told.closings.at(ahead, PENCE);
        }
        for (int row = 0; row < told.entries.rows; row++) {
            if (told.entries.at(row, OFFICE) == office && told.entries.isKnown(row, known) && ownYear(row) == year) {
                sum += told.entries.at(row, PENCE);
            }
        }
        return sum;
    }

    private int closing(int office, int year) {
        for (int row = 0; row < told.closings.rows; row++) {
            if (told.closings.at(row, OFFICE) == office && told.closings.at(row, YEAR) == year) {
                return row;
            }
        }
        return NONE;
    }

    /** The YEAR that an ENTRY counts for: its own, or the first behind it that was open when it came to be known. */
    private int ownYear(int entry) {
        int office = told.entries.at(entry, OFFICE);
        int since = told.entries.at(entry, KNOWN);
        int year = told.entries.at(entry, YEAR);
        for (int n = 0; n <= told.closings.rows; n++) {
            int row = closing(office, year);
            if (row == NONE || told.closings.at(row, CLOSED_ON) >= since) {
                return year;
            }
            year++;
        }
        return year;
    }

    private long feeOf(int which, int soul) {
        bench.weigh(Clerk.FEE, which, soul);
        return Math.max(0L, bench.weight);
    }

    private int priceOf(int crop, int year, int known) {
        for (int row = told.prices.rows - 1; row >= 0; row--) {
            if (told.prices.at(row, YEAR) == year && told.prices.at(row, PRICE_CROP) == crop
                    && told.prices.isKnown(row, known)) {
                return told.prices.at(row, PRICE_SUM);
            }
        }
        return NONE;
    }

    /** Writes 1, the number of LINES of a YEAR, the sum of their NUMBERS and that of NUMBERS times places. */
    private void sumYear(int year, long[] into, int at) {
        if (at < 0 || at + 3 >= into.length) {
            return;
        }
        long lines = 0;
        long sum = 0;
        long byPlace = 0;
        for (int line = 0; line < told.lines.rows; line++) {
            if (yearOf(line) == year) {
                int number = told.lines.at(line, LINE_NUMBER);
                lines++;
                sum += number;
                byPlace += lines * number;
            }
        }
        into[at] = 1;
        into[at + 1] = lines;
        into[at + 2] = sum;
        into[at + 3] = byPlace;
    }

    // ---- what is told

    /** Rows of numbers, as many as may be told, made once. */
    private static final class Table {
        final int width;
        final int most;
        final int[] cells;
        int rows = 0;

        Table(int width, int most) {
            this.width = Math.max(1, width);
            this.most = Math.max(0, most);
            this.cells = new int[this.width * this.most];
        }

        boolean isFull() {
            return rows >= most;
        }

        int at(int row, int column) {
            if (row < 0 || row >= rows || column < 0 || column >= width) {
                return 0;
            }
            return cells[row * width + column];
        }

        void put(int row, int column, int number) {
            if (row >= 0 && row < rows && column >= 0 && column < width) {
                cells[row * width + column] = number;
            }
        }

        boolean isKnown(int row, int known) {
            return row >= 0 && row < rows && cells[row * width] <= known;
        }

        /** A row of six numbers, or of as many of them as the table is wide. */
        void add(int a, int b, int c, int d, int e, int f) {
            if (rows >= most) {
                return;
            }
            int row = rows;
            rows = row + 1;
            put(row, 0, a);
            put(row, 1, b);
            put(row, 2, c);
            put(row, 3, d);
            put(row, 4, e);
            put(row, 5, f);
        }

        void addFrom(int[] source, int from) {
            if (rows < most && from >= 0 && from <= source.length - width) {
                System.arraycopy(source, from, cells, rows * width, width);
                rows++;
            }
        }

        void copyFrom(Table other) {
            int used = other.rows * other.width;
            if (used >= 0 && used <= cells.length && used <= other.cells.length) {
                System.arraycopy(other.cells, 0, cells, 0, used);
                rows = other.rows;
            }
        }
    }

    /** All that was told; IMAGES are chests of their own. */
    private static final class Chest {
        final Table lines = new Table(6, MOST_LINES);
        final Table names = new Table(NAME_WIDTH, MOST_NAMES);
        final Table aparts = new Table(2, 60);
        final Table bonds = new Table(3, 200);
        final Table pages = new Table(4, 20);
        final Table facts = new Table(6, 100);
        final Table appeals = new Table(3, 40);
        final Table values = new Table(4, 100);
        final Table holdings = new Table(5, MOST_HOLDINGS);
        final Table helds = new Table(4, 100);
        final Table levies = new Table(4, 40);
        final Table paid = new Table(5, 100);
        final Table entries = new Table(4, 100);
        final Table closings = new Table(4, 40);
        final Table prices = new Table(4, 100);
        final Table things = new Table(2, 370);
        final long[] seals = new long[(LAST_YEAR + 1) * SEAL_WIDTH];
        final Text[] texts = new Text[MOST_TEXTS];
        int textCount = 0;
        int version = 1;

        /** The version is the chest's own: it only grows, so that no cache is taken for a later one's. */
        void copyFrom(Chest other) {
            lines.copyFrom(other.lines);
            names.copyFrom(other.names);
            aparts.copyFrom(other.aparts);
            bonds.copyFrom(other.bonds);
            pages.copyFrom(other.pages);
            facts.copyFrom(other.facts);
            appeals.copyFrom(other.appeals);
            values.copyFrom(other.values);
            holdings.copyFrom(other.holdings);
            helds.copyFrom(other.helds);
            levies.copyFrom(other.levies);
            paid.copyFrom(other.paid);
            entries.copyFrom(other.entries);
            closings.copyFrom(other.closings);
            prices.copyFrom(other.prices);
            things.copyFrom(other.things);
            System.arraycopy(other.seals, 0, seals, 0, seals.length);
            for (int t = 0; t < MOST_TEXTS; t++) {
                texts[t] = other.texts[t];
            }
            textCount = other.textCount;
        }
    }

    /** A TEXT of CLAUSES as it was read; never changed, so that IMAGES may share it. */
    private static final class Text {
        static final int HEAD_WIDTH = 6;
        static final int KIND = 0;
        static final int WHICH = 1;
        static final int NUMBER = 2;
        static final int SUM_AT = 3;
        static final int IF_AT = 4;
        static final int UNLESS_AT = 5;

        final int sort;
        final int from;
        final int known;
        final int clauses;
        final int[] heads;
        final int[] code;

        Text(int sort, int from, int known, int[] heads, int[] code) {
            this.sort = sort;
            this.from = from;
            this.known = known;
            this.heads = heads;
            this.code = code;
            this.clauses = Math.min(MOST_CLAUSES, heads.length / HEAD_WIDTH);
        }

        int head(int clause, int column) {
            if (clause < 0 || clause >= clauses || column < 0 || column >= HEAD_WIDTH) {
                return NONE;
            }
            return heads[clause * HEAD_WIDTH + column];
        }

        boolean isOf(int clause, int kind, int which) {
            return head(clause, KIND) == kind && head(clause, WHICH) == which;
        }
    }

    // ---- reading

    /** The TAPE and the TOKEN at which its reader stands. */
    private static final class Tape {
        static final int MOST_BYTES = 400;
        static final int END = 0;
        static final int LETTERS = 1;
        static final int DIGITS = 2;
        static final int SIGN = 3;

        final int[] bytes = new int[MOST_BYTES];
        int length = 0;
        int fault = NONE;
        int from = 0;
        int to = 0;
        int sort = END;

        boolean hasRoomFor(int more) {
            return length + more <= MOST_BYTES;
        }

        void append(int four) {
            for (int shift = 24; shift >= 0 && length < MOST_BYTES; shift -= 8) {
                bytes[length] = four >>> shift & 255;
                length++;
            }
        }

        void begin() {
            fault = NONE;
            to = 0;
            step();
        }

        void step() {
            from = to;
            while (from < length && bytes[from] == ' ') {
                from++;
            }
            to = from;
            if (from >= length) {
                sort = END;
                return;
            }
            sort = sortOf(bytes[from]);
            to = from + 1;
            while (sort != SIGN && to < length && sortOf(bytes[to]) == sort) {
                to++;
            }
        }

        private static int sortOf(int sign) {
            if (sign >= 'a' && sign <= 'z') {
                return LETTERS;
            }
            return sign >= '0' && sign <= '9' ? DIGITS : SIGN;
        }

        boolean isEnd() {
            return sort == END;
        }

        boolean isSign(char sign) {
            return sort == SIGN && bytes[from] == sign;
        }

        boolean isLetters() {
            return sort == LETTERS;
        }

        int size() {
            return to - from;
        }

        int letter(int i) {
            return i >= 0 && i < to - from ? bytes[from + i] : 0;
        }

        /** Which word of a list, in which a blank stands behind each word, the TOKEN is. */
        int wordOf(String list) {
            if (sort != LETTERS) {
                return NONE;
            }
            int word = 0;
            int at = from;
            boolean same = true;
            for (int i = 0; i < list.length(); i++) {
                char sign = list.charAt(i);
                if (sign == ' ') {
                    if (same && at == to) {
                        return word;
                    }
                    word++;
                    at = from;
                    same = true;
                } else {
                    same = same && at < to && bytes[at] == sign;
                    at++;
                }
            }
            return NONE;
        }

        /** The NUMBER that the TOKEN is; NONE, if it is no number or greater than most. */
        int numberTo(int most) {
            if (sort != DIGITS) {
                return NONE;
            }
            int number = 0;
            for (int at = from; at < to; at++) {
                number = Math.min(1000000, number * 10 + bytes[at] - '0');
            }
            return number <= most ? number : NONE;
        }

        /** The TOKEN is the FAULT; the answer is the reader's: it can't go on. */
        boolean blame() {
            fault = from;
            return false;
        }
    }

    /** Reads LINES and SPELLINGS; keeps all NAMES FOLDED. */
    private static final class Scribe {
        static final int MOST_FOLDED = 36;
        static final int MOST_PAIRS = 8;
        static final int PAIR_WIDTH = 8;
        static final int MOST_SIDE = 3;
        static final int RIGHT = 4;

        final Chest chest;
        final Tape tape;
        final int[] draft = new int[6 * NAME_WIDTH];
        final int[] pairDraft = new int[MOST_PAIRS * PAIR_WIDTH];
        final int[] pairs = new int[(LAST_HAND + 1) * MOST_PAIRS * PAIR_WIDTH];
        final int[] pairCount = new int[LAST_HAND + 1];
        final int[] folded = new int[MOST_NAMES * MOST_FOLDED];
        final int[] foldedLength = new int[MOST_NAMES];
        final boolean[] cut = new boolean[MOST_NAMES];

        Scribe(Chest chest, Tape tape) {
            this.chest = chest;
            this.tape = tape;
        }

        /** Reads a LINE into the draft: 1 if it is TORN, 0 if not, NONE if there is a FAULT. */
        int readLine(int roles) {
            for (int i = 0; i < draft.length; i++) {
                draft[i] = 0;
            }
            tape.begin();
            if (tape.isSign('.')) {
                return readStop();
            }
            for (int role = 0; role < roles; role++) {
                if (!readRole(role)) {
                    return NONE;
                }
                if (tape.isEnd()) {
                    return 1;
                }
                if (tape.isSign('.')) {
                    return readStop();
                }
                if (!tape.isSign(',') || role + 1 >= roles) {
                    tape.blame();
                    return NONE;
                }
                tape.step();
            }
            return NONE;
        }

        private int readStop() {
            tape.step();
            if (tape.isEnd()) {
                return 0;
            }
            tape.blame();
            return NONE;
        }

        private boolean readRole(int role) {
            boolean unknown = tape.isSign('?');
            if (!readName(role * 2 * NAME_WIDTH)) {
                return false;
            }
            if (unknown && (tape.isSign(',') || tape.isSign('.'))) {
                return true;
            }
            return readName((role * 2 + 1) * NAME_WIDTH);
        }

        private boolean readName(int at) {
            if (tape.isEnd()) {
                return true;
            }
            if (tape.isSign('?')) {
                tape.step();
                return true;
            }
            int size = tape.size();
            if (!tape.isLetters() || size > NAME_WIDTH - NAME_LETTERS || at < 0 || at > draft.length - NAME_WIDTH) {
                return tape.blame();
            }
            draft[at + NAME_LENGTH] = size;
            for (int i = 0; i < size; i++) {
                draft[at + NAME_LETTERS + i] = tape.letter(i);
            }
            boolean last = tape.to == tape.length;
            tape.step();
            if (tape.isSign('-')) {
                last = true;
                tape.step();
            }
            draft[at + NAME_TORN] = last ? 1 : 0;
            return true;
        }

        /** Reads SPELLINGS into the draft: how many PAIRS, NONE if there is a FAULT. */
        int readPairs() {
            tape.begin();
            if (tape.isEnd()) {
                return 0;
            }
            for (int pair = 0; pair < MOST_PAIRS; pair++) {
                if (!readPair(pair * PAIR_WIDTH)) {
                    return NONE;
                }
                if (tape.isEnd()) {
                    return pair + 1;
                }
                if (!tape.isSign(',')) {
                    tape.blame();
                    return NONE;
                }
                tape.step();
            }
            tape.blame();
            return NONE;
        }

        private boolean readPair(int at) {
            if (!tape.isLetters() || !readSide(at)) {
                return tape.blame();
            }
            if (!tape.isSign('>')) {
                return tape.blame();
            }
            tape.step();
            if (!tape.isLetters()) {
                pairDraft[at + RIGHT] = 0;
                return true;
            }
            return readSide(at + RIGHT) || tape.blame();
        }

        private boolean readSide(int at) {
            int size = tape.size();
            if (size > MOST_SIDE || at < 0 || at + MOST_SIDE >= pairDraft.length) {
                return false;
            }
            pairDraft[at] = size;
            for (int i = 0; i < size; i++) {
                pairDraft[at + 1 + i] = tape.letter(i);
            }
            tape.step();
            return true;
        }

        void keepPairs(int hand, int many) {
            if (hand >= 0 && hand <= LAST_HAND && many >= 0 && many <= MOST_PAIRS) {
                System.arraycopy(pairDraft, 0, pairs, hand * pairDraft.length, many * PAIR_WIDTH);
                pairCount[hand] = many;
            }
        }

        /** Folds all NAMES of a LINE by its HAND's SPELLINGS as they are now. */
        void learn(int line) {
            int hand = chest.lines.at(line, LINE_HAND);
            if (line < 0 || line >= MOST_LINES || hand < 0 || hand > LAST_HAND) {
                return;
            }
            for (int row = line * 6; row < line * 6 + 6; row++) {
                fold(row, hand);
            }
        }

        private void fold(int row, int hand) {
            int length = chest.names.at(row, NAME_LENGTH);
            int base = row * MOST_FOLDED;
            int out = 0;
            int at = 0;
            while (at < length && out <= MOST_FOLDED - MOST_SIDE) {
                int pair = pairAt(row, at, length, hand);
                if (pair == NONE) {
                    folded[base + out] = chest.names.at(row, NAME_LETTERS + at);
                    out++;
                    at++;
                } else {
                    int size = Math.min(MOST_SIDE, pairs[pair + RIGHT]);
                    for (int i = 0; i < size; i++) {
                        folded[base + out] = pairs[pair + RIGHT + 1 + i];
                        out++;
                    }
                    at += Math.max(1, pairs[pair]);
                }
            }
            foldedLength[row] = length == 0 ? NONE : out;
            cut[row] = chest.names.at(row, NAME_TORN) == 1;
        }

        /** Where the first PAIR lies whose left LETTERS stand at a place of a NAME. */
        private int pairAt(int row, int at, int length, int hand) {
            for (int n = 0; n < pairCount[hand]; n++) {
                int pair = (hand * MOST_PAIRS + n) * PAIR_WIDTH;
                int size = pairs[pair];
                boolean fits = size <= length - at;
                for (int i = 0; i < size && fits; i++) {
                    fits = pairs[pair + 1 + i] == chest.names.at(row, NAME_LETTERS + at + i);
                }
                if (fits) {
                    return pair;
                }
            }
            return NONE;
        }

        int lengthOf(int mention, int which) {
            int row = mention * 2 + which;
            return row >= 0 && row < MOST_NAMES ? foldedLength[row] : NONE;
        }

        int letterOf(int mention, int which, int i) {
            int row = mention * 2 + which;
            return row >= 0 && row < MOST_NAMES && i >= 0 && i < MOST_FOLDED ? folded[row * MOST_FOLDED + i] : NONE;
        }

        boolean areKnown(int a, int b, int which) {
            return lengthOf(a, which) >= 0 && lengthOf(b, which) >= 0;
        }

        boolean isNamed(int mention) {
            return lengthOf(mention, 0) >= 0 || lengthOf(mention, 1) >= 0;
        }

        boolean isNamedInFull(int mention) {
            return lengthOf(mention, 0) >= 0 && lengthOf(mention, 1) >= 0;
        }

        /** Whether two NAMES are known and not ALIKE. */
        boolean differ(int a, int b, int which) {
            int x = a * 2 + which;
            int y = b * 2 + which;
            if (x < 0 || y < 0 || x >= MOST_NAMES || y >= MOST_NAMES) {
                return false;
            }
            int m = foldedLength[x];
            int n = foldedLength[y];
            if (m < 0 || n < 0) {
                return false;
            }
            if (!cut[x] && n > m || !cut[y] && m > n) {
                return true;
            }
            int least = Math.min(m, n);
            for (int i = 0; i < least; i++) {
                if (folded[x * MOST_FOLDED + i] != folded[y * MOST_FOLDED + i]) {
                    return true;
                }
            }
            return false;
        }
    }

    // ---- SOULS

    /** REASONS and WORTH of two MENTIONS; SOULS as known on a DAY, which asKnown() works out. */
    private static final class Souls {
        final Chest chest;
        final Scribe scribe;
        int given = 10;
        int family = 10;
        int ages = 5;
        int kindred = 20;
        int slack = 2;
        final int[] code = new int[MOST_MENTIONS];
        final int[] day = new int[MOST_MENTIONS];
        final int[] number = new int[MOST_MENTIONS];
        final int[] soulOf = new int[MOST_MENTIONS];
        final int[] next = new int[MOST_MENTIONS];
        final int[] waiting = new int[200];
        int waitingCount = 0;
        final int[] span = new int[4];
        final int[] key = new int[3];

        Souls(Chest chest, Scribe scribe) {
            this.chest = chest;
            this.scribe = scribe;
        }

        void learn(int line) {
            int book = chest.lines.at(line, LINE_BOOK);
            if (line < 0 || line >= MOST_LINES || !isBook(book)) {
                return;
            }
            for (int role = 0; role < 3; role++) {
                int m = line * 3 + role;
                code[m] = role < ROLES_OF[book] ? FIRST_CODE[book] + role : NONE;
                day[m] = chest.lines.at(line, DAY);
                number[m] = chest.lines.at(line, LINE_NUMBER);
            }
        }

        boolean isMention(int m) {
            return m >= 0 && m < MOST_MENTIONS && m / 3 < chest.lines.rows && code[m] != NONE;
        }

        // ---- two MENTIONS

        int reasonFor(int a, int b) {
            if (a / 3 == b / 3) {
                return 1;
            }
            if (areApart(a, b)) {
                return 2;
            }
            if (scribe.differ(a, b, 0)) {
                return 3;
            }
            if (!isWoman(a) && !isWoman(b) && scribe.differ(a, b, 1)) {
                return 4;
            }
            if (areBoth(a, b, CHILD) || areBoth(a, b, DEAD) || isMan(a) && isWoman(b) || isWoman(a) && isMan(b)) {
                return 5;
            }
            if (isOutOfLife(a, b) || isOutOfLife(b, a)) {
                return 6;
            }
            return isOfOtherAge(a, b) || isOfOtherAge(b, a) ? 7 : 0;
        }

        private boolean areApart(int a, int b) {
            for (int row = 0; row < chest.aparts.rows; row++) {
                int x = chest.aparts.at(row, 0);
                int y = chest.aparts.at(row, 1);
                if (x == a && y == b || x == b && y == a) {
                    return true;
                }
            }
            return false;
        }

        private boolean areBoth(int a, int b, int what) {
            return code[a] == what && code[b] == what;
        }

        private boolean isMan(int m) {
            return code[m] == GROOM || code[m] == FATHER;
        }

        private boolean isWoman(int m) {
            return code[m] == BRIDE || code[m] == MOTHER;
        }

        private boolean isOutOfLife(int one, int other) {
            int later = day[other] - day[one];
            if (code[one] == CHILD) {
                int least = isMan(other) || isWoman(other) ? GROWN_DAYS : 0;
                return later < least || code[other] == MOTHER && later > MOTHER_DAYS;
            }
            return code[one] == DEAD && later > (code[other] == FATHER ? YEAR_DAYS : 0);
        }

        private boolean isWithAge(int child, int dead) {
            return code[child] == CHILD && code[dead] == DEAD && number[dead] != NONE;
        }

        private boolean isOfOtherAge(int child, int dead) {
            if (!isWithAge(child, dead)) {
                return false;
            }
            int years = day[dead] / YEAR_DAYS - day[child] / YEAR_DAYS;
            return Math.abs(years - number[dead]) > slack;
        }

        /** WORTH of two that may be one; NONE of others. */
        int worthOf(int a, int b) {
            if (reasonFor(a, b) != 0) {
                return NONE;
            }
            int worth = 0;
            if (scribe.areKnown(a, b, 0)) {
                worth += given;
            }
            if (scribe.areKnown(a, b, 1) && !scribe.differ(a, b, 1)) {
                worth += family;
            }
            if (isWithAge(a, b) || isWithAge(b, a)) {
                worth += ages;
            }
            return haveKin(a, b) ? worth + kindred : worth;
        }

        private boolean haveKin(int a, int b) {
            for (int x = a / 3 * 3; x < a / 3 * 3 + 3; x++) {
                if (x == a || !isMention(x) || !scribe.isNamedInFull(x)) {
                    continue;
                }
                for (int y = b / 3 * 3; y < b / 3 * 3 + 3; y++) {
                    if (y != b && isMention(y) && scribe.isNamedInFull(y) && !scribe.differ(x, y, 1)
                            && reasonFor(x, y) == 0) {
                        return true;
                    }
                }
            }
            return false;
        }

        // ---- SOULS as known

        void asKnown(int known) {
            if (isFresh(key, known, 0, chest.version)) {
                return;
            }
            for (int m = 0; m < chest.lines.rows * 3 && m < MOST_MENTIONS; m++) {
                soulOf[m] = code[m] != NONE && chest.lines.isKnown(m / 3, known) ? m : NONE;
                next[m] = NONE;
            }
            waitingCount = 0;
            for (int row = 0; row < chest.bonds.rows; row++) {
                if (chest.bonds.isKnown(row, known)) {
                    bind(row, soulAt(chest.bonds.at(row, 1)), soulAt(chest.bonds.at(row, 2)));
                }
            }
        }

        int soulAt(int mention) {
            return mention >= 0 && mention < MOST_MENTIONS && mention / 3 < chest.lines.rows ? soulOf[mention] : NONE;
        }

        private void bind(int row, int a, int b) {
            if (a == NONE || b == NONE || a == b) {
                return;
            }
            if (mayBeOne(a, b)) {
                merge(Math.min(a, b), Math.max(a, b));
            } else if (waitingCount < waiting.length) {
                waiting[waitingCount] = row;
                waitingCount++;
            }
        }

        private boolean mayBeOne(int a, int b) {
            for (int x = a, n = 0; x != NONE && n < MOST_MENTIONS; x = next[x], n++) {
                for (int y = b, o = 0; y != NONE && o < MOST_MENTIONS; y = next[y], o++) {
                    if (reasonFor(x, y) != 0) {
                        return false;
                    }
                }
            }
            return true;
        }

        /** Two chains, each from its lowest MENTION upwards, become one such chain that begins with low. */
        private void merge(int low, int high) {
            int last = low;
            int x = next[low];
            int y = high;
            for (int n = 0; n < MOST_MENTIONS && y != NONE; n++) {
                if (x != NONE && x < y) {
                    next[last] = x;
                    last = x;
                    x = next[x];
                } else {
                    next[last] = y;
                    soulOf[y] = low;
                    last = y;
                    y = next[y];
                }
            }
            next[last] = x;
        }

        int sizeOf(int soul) {
            int size = 0;
            for (int m = soul; m != NONE && size < MOST_MENTIONS; m = next[m]) {
                size++;
            }
            return size;
        }

        int mentionOf(int soul, int i) {
            int n = 0;
            for (int m = soul; m != NONE && n < MOST_MENTIONS; m = next[m]) {
                if (n == i) {
                    return m;
                }
                n++;
            }
            return NONE;
        }

        /** The MENTION of a SOUL as a child (as which it has one at most), NONE without. */
        int birthOf(int soul) {
            for (int m = soul, n = 0; m != NONE && n < MOST_MENTIONS; m = next[m], n++) {
                if (code[m] == CHILD) {
                    return m;
                }
            }
            return NONE;
        }

        /** Whether a SOUL has a MENTION of a code of a DAY not behind another. */
        boolean hasBy(int soul, int what, int by) {
            for (int m = soul, n = 0; m != NONE && n < MOST_MENTIONS; m = next[m], n++) {
                if (code[m] == what && day[m] <= by) {
                    return true;
                }
            }
            return false;
        }

        // ---- KIN

        /** The SOUL of a ROLE that has a NAME; NONE of others. */
        int namedSoul(int mention) {
            return scribe.isNamed(mention) ? soulAt(mention) : NONE;
        }

        int parentOf(int soul, int role) {
            int birth = birthOf(soul);
            return birth == NONE ? NONE : namedSoul(birth + role);
        }

        int childOf(int soul, int i) {
            int n = 0;
            for (int m = 0; m < chest.lines.rows * 3 && m + 2 < MOST_MENTIONS; m += 3) {
                if (code[m] == CHILD && soulOf[m] != NONE && (soulOf[m + 1] == soul || soulOf[m + 2] == soul)
                        && scribe.isNamed(m)) {
                    if (n == i) {
                        return soulOf[m];
                    }
                    n++;
                }
            }
            return NONE;
        }

        int spouseOf(int soul, int i) {
            int n = 0;
            for (int m = 0; m < chest.lines.rows * 3 && m + 1 < MOST_MENTIONS; m += 3) {
                if (code[m] == GROOM && (soulOf[m] == soul || soulOf[m + 1] == soul)) {
                    int other = namedSoul(soulOf[m] == soul ? m + 1 : m);
                    if (other != NONE) {
                        if (n == i) {
                            return other;
                        }
                        n++;
                    }
                }
            }
            return NONE;
        }

        int childrenOf(int soul, int by) {
            int children = 0;
            for (int m = 0; m < chest.lines.rows * 3 && m + 2 < MOST_MENTIONS; m += 3) {
                if (code[m] == CHILD && soulOf[m] != NONE && day[m] <= by
                        && (soulOf[m + 1] == soul || soulOf[m + 2] == soul) && !hasBy(soulOf[m], DEAD, by)) {
                    children++;
                }
            }
            return children;
        }

        // ---- SPAN, first DAY, relief

        /** BORN from .. to, DIED from .. to, into span. */
        void readSpan(int soul) {
            int b = 0;
            int c = LAST_DAY;
            int e = 0;
            int f = LAST_DAY;
            for (int m = soul, n = 0; m != NONE && n < MOST_MENTIONS; m = next[m], n++) {
                int on = day[m];
                // FATHER .. BRIDE are the codes of all who are grown.
                c = Math.min(c, code[m] >= FATHER && code[m] <= BRIDE ? on - GROWN_DAYS : on);
                e = Math.max(e, code[m] == FATHER ? on - YEAR_DAYS : on);
                if (code[m] == CHILD) {
                    b = Math.max(b, on);
                } else if (code[m] == MOTHER) {
                    b = Math.max(b, on - MOTHER_DAYS);
                } else if (code[m] == DEAD) {
                    f = Math.min(f, on);
                    if (number[m] != NONE) {
                        int born = on / YEAR_DAYS - number[m];
                        b = Math.max(b, (born - slack) * YEAR_DAYS);
                        c = Math.min(c, (born + slack) * YEAR_DAYS + YEAR_DAYS - 1);
                    }
                }
            }
            span[0] = Math.max(b, e - LIFE_DAYS);
            span[1] = c;
            span[2] = e;
            span[3] = Math.min(f, c + LIFE_DAYS);
            for (int i = 0; i < 4; i++) {
                span[i] = Math.max(0, Math.min(LAST_DAY, span[i]));
            }
        }

        /** The first DAY, not behind another, on which a SOUL is told of; that other without. */
        int firstDay(int soul, int by) {
            int first = by;
            for (int m = soul, n = 0; m != NONE && n < MOST_MENTIONS; m = next[m], n++) {
                first = Math.min(first, day[m]);
            }
            return first;
        }

        int reliefOf(int soul, int from, int to) {
            int pence = 0;
            for (int m = soul, n = 0; m != NONE && n < MOST_MENTIONS; m = next[m], n++) {
                if (code[m] == RELIEVED && day[m] >= from && day[m] <= to) {
                    pence += number[m];
                }
            }
            return pence;
        }
    }

    /** The WISHED MENTIONS and their BEST JOINING, found by going through all. */
    private static final class Joining {
        static final int MOST_WORTH = 36 * 400;
        static final int GAIN_WIDTH = 10;

        final Chest chest;
        final Souls souls;
        final int[] wishes = new int[MOST_WISHES];
        int wished = 0;
        final int[] worths = new int[MOST_WISHES * MOST_WISHES];
        final int[] tied = new int[MOST_WISHES];
        final int[] groups = new int[MOST_WISHES];
        final int[] best = new int[MOST_WISHES];
        final int[] gains = new int[MOST_WISHES * GAIN_WIDTH];
        final int[] tally = new int[MOST_WORTH + 1];
        int bestWorth = 0;
        int bestGroups = 0;
        int bound = 0;
        int settledVersion = 0;

        Joining(Chest chest, Souls souls) {
            this.chest = chest;
            this.souls = souls;
        }

        boolean isWished(int mention) {
            for (int i = 0; i < wished; i++) {
                if (wishes[i] == mention) {
                    return true;
                }
            }
            return false;
        }

        void put(int mention) {
            if (wished < MOST_WISHES) {
                wishes[wished] = mention;
                wished++;
                settledVersion = 0;
            }
        }

        void empty() {
            wished = 0;
            settledVersion = 0;
        }

        int mentionAt(int i) {
            return i >= 0 && i < wished ? wishes[i] : NONE;
        }

        int groupOf(int i) {
            return i >= 0 && i < wished ? best[i] : NONE;
        }

        /** The WISH ahead of one in its group, NONE if it is the first. */
        int aheadOf(int i) {
            for (int j = i - 1; j >= 0; j--) {
                if (groupOf(j) == groupOf(i)) {
                    return j;
                }
            }
            return NONE;
        }

        /** Whether a WISH and the one ahead of it in its group were not one SOUL yet. */
        boolean isNews(int i) {
            int j = aheadOf(i);
            return j != NONE && souls.soulAt(mentionAt(j)) != souls.soulAt(mentionAt(i));
        }

        /** Needs SOULS as known on the last DAY. */
        void settle() {
            if (settledVersion == chest.version) {
                return;
            }
            settledVersion = chest.version;
            weighPairs();
            for (int i = 0; i <= bound && i < tally.length; i++) {
                tally[i] = 0;
            }
            bestWorth = NONE;
            bestGroups = 0;
            place(0, 0, 0);
        }

        private void weighPairs() {
            bound = 0;
            for (int i = 0; i < wished; i++) {
                tied[i] = NONE;
                for (int j = 0; j < i; j++) {
                    int worth = souls.worthOf(wishes[j], wishes[i]);
                    worths[i * MOST_WISHES + j] = worth;
                    bound += Math.max(0, worth);
                    if (souls.soulAt(wishes[j]) == souls.soulAt(wishes[i])) {
                        tied[i] = j;
                    }
                }
            }
        }

        /** Puts WISH i into each group that it may be in; JOININGS come as rows of groups in order. */
        private void place(int i, int many, int worth) {
            if (i < 0 || i >= wished || i >= MOST_WISHES) {
                note(many, worth);
                return;
            }
            readGains(i, many);
            int only = tied[i] == NONE ? NONE : groups[tied[i]];
            for (int g = 0; g <= many && g < GAIN_WIDTH; g++) {
                int gain = gains[i * GAIN_WIDTH + g];
                if (gain >= 0 && (only == NONE || only == g)) {
                    groups[i] = g;
                    place(i + 1, g == many ? many + 1 : many, worth + gain);
                }
            }
        }

        /** What WISH i adds to each group's WORTH, NONE where it CAN'T be. */
        private void readGains(int i, int many) {
            int row = i * GAIN_WIDTH;
            for (int g = 0; g <= many && g < GAIN_WIDTH; g++) {
                gains[row + g] = 0;
            }
            for (int j = 0; j < i; j++) {
                int at = row + groups[j];
                int worth = worths[i * MOST_WISHES + j];
                gains[at] = worth == NONE || gains[at] == NONE ? NONE : gains[at] + worth;
            }
        }

        private void note(int many, int worth) {
            if (worth >= 0 && worth < tally.length) {
                tally[worth]++;
            }
            if (worth > bestWorth || worth == bestWorth && many < bestGroups) {
                bestWorth = worth;
                bestGroups = many;
                System.arraycopy(groups, 0, best, 0, MOST_WISHES);
            }
        }

        int rivalsWithin(int n) {
            int rivals = 0;
            for (int worth = Math.max(0, bestWorth - n); worth <= bestWorth && worth < tally.length; worth++) {
                rivals += tally[worth];
            }
            return rivals;
        }
    }

    // ---- LAWS and WORDS

    /** Reads TEXTS: SUMS and TESTS become rows of numbers in which what is worked with stands ahead of the sign. */
    private static final class Clerk {
        static final int BELONG = 0;
        static final int EXEMPT = 1;
        static final int RATE = 2;
        static final int RELIEF_SUM = 3;
        static final int BADGE = 4;
        static final int TURN = 5;
        static final int FEE = 6;
        static final int SEAT = 7;
        static final int STRIKE = 8;

        // The kinds of counts(): rates of three WHATS, relief, three FEES, seat.
        static final int[] KIND_OF = {2, 2, 2, 3, 6, 6, 6, 7};
        static final int[] WHICH_OF = {0, 1, 2, 0, 0, 1, 2, 0};

        static final int STOP = 0;
        static final int PUSH = 1;
        static final int ASK = 2;
        static final int ADD = 3;
        static final int TAKE = 4;
        static final int TIMES = 5;
        static final int THROUGH = 6;
        static final int LESS = 7;
        static final int MORE = 8;
        static final int SAME = 9;
        static final int NOT = 10;
        static final int OR = 11;
        static final int AND = 12;

        private static final String KINDS = "belong exempt rate relief badge turn fee seat strike ";
        private static final String GROUNDS = "birth hire rent office wed parents ";
        private static final String WHATS = "church way poor ";
        private static final String OFFICES = "constable surveyor overseer warden ";
        private static final String FEES = "bell grave wedding ";
        private static final String PARTS = "age children value years relieved ";
        private static final String PLAINS = "married dead poor holds certified ";
        private static final int FIRST_PLAIN = 5;
        private static final int MOST_PARTS = 60;
        private static final int MOST_BRACKETS = 8;
        private static final int MOST_NUMBER = 100000;

        final Tape tape;
        final int[] heads = new int[MOST_CLAUSES * Text.HEAD_WIDTH];
        final int[] code = new int[1200];
        int clauses = 0;
        int length = 0;
        int parts = 0;

        Clerk(Tape tape) {
            this.tape = tape;
        }

        /** The TAPE as a TEXT; null, if there is a FAULT. */
        Text read(int sort, int from, int known) {
            clauses = 0;
            length = 0;
            parts = 0;
            tape.begin();
            for (int n = 0; n < MOST_CLAUSES; n++) {
                clauses = n + 1;
                if (!readClause()) {
                    return null;
                }
                if (tape.isEnd()) {
                    return new Text(sort, from, known, Arrays.copyOf(heads, clauses * Text.HEAD_WIDTH),
                            Arrays.copyOf(code, length));
                }
                if (!tape.isSign(';')) {
                    tape.blame();
                    return null;
                }
                tape.step();
            }
            tape.blame();
            return null;
        }

        private void note(int column, int number) {
            int at = (clauses - 1) * Text.HEAD_WIDTH + column;
            if (at >= 0 && at < heads.length) {
                heads[at] = number;
            }
        }

        private void emit(int number) {
            if (length < code.length) {
                code[length] = number;
                length++;
            }
        }

        private boolean readClause() {
            int kind = tape.wordOf(KINDS);
            if (kind == NONE) {
                return tape.blame();
            }
            tape.step();
            openHead(kind);
            if (kind == STRIKE) {
                return readStrike();
            }
            if (!readHead(kind)) {
                return false;
            }
            if (kind == RATE || kind == RELIEF_SUM || kind == FEE || kind == SEAT) {
                note(Text.SUM_AT, length);
                if (!readSum(0)) {
                    return false;
                }
                emit(STOP);
            }
            for (int n = 0; n < 2; n++) {
                if (tape.wordOf(n == 0 ? "if " : "unless ") == 0) {
                    tape.step();
                    note(n == 0 ? Text.IF_AT : Text.UNLESS_AT, length);
                    if (!readTest(0)) {
                        return false;
                    }
                    emit(STOP);
                }
            }
            return true;
        }

        private void openHead(int kind) {
            note(Text.KIND, kind);
            note(Text.WHICH, 0);
            note(Text.NUMBER, 0);
            note(Text.SUM_AT, NONE);
            note(Text.IF_AT, NONE);
            note(Text.UNLESS_AT, NONE);
        }

        private boolean readStrike() {
            if (!readNumber(Text.WHICH, MOST_TEXTS - 1)) {
                return false;
            }
            if (tape.wordOf("clause ") != 0) {
                return tape.blame();
            }
            tape.step();
            return readNumber(Text.NUMBER, MOST_CLAUSES - 1);
        }

        /** What stands behind a kind's word, but for its SUM. */
        private boolean readHead(int kind) {
            switch (kind) {
                case BELONG: return readWhich(GROUNDS);
                case EXEMPT:
                case RATE: return readWhich(WHATS);
                case TURN: return readWhich(OFFICES) && readNumber(Text.NUMBER, LAST_YEAR);
                case FEE: return readWhich(FEES);
                default: return true;
            }
        }

        private boolean readWhich(String list) {
            int which = tape.wordOf(list);
            if (which == NONE) {
                return tape.blame();
            }
            note(Text.WHICH, which);
            tape.step();
            return true;
        }

        private boolean readNumber(int column, int most) {
            int number = tape.numberTo(most);
            if (number == NONE) {
                return tape.blame();
            }
            note(column, number);
            tape.step();
            return true;
        }

        /** Writes a sign that leaps, its aim to be written by land(): where that has to be done. */
        private int leap(int sign) {
            emit(sign);
            emit(0);
            return length - 1;
        }

        private void land(int at) {
            if (at >= 0 && at < length) {
                code[at] = length;
            }
        }

        private boolean readTest(int deep) {
            int or = NONE;
            for (int n = 0; n < Tape.MOST_BYTES; n++) {
                int and = NONE;
                for (int m = 0; m < Tape.MOST_BYTES; m++) {
                    if (!readPlain(deep)) {
                        return false;
                    }
                    land(and);
                    if (tape.wordOf("and ") != 0) {
                        break;
                    }
                    and = leap(AND);
                    tape.step();
                }
                land(or);
                if (tape.wordOf("or ") != 0) {
                    return true;
                }
                or = leap(OR);
                tape.step();
            }
            return tape.blame();
        }

        private boolean readPlain(int deep) {
            boolean not = false;
            for (int n = 0; n < Tape.MOST_BYTES && tape.wordOf("not ") == 0; n++) {
                not = !not;
                tape.step();
            }
            int word = tape.wordOf(PLAINS);
            if (tape.isSign('(')) {
                if (deep >= MOST_BRACKETS) {
                    return tape.blame();
                }
                tape.step();
                if (!readTest(deep + 1) || !readSign(')')) {
                    return false;
                }
            } else if (word != NONE) {
                if (!readPart(ASK, FIRST_PLAIN + word)) {
                    return false;
                }
            } else {
                if (!readSum(deep)) {
                    return false;
                }
                int sign = tape.isSign('<') ? LESS : tape.isSign('>') ? MORE : tape.isSign('=') ? SAME : NONE;
                if (sign == NONE) {
                    return tape.blame();
                }
                tape.step();
                if (!readSum(deep)) {
                    return false;
                }
                emit(sign);
            }
            if (not) {
                emit(NOT);
            }
            return true;
        }

        private boolean readSign(char sign) {
            if (!tape.isSign(sign)) {
                return tape.blame();
            }
            tape.step();
            return true;
        }

        private boolean readSum(int deep) {
            int add = NONE;
            for (int n = 0; n < Tape.MOST_BYTES; n++) {
                int times = NONE;
                for (int m = 0; m < Tape.MOST_BYTES; m++) {
                    if (!readFactor(deep)) {
                        return false;
                    }
                    if (times != NONE) {
                        emit(times);
                    }
                    times = tape.isSign('*') ? TIMES : tape.isSign('/') ? THROUGH : NONE;
                    if (times == NONE) {
                        break;
                    }
                    tape.step();
                }
                if (add != NONE) {
                    emit(add);
                }
                add = tape.isSign('+') ? ADD : tape.isSign('-') ? TAKE : NONE;
                if (add == NONE) {
                    return true;
                }
                tape.step();
            }
            return tape.blame();
        }

        private boolean readFactor(int deep) {
            if (tape.isSign('[')) {
                if (deep >= MOST_BRACKETS) {
                    return tape.blame();
                }
                tape.step();
                return readSum(deep + 1) && readSign(']');
            }
            int number = tape.numberTo(MOST_NUMBER);
            if (number != NONE) {
                return readPart(PUSH, number);
            }
            int word = tape.wordOf(PARTS);
            return word == NONE ? tape.blame() : readPart(ASK, word);
        }

        private boolean readPart(int sign, int number) {
            if (parts >= MOST_PARTS) {
                return tape.blame();
            }
            parts++;
            emit(sign);
            emit(number);
            tape.step();
            return true;
        }
    }

    /** CLAUSES IN FORCE and HOLDINGS on a DAY as known on another; whether CLAUSES HOLD, and which COUNTS. */
    private static final class Bench {
        static final long MOST_SUM = 1000000000000L;
        static final long BROKEN = -2000000000000L;

        final Chest chest;
        final Souls souls;
        final int[] inForce = new int[MOST_TEXTS];
        final int[] struck = new int[MOST_TEXTS];
        final int[] lawsKey = new int[3];
        final int[] left = new int[MOST_HOLDINGS];
        final int[] holder = new int[MOST_HOLDINGS];
        final int[] latest = new int[MOST_HOLDINGS];
        final int[] housesKey = new int[3];
        final long[] stack = new long[100];
        int day = 0;
        int known = 0;
        long sum = 0;
        int counted = NONE;
        long weight = 0;
        int quarrels = 0;

        Bench(Chest chest, Souls souls) {
            this.chest = chest;
            this.souls = souls;
        }

        /** All questions are of this DAY as known on that; needs SOULS as known on it. */
        void turnTo(int toDay, int toKnown) {
            readLaws(toDay, toKnown);
            readHouses(toDay, toKnown);
        }

        // ---- IN FORCE

        Text textAt(int t) {
            return t >= 0 && t < chest.textCount && t < MOST_TEXTS ? chest.texts[t] : null;
        }

        void readLaws(int toDay, int toKnown) {
            day = toDay;
            known = toKnown;
            if (isFresh(lawsKey, day, known, chest.version)) {
                return;
            }
            int texts = Math.min(MOST_TEXTS, chest.textCount);
            for (int t = 0; t < texts; t++) {
                struck[t] = 0;
                inForce[t] = 0;
            }
            for (int t = texts - 1; t >= 0; t--) {
                Text text = textAt(t);
                if (text != null && text.known <= known && text.from <= day) {
                    inForce[t] = (1 << text.clauses) - 1 & ~struck[t];
                    strikeBy(t, text);
                }
            }
        }

        private void strikeBy(int t, Text text) {
            for (int c = 0; c < text.clauses; c++) {
                int aim = text.head(c, Text.WHICH);
                if (text.head(c, Text.KIND) == Clerk.STRIKE && isInForce(t, c) && aim >= 0 && aim < t) {
                    struck[aim] |= 1 << text.head(c, Text.NUMBER);
                }
            }
        }

        boolean isInForce(int t, int clause) {
            return t >= 0 && t < MOST_TEXTS && t < chest.textCount && (inForce[t] >> clause & 1) == 1;
        }

        // ---- HOLDINGS

        void readHouses(int toDay, int toKnown) {
            day = toDay;
            known = toKnown;
            if (isFresh(housesKey, day, known, chest.version)) {
                return;
            }
            int houses = Math.min(MOST_HOLDINGS, chest.holdings.rows);
            readLatest(chest.values, TOLD_VALUE, left, 0);
            readLatest(chest.helds, TOLD_HOLDER, holder, NONE);
            for (int h = 0; h < houses; h++) {
                holder[h] = holder[h] == NONE ? NONE : souls.soulAt(holder[h]);
                int parent = chest.holdings.at(h, PARENT);
                if (parent >= 0 && parent < h) {
                    splitOff(h, parent);
                }
            }
        }

        /** For each HOLDING what was told of it for the latest DAY, of alike ones told last. */
        private void readLatest(Table rows, int column, int[] into, int without) {
            for (int h = 0; h < MOST_HOLDINGS && h < chest.holdings.rows && h < into.length; h++) {
                into[h] = without;
                latest[h] = NONE;
            }
            for (int row = 0; row < rows.rows; row++) {
                int h = rows.at(row, OF_HOLDING);
                int since = rows.at(row, DAY);
                if (rows.isKnown(row, known) && since <= day && h >= 0 && h < MOST_HOLDINGS && h < into.length
                        && since >= latest[h]) {
                    latest[h] = since;
                    into[h] = rows.at(row, column);
                }
            }
        }

        /** A SPLIT takes its part, and is held as its parent, if nobody (not even NONE) was told to hold it. */
        private void splitOff(int h, int parent) {
            int b = chest.holdings.at(h, PART_B);
            if (b > 0 && chest.holdings.isKnown(h, known) && chest.holdings.at(h, DAY) <= day) {
                int taken = left[parent] * chest.holdings.at(h, PART_A) / b;
                left[h] = taken;
                left[parent] -= taken;
            }
            if (latest[h] == NONE) {
                holder[h] = holder[parent];
            }
        }

        // ---- of a SOUL

        long quantity(int what, int soul) {
            switch (what) {
                case 0:
                    souls.readSpan(soul);
                    return Math.max(0, day - souls.span[1]) / YEAR_DAYS;
                case 1: return souls.childrenOf(soul, day);
                case 2: return valueOf(soul);
                case 3: return (day - souls.firstDay(soul, day)) / YEAR_DAYS;
                case 4: return souls.reliefOf(soul, day - 365, day);
                case 5: return souls.hasBy(soul, GROOM, day) || souls.hasBy(soul, BRIDE, day) ? 1 : 0;
                case 6: return souls.hasBy(soul, DEAD, day) ? 1 : 0;
                case 7: return souls.reliefOf(soul, day - 365, day) > 0 ? 1 : 0;
                case 8: return valueOf(soul) > 0 ? 1 : 0;
                default: return isCertified(soul, NONE, day, known) ? 1 : 0;
            }
        }

        private long valueOf(int soul) {
            long all = 0;
            for (int h = 0; h < MOST_HOLDINGS && h < chest.holdings.rows; h++) {
                if (holder[h] == soul) {
                    all += left[h];
                }
            }
            return all;
        }

        /** Whether a SOUL has a CERTIFICATE (of a PARISH; of any: NONE) that has a DAY. */
        boolean isCertified(int soul, int parish, int on, int asKnown) {
            for (int row = 0; row < chest.facts.rows; row++) {
                if (chest.facts.at(row, FACT_GROUND) == CERTIFICATE && chest.facts.isKnown(row, asKnown)
                        && chest.facts.at(row, FROM) <= on && chest.facts.at(row, TO) >= on
                        && (parish == NONE || chest.facts.at(row, FACT_PARISH) == parish)
                        && souls.soulAt(chest.facts.at(row, FACT_MENTION)) == soul) {
                    return true;
                }
            }
            return false;
        }

        // ---- CLAUSES

        /** Whether a CLAUSE HOLDS; its SUM is in sum then. */
        boolean holdsFor(int t, int clause, int soul) {
            sum = 0;
            Text text = textAt(t);
            if (text == null || !isInForce(t, clause) || text.head(clause, Text.KIND) == Clerk.STRIKE) {
                return false;
            }
            int at = text.head(clause, Text.IF_AT);
            if (at != NONE && workOut(text, at, soul) != 1) {
                return false;
            }
            at = text.head(clause, Text.UNLESS_AT);
            if (at != NONE && workOut(text, at, soul) != 0) {
                return false;
            }
            at = text.head(clause, Text.SUM_AT);
            if (at != NONE) {
                sum = workOut(text, at, soul);
            }
            return sum != BROKEN;
        }

        /** Works out a SUM, or a TEST (1, 0): BROKEN, if anything on the way is. */
        private long workOut(Text text, int from, int soul) {
            int[] code = text.code;
            int at = from;
            int top = 0;
            for (int n = 0; n < code.length && at >= 0 && at < code.length && top < stack.length; n++) {
                int sign = code[at];
                int number = at + 1 < code.length ? code[at + 1] : 0;
                if (sign == Clerk.PUSH || sign == Clerk.ASK) {
                    stack[top] = sign == Clerk.PUSH ? number : quantity(number, soul);
                    top++;
                    at += 2;
                    continue;
                }
                if (top < 1) {
                    return BROKEN;
                }
                long last = stack[top - 1];
                if (sign == Clerk.STOP) {
                    return last;
                }
                if (sign == Clerk.NOT) {
                    stack[top - 1] = 1 - last;
                    at++;
                } else if (sign == Clerk.OR || sign == Clerk.AND) {
                    boolean settled = last == (sign == Clerk.OR ? 1 : 0);
                    at = settled ? number : at + 2;
                    top = settled ? top : top - 1;
                } else {
                    long answer = top < 2 ? BROKEN : combine(sign, stack[top - 2], last);
                    if (answer == BROKEN) {
                        return BROKEN;
                    }
                    top--;
                    stack[top - 1] = answer;
                    at++;
                }
            }
            return BROKEN;
        }

        private static long combine(int sign, long x, long y) {
            switch (sign) {
                case Clerk.ADD: return within(x + y);
                case Clerk.TAKE: return within(x - y);
                case Clerk.TIMES:
                    // Tested by a division, for the product itself may be more than a long holds.
                    return x != 0 && Math.abs(y) > MOST_SUM / Math.abs(x) ? BROKEN : x * y;
                case Clerk.THROUGH: return y == 0 ? BROKEN : x / y;
                case Clerk.LESS: return x < y ? 1 : 0;
                case Clerk.MORE: return x > y ? 1 : 0;
                case Clerk.SAME: return x == y ? 1 : 0;
                default: return BROKEN;
            }
        }

        private static long within(long sum) {
            return sum > MOST_SUM || sum < -MOST_SUM ? BROKEN : sum;
        }

        /** Finds the CLAUSE of a kind that COUNTS for a SOUL, its SUM (0 without) and its QUARRELS. */
        boolean weigh(int kind, int which, int soul) {
            counted = NONE;
            weight = 0;
            quarrels = 0;
            for (int sort = 1; sort >= 0; sort--) {
                for (int t = chest.textCount - 1; t >= 0; t--) {
                    Text text = textAt(t);
                    if (text == null || text.sort != sort) {
                        continue;
                    }
                    for (int c = text.clauses - 1; c >= 0; c--) {
                        if (text.isOf(c, kind, which) && holdsFor(t, c, soul)) {
                            noteHolding(t, c);
                        }
                    }
                }
            }
            return counted != NONE;
        }

        private void noteHolding(int t, int clause) {
            if (counted == NONE) {
                counted = t * MOST_CLAUSES + clause;
                weight = sum;
            } else if (sum != weight) {
                quarrels++;
            }
        }

        /** The last "turn" of an OFFICE IN FORCE, as TEXT times 12 and CLAUSE; NONE without. */
        int lastTurn(int office) {
            for (int sort = 1; sort >= 0; sort--) {
                for (int t = chest.textCount - 1; t >= 0; t--) {
                    Text text = textAt(t);
                    if (text == null || text.sort != sort) {
                        continue;
                    }
                    for (int c = text.clauses - 1; c >= 0; c--) {
                        if (text.isOf(c, Clerk.TURN, office) && isInForce(t, c)) {
                            return t * MOST_CLAUSES + c;
                        }
                    }
                }
            }
            return NONE;
        }
    }

    /** Where a SOUL BELONGS. */
    private static final class Settlement {
        static final int GROUNDS = 6;
        static final int HIRE = 1;
        static final int RENT = 2;
        static final int OFFICE_HELD = 3;
        static final int WED = 4;
        static final int PARENTS = 5;
        static final int DEEPEST = 6;

        final Chest chest;
        final Souls souls;
        final Bench bench;
        // For each depth the GROUNDS whose CLAUSES HOLD, and those CLAUSES, in order.
        final int[] grounds = new int[(DEEPEST + 1) * GROUNDS];
        final int[] clauses = new int[(DEEPEST + 1) * GROUNDS];
        int known = 0;
        int by = NONE;
        int lacks = 0;

        Settlement(Chest chest, Souls souls, Bench bench) {
            this.chest = chest;
            this.souls = souls;
            this.bench = bench;
        }

        /** The PARISH, NONE without; by and lacks are of it then. Needs SOULS as known. */
        private int belongs(int soul, int day, int depth) {
            by = NONE;
            lacks = 0;
            if (soul == NONE || depth < 0 || depth > DEEPEST) {
                return NONE;
            }
            bench.turnTo(day, known);
            int row = depth * GROUNDS;
            int many = 0;
            int bits = 0;
            for (int sort = 0; sort < 2; sort++) {
                for (int t = 0; t < chest.textCount; t++) {
                    Text text = bench.textAt(t);
                    int size = text == null || text.sort != sort ? 0 : text.clauses;
                    for (int c = 0; c < size; c++) {
                        int ground = text.head(c, Text.WHICH);
                        // A GROUND that is asked again gives the same: its first CLAUSE is enough.
                        if (text.head(c, Text.KIND) == Clerk.BELONG && (bits >> ground & 1) == 0 && many < GROUNDS
                                && bench.holdsFor(t, c, soul)) {
                            bits |= 1 << ground;
                            grounds[row + many] = ground;
                            clauses[row + many] = t * MOST_CLAUSES + c;
                            many++;
                        }
                    }
                }
            }
            for (int n = 0; n < many; n++) {
                int parish = parishBy(grounds[row + n], soul, day, depth);
                if (parish != NONE) {
                    by = clauses[row + n];
                    lacks = 0;
                    return parish;
                }
            }
            by = NONE;
            lacks = bits;
            return NONE;
        }

        private int parishBy(int ground, int soul, int day, int depth) {
            switch (ground) {
                case WED: return byWedding(soul, day, depth);
                case PARENTS: return byParents(soul, depth);
                case RENT: return byLatest(soul, RENT, FROM, day - RENT_DAYS);
                case HIRE:
                case OFFICE_HELD: return byLatest(soul, ground, TO, day);
                default: return byBirth(soul, day);
            }
        }

        private int byBirth(int soul, int day) {
            for (int row = chest.facts.rows - 1; row >= 0; row--) {
                if (isFactOf(row, soul, 0) && chest.facts.at(row, FROM) <= day) {
                    return chest.facts.at(row, FACT_PARISH);
                }
            }
            return souls.hasBy(soul, CHILD, day) ? 0 : NONE;
        }

        private boolean isFactOf(int row, int soul, int ground) {
            return chest.facts.at(row, FACT_GROUND) == ground && chest.facts.isKnown(row, known)
                    && souls.soulAt(chest.facts.at(row, FACT_MENTION)) == soul;
        }

        /** By the FACT that has the latest DAY in a column, not behind a DAY; of alike ones told last. */
        private int byLatest(int soul, int ground, int column, int notBehind) {
            int latest = NONE;
            int parish = NONE;
            for (int row = 0; row < chest.facts.rows; row++) {
                int day = chest.facts.at(row, column);
                int days = chest.facts.at(row, TO) - chest.facts.at(row, FROM);
                if (day <= notBehind && day >= latest && (ground == RENT || days >= HIRE_DAYS)
                        && isFactOf(row, soul, ground)) {
                    latest = day;
                    parish = chest.facts.at(row, FACT_PARISH);
                }
            }
            return parish;
        }

        private int byWedding(int soul, int day, int depth) {
            int latest = NONE;
            int bride = NONE;
            for (int m = soul, n = 0; m != NONE && n < MOST_MENTIONS; m = souls.next[m], n++) {
                if (souls.code[m] == BRIDE && souls.day[m] <= day && souls.day[m] >= latest) {
                    latest = souls.day[m];
                    bride = m;
                }
            }
            return bride == NONE || depth >= DEEPEST ? NONE : belongs(souls.namedSoul(bride - 1), day, depth + 1);
        }

        private int byParents(int soul, int depth) {
            int birth = souls.birthOf(soul);
            if (birth == NONE || depth >= DEEPEST) {
                return NONE;
            }
            int day = souls.day[birth];
            int parish = belongs(souls.namedSoul(birth + 1), day, depth + 1);
            return parish != NONE ? parish : belongs(souls.namedSoul(birth + 2), day, depth + 1);
        }
    }

    // ---- LEVIES, SEATS, TURNS

    /** What is worked out over all HOLDINGS; each part is kept till something is told. */
    private static final class Rates {
        final Chest chest;
        final Souls souls;
        final Bench bench;
        final int[] owed = new int[MOST_HOLDINGS];
        final int[] shares = new int[MOST_HOLDINGS];
        final long[] rests = new long[MOST_HOLDINGS];
        final int[] levyKey = new int[3];
        final int[] seats = new int[MOST_HOLDINGS];
        final long[] sums = new long[MOST_HOLDINGS];
        int seatCount = 0;
        final int[] seatKey = new int[3];
        final int[] servedBy = new int[LAST_YEAR + 1];
        final int[] passedIn = new int[LAST_YEAR + 1];
        final int[] servedLast = new int[MOST_HOLDINGS];
        final int[] times = new int[MOST_HOLDINGS];
        int yearsRun = 0;
        int lastHouse = NONE;
        final int[] turnKey = new int[3];

        Rates(Chest chest, Souls souls, Bench bench) {
            this.chest = chest;
            this.souls = souls;
            this.bench = bench;
        }

        private int houses() {
            return Math.min(MOST_HOLDINGS, chest.holdings.rows);
        }

        // ---- LEVIES

        /** Needs SOULS as known, as all of these. */
        void partOut(int levy, int known) {
            if (isFresh(levyKey, levy, known, chest.version)) {
                return;
            }
            int what = chest.levies.at(levy, LEVY_WHAT);
            int pence = chest.levies.at(levy, LEVY_PENCE);
            bench.turnTo(chest.levies.at(levy, YEAR) * YEAR_DAYS, known);
            long all = 0;
            for (int h = 0; h < houses(); h++) {
                boolean pays = bench.left[h] > 0 && bench.holder[h] != NONE
                        && !bench.weigh(Clerk.EXEMPT, what, bench.holder[h]);
                shares[h] = pays ? bench.left[h] : 0;
                all += shares[h];
            }
            share(pence, all);
            for (int h = 0; h < houses(); h++) {
                if (owed[h] > 0 && bench.weigh(Clerk.RATE, what, bench.holder[h])) {
                    owed[h] = (int) Math.min(owed[h], Math.max(0L, bench.weight));
                }
            }
        }

        private void share(int pence, long all) {
            long rest = all == 0 ? 0 : pence;
            for (int h = 0; h < houses(); h++) {
                long part = (long) pence * shares[h];
                owed[h] = all == 0 ? 0 : (int) (part / all);
                rests[h] = all == 0 || shares[h] == 0 ? NONE : part % all;
                rest -= owed[h];
            }
            for (int n = 0; n < MOST_HOLDINGS && rest > 0; n++) {
                int to = greatestRest();
                if (to != NONE) {
                    owed[to]++;
                    rests[to] = NONE;
                }
                rest--;
            }
        }

        private int greatestRest() {
            long most = NONE;
            int at = NONE;
            for (int h = 0; h < houses(); h++) {
                if (rests[h] > most) {
                    most = rests[h];
                    at = h;
                }
            }
            return at;
        }

        int owedByAll() {
            int all = 0;
            for (int h = 0; h < houses(); h++) {
                all += owed[h];
            }
            return all;
        }

        // ---- SEATS

        void seatAll(int day, int known) {
            if (isFresh(seatKey, day, known, chest.version)) {
                return;
            }
            bench.turnTo(day, known);
            seatCount = 0;
            for (int h = 0; h < houses(); h++) {
                if (bench.holder[h] != NONE) {
                    sitDown(h, bench.weigh(Clerk.SEAT, 0, bench.holder[h]) ? bench.weight : NO_SUM);
                }
            }
        }

        private void sitDown(int h, long sum) {
            int at = seatCount;
            for (; at > 0 && at < MOST_HOLDINGS && sums[at - 1] < sum; at--) {
                seats[at] = seats[at - 1];
                sums[at] = sums[at - 1];
            }
            if (at < MOST_HOLDINGS) {
                seats[at] = h;
                sums[at] = sum;
                seatCount++;
            }
        }

        // ---- TURNS

        void runTurns(int office, int year, int known) {
            if (!isFresh(turnKey, office, known, chest.version)) {
                yearsRun = 0;
                lastHouse = NONE;
                for (int h = 0; h < MOST_HOLDINGS; h++) {
                    servedLast[h] = NONE;
                }
            }
            for (; yearsRun <= year && yearsRun <= LAST_YEAR; yearsRun++) {
                servedBy[yearsRun] = NONE;
                passedIn[yearsRun] = 0;
                bench.readLaws(yearsRun * YEAR_DAYS, known);
                int turn = bench.lastTurn(office);
                if (turn != NONE) {
                    bench.readHouses(yearsRun * YEAR_DAYS, known);
                    goRound(yearsRun, turn / MOST_CLAUSES, turn % MOST_CLAUSES);
                }
            }
        }

        private void goRound(int year, int t, int clause) {
            Text text = bench.textAt(t);
            int many = houses();
            int spared = text == null ? 0 : text.head(clause, Text.NUMBER);
            passedIn[year] = many;
            for (int n = 0; n < many; n++) {
                int h = (lastHouse + 1 + n) % many;
                int soul = bench.holder[h];
                boolean rested = servedLast[h] == NONE || servedLast[h] < year - spared;
                if (rested && soul != NONE && !souls.hasBy(soul, DEAD, year * YEAR_DAYS)
                        && bench.holdsFor(t, clause, soul)) {
                    servedBy[year] = h;
                    passedIn[year] = n;
                    servedLast[h] = year;
                    lastHouse = h;
                    return;
                }
            }
        }

        /** How often the HOLDING that served most in YEARS 0 .. year did, less the one that did least. */
        int unevenness(int year) {
            for (int h = 0; h < MOST_HOLDINGS; h++) {
                times[h] = 0;
            }
            for (int y = 0; y <= year && y <= LAST_YEAR; y++) {
                int h = servedBy[y];
                if (h >= 0 && h < MOST_HOLDINGS) {
                    times[h]++;
                }
            }
            int most = 0;
            int least = houses() == 0 ? 0 : LAST_YEAR + 1;
            for (int h = 0; h < houses(); h++) {
                most = Math.max(most, times[h]);
                least = Math.min(least, times[h]);
            }
            return most - least;
        }
    }
}

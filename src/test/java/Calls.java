import java.util.Random;

/** Random calls that make sense often enough, and the way to put one to a chest. */
final class Calls {
    private static final String[] NAMES = ("line line line line line line spell terms apart together together together together"
            + " torn text text text fact fact appeal holding holding value value split hold hold hold levy pay entry close"
            + " acres price seal alter image back wish wish wish wish clear join"
            + " of name piece reason worth waits soul mentions kin span best best group fill force holds counts counts about"
            + " about belong belong order house house owe owe arrear turn turn balance beyond badge seat fee coin found as"
            + " count status fault feed end").split(" ");
    private static final String[] FILLING = ("line line text apart together torn fact appeal holding split value hold levy pay entry"
            + " close price").split(" ");
    private static final String[] GIVEN = {"ann", "anna", "an-", "?", "eve", "bob", "ann", "ev"};
    private static final String[] FAMILY = {"lee", "lea", "le-", "?", "fox", "lee", "lee"};
    private static final String[] SPELLINGS = {"e>a", "nn>n", "a>", "v>b,ee>ea", "", "x>ks,o>", "abcd>e", "a>b c", "l>fo,n>"};

    final Random random;
    private final int[] days = new int[10];
    private final int houses;
    private final int years;
    private final String[] names;

    Calls(long seed) {
        random = new Random(seed);
        int spread = random.nextInt(4) == 0 ? 400 : random.nextInt(2) == 0 ? 90 : 12;
        years = spread;
        houses = 1 + random.nextInt(6);
        for (int i = 0; i < days.length; i++) {
            days[i] = random.nextInt(spread * 366);
        }
        names = seed % 4 == 3 ? few() : NAMES;
    }

    /** Few kinds of what is told, many times, so that its room is filled; and some that ask. */
    private String[] few() {
        String[] row = new String[80];
        for (int kind = 0; kind < 3; kind++) {
            String name = FILLING[random.nextInt(FILLING.length)];
            for (int n = 0; n < 18; n++) {
                row[kind * 18 + n] = name;
            }
        }
        for (int n = 54; n < 80; n++) {
            row[n] = n < 58 ? "line" : n < 60 ? "holding" : n == 60 ? "image" : n == 61 ? "back" : n == 62 ? "levy"
                    : NAMES[random.nextInt(NAMES.length)];
        }
        return row;
    }

    /** Sometimes the whole day. */
    int day() {
        switch (random.nextInt(16)) {
            case 0: return random.nextInt(years) * 366;
            case 1: return 146399;
            case 2: return 0;
            case 3: return random.nextInt(30) == 0 ? 146400 : days[0];
            case 4: return random.nextInt(30) == 0 ? -1 : days[1];
            case 5: return Math.min(146399, days[random.nextInt(10)] + 365);
            case 6: return Math.min(146399, days[random.nextInt(10)] + 14 * 366);
            case 7: return Math.max(0, days[random.nextInt(10)] - 40);
            default: return Math.max(0, Math.min(146399, days[random.nextInt(10)] + random.nextInt(3) - 1));
        }
    }

    int known() {
        switch (random.nextInt(5)) {
            case 0: return 0;
            case 1: return day();
            default: return 146399;
        }
    }

    private int told() {
        return random.nextInt(3) == 0 ? day() : 0;
    }

    private int year() {
        return random.nextInt(40) == 0 ? random.nextInt(2) * 401 - 1 : random.nextInt(years);
    }

    private int pick(int most) {
        return random.nextInt(60) == 0 ? random.nextInt(2) * (most + 1) - 1 : random.nextInt(Math.max(1, most));
    }

    private int mention(ParishChest x) {
        int lines = x.count(0);
        if (lines == 0 || random.nextInt(60) == 0) {
            return random.nextInt(700) - 20;
        }
        int line = random.nextInt(lines);
        int roles = x.of(line, 5);
        return line * 3 + (random.nextInt(60) == 0 ? random.nextInt(3) : random.nextInt(Math.max(1, roles)));
    }

    private int lineOf(ParishChest x) {
        return pick(x.count(0));
    }

    /** Mostly a LINE of one of two BOOKS, if there is any. */
    private int lineOfBooks(ParishChest x, int one, int other) {
        int line = lineOf(x);
        for (int n = 0; n < 40 && random.nextInt(20) > 0 && x.of(line, 0) != one && x.of(line, 0) != other; n++) {
            line = lineOf(x);
        }
        return line;
    }

    private int houseOf(ParishChest x) {
        return pick(x.count(3));
    }

    String next(ParishChest x) {
        String name = names[random.nextInt(names.length)];
        if (names != NAMES) {
            return name.equals("back") && random.nextInt(8) > 0 ? "status" : name;
        }
        boolean skip = name.equals("line") && x.count(0) >= 30 && random.nextInt(10) > 0
                || (name.equals("holding") || name.equals("split")) && x.count(3) >= houses && random.nextInt(10) > 0
                || name.equals("text") && x.count(1) >= 8 && random.nextInt(10) > 0
                || name.equals("wish") && x.count(7) >= 6 && random.nextInt(10) > 0
                || name.equals("back") && random.nextInt(4) > 0;
        return skip ? "status" : name;
    }

    /** The TEXT for a call that reads one; null for others. */
    String textFor(String name) {
        String text;
        switch (name) {
            case "line": text = line(); break;
            case "spell": text = SPELLINGS[random.nextInt(SPELLINGS.length)]; break;
            case "text": text = law(); break;
            default: return null;
        }
        if (random.nextInt(25) == 0 && text.length() > 0) {
            text = text.substring(0, random.nextInt(text.length()));
        }
        if (random.nextInt(40) == 0 && text.length() > 1) {
            int at = random.nextInt(text.length());
            text = text.substring(0, at) + ".,;-?[](<+9 az".charAt(random.nextInt(14)) + text.substring(at + 1);
        }
        return text.length() > 400 ? text.substring(0, 400) : text;
    }

    private String role() {
        return random.nextInt(8) == 0 ? "?" : GIVEN[random.nextInt(GIVEN.length)] + " " + FAMILY[random.nextInt(FAMILY.length)];
    }

    private String line() {
        StringBuilder text = new StringBuilder();
        int roles = random.nextInt(10) == 0 ? 0 : random.nextInt(3) == 0 ? 3 : book == 0 ? 3 : book == 1 ? 2 : 1;
        for (int n = 0; n < Math.min(roles, book == 0 ? 3 : book == 1 ? 2 : 1); n++) {
            text.append(n == 0 ? "" : ", ").append(role());
        }
        return text.append(".").toString();
    }

    private String sum(int deep) {
        String[] parts = {"age", "children", "value", "years", "relieved", "1", "3", "10", "0", "100000"};
        if (deep > 3 || random.nextInt(3) == 0) {
            return parts[random.nextInt(parts.length)];
        }
        String inner = sum(deep + 1) + " " + "+-*/*-".charAt(random.nextInt(6)) + " " + sum(deep + 1);
        return random.nextBoolean() ? inner : "[" + inner + "]";
    }

    private String test(int deep) {
        String[] plains = {"married", "dead", "poor", "holds", "certified"};
        switch (random.nextInt(deep > 2 ? 2 : 6)) {
            case 0: return plains[random.nextInt(5)];
            case 1: return sum(2) + "<>=".charAt(random.nextInt(3)) + sum(2);
            case 2: return "not " + test(deep + 1);
            case 3: return test(deep + 1) + " or " + test(deep + 1);
            case 4: return test(deep + 1) + " and " + test(deep + 1);
            default: return "(" + test(deep + 1) + ")";
        }
    }

    private String law() {
        StringBuilder text = new StringBuilder();
        String[] grounds = {"birth", "hire", "rent", "office", "wed", "parents"};
        String[] whats = {"church", "way", "poor"};
        String[] offices = {"constable", "surveyor"};
        String[] fees = {"bell", "grave", "wedding"};
        int many = 1 + random.nextInt(5);
        for (int n = 0; n < many; n++) {
            text.append(n == 0 ? "" : ";");
            int kind = random.nextInt(11);
            switch (kind) {
                case 0:
                case 9: text.append("belong ").append(grounds[random.nextInt(6)]); break;
                case 1: text.append("exempt ").append(whats[random.nextInt(3)]); break;
                case 2: text.append("rate ").append(whats[random.nextInt(3)]).append(" ").append(sum(2)); break;
                case 3: text.append("relief ").append(sum(1)); break;
                case 4: text.append("badge"); break;
                case 5:
                case 10: text.append("turn ").append(offices[random.nextInt(2)]).append(" ").append(random.nextInt(4)); break;
                case 6: text.append("fee ").append(fees[random.nextInt(3)]).append(" ").append(sum(2)); break;
                case 7: text.append("seat ").append(sum(1)); break;
                default: text.append("strike ").append(random.nextInt(6)).append(" clause ").append(random.nextInt(4));
            }
            if (kind != 8 && random.nextInt(3) == 0) {
                text.append(" if ").append(test(1));
            }
            if (kind != 8 && random.nextInt(4) == 0) {
                text.append(" unless ").append(test(1));
            }
        }
        return text.toString();
    }

    private int book;

    int[] arguments(String name, ParishChest x) {
        int h = houseOf(x);
        int m = mention(x);
        switch (name) {
            case "feed": return new int[] {random.nextInt(), 0x20202020, 0x616e6e20, 0x6c65652e, random.nextInt()};
            case "end": return new int[] {random.nextInt(4) == 0 ? random.nextInt(60) - 2 : 0};
            case "line":
                book = pick(6);
                int[] number = {-1, -1, random.nextInt(3) == 0 ? -1 : random.nextInt(60), random.nextInt(50),
                    random.nextInt(50), 1 + random.nextInt(4)};
                return new int[] {book, random.nextInt(30) == 0 ? 16 : random.nextInt(3), day(), told(),
                    book >= 0 && book < 6 && random.nextInt(60) > 0 ? number[book] : random.nextInt(200) - 5};
            case "spell": return new int[] {random.nextInt(20) == 0 ? 16 : random.nextInt(3)};
            case "terms": return new int[] {pick(100), pick(100), pick(50), pick(100), random.nextInt(22)};
            case "text": return new int[] {random.nextInt(40) == 0 ? 2 : random.nextInt(2), told(), told()};
            case "of": return new int[] {lineOf(x), pick(6)};
            case "name": return new int[] {m, pick(2), random.nextInt(6) - 1};
            case "piece": return new int[] {m, pick(2), random.nextInt(6) - 1, random.nextInt(5)};
            case "reason":
            case "worth":
            case "apart": return new int[] {m, mention(x)};
            case "together": return partners(x);
            case "waits": return new int[] {known(), random.nextInt(4) - 1};
            case "soul": return new int[] {m, known()};
            case "mentions": return new int[] {m, known(), pick(2), random.nextInt(4)};
            case "kin": return new int[] {m, known(), pick(4), random.nextInt(3)};
            case "span": return new int[] {m, known(), pick(4)};
            case "wish": return new int[] {m};
            case "best": return new int[] {pick(4), random.nextInt(10) == 0 ? random.nextInt(2) * 1002 - 1 : random.nextInt(60)};
            case "group": return new int[] {random.nextInt(9) - 1};
            case "join": return new int[] {told()};
            case "torn": return range(pick(6), told());
            case "fill": return new int[] {random.nextInt(3) == 0 ? pick(6) : random.nextInt(2) * 2, 0, 0, known(), pick(3)};
            case "force": return new int[] {pick(x.count(1)), pick(4), day(), known()};
            case "holds": return new int[] {pick(x.count(1)), pick(4), m, day(), known()};
            case "counts": return new int[] {pick(8), m, day(), known(), pick(3)};
            case "about": return new int[] {m, day(), known(), pick(10)};
            case "fact":
                int[] r = range(0, 0);
                return new int[] {m, pick(5), random.nextInt(5), r[1], r[2], told()};
            case "belong": return new int[] {m, day(), known(), pick(3)};
            case "order": return new int[] {lineOfBooks(x, 5, 5), known(), pick(3)};
            default: return moreArguments(name, x, h, m);
        }
    }

    private int[] moreArguments(String name, ParishChest x, int h, int m) {
        int levy = pick(x.count(5));
        switch (name) {
            case "appeal": return new int[] {lineOfBooks(x, 5, 5), random.nextInt(3) == 0 ? day() : 146399, told()};
            case "value": return new int[] {h, random.nextInt(random.nextBoolean() ? 30 : 10200), told(), told()};
            case "split":
                int b = 1 + random.nextInt(101);
                return new int[] {h, random.nextInt(b + 1), b, told(), told()};
            case "hold": return new int[] {h, random.nextInt(10) == 0 ? -1 : m, told(), told()};
            case "house": return new int[] {h, day(), known(), pick(2)};
            case "levy": return new int[] {pick(3), year(), random.nextInt(random.nextBoolean() ? 1000 : 1000100), told()};
            case "owe": return new int[] {levy, random.nextInt(4) == 0 ? -1 : h, known()};
            case "pay": return new int[] {levy, h, random.nextInt(500), told(), told()};
            case "arrear": return new int[] {levy, h, day(), known()};
            case "turn": return new int[] {random.nextInt(20) == 0 ? pick(4) : random.nextInt(2), year(), known(), pick(3)};
            case "entry": return new int[] {random.nextInt(2), year() % 8, random.nextInt(200) - 50, told()};
            case "close":
                int office = random.nextInt(2);
                int on = day();
                int y = 0;
                while (y < 9 && random.nextInt(3) > 0) {
                    y++;
                }
                return new int[] {office, y, random.nextInt(10) == 0 ? 1 : x.balance(office, y, on), on};
            case "balance": return new int[] {pick(3), year() % 10, known()};
            case "beyond": return new int[] {lineOfBooks(x, 4, 4), known()};
            case "fee": return new int[] {lineOfBooks(x, 1, 2), known()};
            case "badge":
                int relief = lineOfBooks(x, 4, 4);
                return new int[] {relief * 3, Math.min(146399, Math.max(0, x.of(relief, 2)) + random.nextInt(367)), known()};
            case "seat": return new int[] {day(), known(), random.nextInt(6) - 1};
            case "acres": return new int[] {h, pick(3), random.nextInt(1002)};
            case "price": return new int[] {pick(3), year(), random.nextInt(100), told()};
            case "coin": return new int[] {h, year(), known()};
            case "seal": return new int[] {sealYear(x)};
            case "found": return new int[] {sealYear(x)};
            case "alter": return new int[] {lineOf(x), random.nextInt(258)};
            case "image": return new int[] {random.nextInt(5)};
            case "back": return new int[] {random.nextInt(5)};
            case "as": return new int[] {pick(x.count(4)), pick(10)};
            case "count": return new int[] {pick(12)};
            default: return new int[0];
        }
    }

    private int sealYear(ParishChest x) {
        int line = lineOf(x);
        return random.nextInt(10) == 0 ? year() : Math.max(0, x.of(line, 2)) / 366;
    }

    private int[] range(int first, int last) {
        int a = day();
        int b = random.nextInt(3) == 0 ? a + random.nextInt(800) : day();
        return random.nextInt(30) == 0 ? new int[] {first, a, b, last} : new int[] {first, Math.min(a, b), Math.max(a, b), last};
    }

    /** Two MENTIONS, often two that may be one. */
    private int[] partners(ParishChest x) {
        int a = mention(x);
        int b = mention(x);
        for (int n = 0; n < 20 && x.reason(a, b) != 0; n++) {
            a = mention(x);
            b = mention(x);
        }
        return new int[] {a, b, told()};
    }

    /** fill()'s DAYS are drawn here, so that they are often of SPANS. */
    void fillDays(int[] a, ParishChest x) {
        int m = mention(x);
        int[] r = range(0, 0);
        a[1] = r[1];
        a[2] = r[2];
        if (random.nextBoolean() && x.soul(m, a[3]) >= 0) {
            int at = a[0] == 0 ? 0 : 2;
            a[1] = Math.max(0, x.span(m, a[3], at) - random.nextInt(2));
            a[2] = Math.min(146399, Math.max(a[1], x.span(m, a[3], at + 1) - random.nextInt(2)));
        }
    }

    static long put(ParishChest x, String name, int[] a) {
        switch (name) {
            case "feed": return x.feed(a[0], a[1], a[2], a[3], a[4]);
            case "end": return x.end(a[0]);
            case "fault": return x.fault();
            case "line": return x.line(a[0], a[1], a[2], a[3], a[4]);
            case "of": return x.of(a[0], a[1]);
            case "spell": return x.spell(a[0]);
            case "name": return x.name(a[0], a[1], a[2]);
            case "piece": return x.piece(a[0], a[1], a[2], a[3]);
            case "terms": return x.terms(a[0], a[1], a[2], a[3], a[4]);
            case "reason": return x.reason(a[0], a[1]);
            case "worth": return x.worth(a[0], a[1]);
            case "apart": return x.apart(a[0], a[1]);
            case "together": return x.together(a[0], a[1], a[2]);
            case "waits": return x.waits(a[0], a[1]);
            case "soul": return x.soul(a[0], a[1]);
            case "mentions": return x.mentions(a[0], a[1], a[2], a[3]);
            case "kin": return x.kin(a[0], a[1], a[2], a[3]);
            case "span": return x.span(a[0], a[1], a[2]);
            case "wish": return x.wish(a[0]);
            case "clear": return x.clear();
            case "best": return x.best(a[0], a[1]);
            case "group": return x.group(a[0]);
            case "join": return x.join(a[0]);
            case "torn": return x.torn(a[0], a[1], a[2], a[3]);
            case "fill": return x.fill(a[0], a[1], a[2], a[3], a[4]);
            case "text": return x.text(a[0], a[1], a[2]);
            case "force": return x.force(a[0], a[1], a[2], a[3]);
            case "holds": return x.holds(a[0], a[1], a[2], a[3], a[4]);
            case "counts": return x.counts(a[0], a[1], a[2], a[3], a[4]);
            case "about": return x.about(a[0], a[1], a[2], a[3]);
            case "fact": return x.fact(a[0], a[1], a[2], a[3], a[4], a[5]);
            case "belong": return x.belong(a[0], a[1], a[2], a[3]);
            default: return putMore(x, name, a);
        }
    }

    private static long putMore(ParishChest x, String name, int[] a) {
        switch (name) {
            case "order": return x.order(a[0], a[1], a[2]);
            case "appeal": return x.appeal(a[0], a[1], a[2]);
            case "holding": return x.holding();
            case "value": return x.value(a[0], a[1], a[2], a[3]);
            case "split": return x.split(a[0], a[1], a[2], a[3], a[4]);
            case "hold": return x.hold(a[0], a[1], a[2], a[3]);
            case "house": return x.house(a[0], a[1], a[2], a[3]);
            case "levy": return x.levy(a[0], a[1], a[2], a[3]);
            case "owe": return x.owe(a[0], a[1], a[2]);
            case "pay": return x.pay(a[0], a[1], a[2], a[3], a[4]);
            case "arrear": return x.arrear(a[0], a[1], a[2], a[3]);
            case "turn": return x.turn(a[0], a[1], a[2], a[3]);
            case "entry": return x.entry(a[0], a[1], a[2], a[3]);
            case "close": return x.close(a[0], a[1], a[2], a[3]);
            case "balance": return x.balance(a[0], a[1], a[2]);
            case "beyond": return x.beyond(a[0], a[1]);
            case "badge": return x.badge(a[0], a[1], a[2]);
            case "seat": return x.seat(a[0], a[1], a[2]);
            case "fee": return x.fee(a[0], a[1]);
            case "acres": return x.acres(a[0], a[1], a[2]);
            case "price": return x.price(a[0], a[1], a[2], a[3]);
            case "coin": return x.coin(a[0], a[1], a[2]);
            case "seal": return x.seal(a[0]);
            case "alter": return x.alter(a[0], a[1]);
            case "found": return x.found(a[0]);
            case "image": return x.image(a[0]);
            case "back": return x.back(a[0]);
            case "as": return x.as(a[0], a[1]);
            case "count": return x.count(a[0]);
            case "status": return x.status();
            default: throw new IllegalArgumentException(name);
        }
    }
}

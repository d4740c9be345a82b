import java.math.BigInteger;
import java.util.ArrayList;
import java.util.Arrays;
import java.util.Collections;
import java.util.List;
import java.util.TreeMap;
import java.util.TreeSet;

/**
 * The document once more, in the plainest Java: nothing is kept but what was told, all is worked out anew for each
 * question. ModelTest asks it and the class the same things.
 */
final class Model {
    private static final int LAST = 146399;
    private static final int Y = 366;
    private static final int NOTHING = -2000000000;
    private static final long NO_SUM = -2000000000000L;
    private static final int[] ROLES = {3, 2, 1, 1, 1, 1};
    private static final String[][] ROLE_NAMES = {{"child", "father", "mother"}, {"groom", "bride"}, {"dead"},
        {"payer"}, {"relieved"}, {"sent"}};

    // ---- what is told

    private static final class Name {
        final String letters;
        final boolean torn;

        Name(String letters, boolean torn) {
            this.letters = letters;
            this.torn = torn;
        }
    }

    private static final class Line {
        int book;
        int hand;
        int day;
        int known;
        int number;
        boolean torn;
        Name[] names = new Name[6];

        Line copy() {
            Line other = new Line();
            other.book = book;
            other.hand = hand;
            other.day = day;
            other.known = known;
            other.number = number;
            other.torn = torn;
            other.names = names;
            return other;
        }
    }

    private static final class Clause {
        String kind;
        int which;
        int number;
        Node sum;
        Node iff;
        Node unless;
    }

    private static final class Law {
        int sort;
        int from;
        int known;
        List<Clause> clauses = new ArrayList<>();
    }

    private static final class Node {
        final String sign;
        final Node left;
        final Node right;
        final long number;

        Node(String sign, Node left, Node right, long number) {
            this.sign = sign;
            this.left = left;
            this.right = right;
            this.number = number;
        }
    }

    private static final class State {
        List<Line> lines = new ArrayList<>();
        List<Law> texts = new ArrayList<>();
        TreeMap<Integer, long[]> seals = new TreeMap<>();
        // aparts, bonds, pages, facts, appeals, values, holdings, helds, levies, paid, entries, closings, prices, things
        List<List<int[]>> rows = new ArrayList<>();

        State() {
            for (int n = 0; n < 14; n++) {
                rows.add(new ArrayList<>());
            }
        }

        State copy() {
            State other = new State();
            for (Line line : lines) {
                other.lines.add(line.copy());
            }
            other.texts.addAll(texts);
            other.seals.putAll(seals);
            for (int n = 0; n < 14; n++) {
                other.rows.get(n).addAll(rows.get(n));
            }
            return other;
        }
    }

    private State s = new State();
    private final State[] images = new State[4];
    private final List<List<String[]>> spellings = new ArrayList<>();
    private int[] terms = {10, 10, 5, 20, 2};
    private final List<Integer> wishes = new ArrayList<>();
    private final int[][] acres = new int[40][3];
    private final List<Integer> tape = new ArrayList<>();
    private int fault = -1;
    private int status = 0;

    Model() {
        for (int hand = 0; hand < 16; hand++) {
            spellings.add(new ArrayList<>());
        }
    }

    private List<int[]> rows(int n) {
        return s.rows.get(n);
    }

    private int no(int why) {
        status = why;
        return why;
    }

    private int yes(int answer) {
        status = 0;
        return answer;
    }

    private static boolean day(int... days) {
        for (int day : days) {
            if (day < 0 || day > LAST) {
                return false;
            }
        }
        return true;
    }

    private static boolean in(int x, int least, int most) {
        return least <= x && x <= most;
    }

    private boolean mention(int m) {
        return m >= 0 && m / 3 < s.lines.size() && m % 3 < ROLES[s.lines.get(m / 3).book];
    }

    private boolean house(int h) {
        return h >= 0 && h < rows(6).size();
    }

    // ---- reading

    private static final class Fault extends RuntimeException {
        private static final long serialVersionUID = 1;
        final int at;

        Fault(int at) {
            super(null, null, false, false);
            this.at = at;
        }
    }

    /** TOKENS as {text, from, to}; the last one is the end, an empty text. */
    private final class Reader {
        final List<Object[]> tokens = new ArrayList<>();
        int at = 0;
        int parts = 0;

        Reader() {
            StringBuilder all = new StringBuilder();
            for (int b : tape) {
                all.append((char) b);
            }
            String text = all.toString();
            java.util.regex.Matcher m = java.util.regex.Pattern.compile("[a-z]+|[0-9]+|[^ ]", java.util.regex.Pattern.DOTALL).matcher(text);
            while (m.find()) {
                tokens.add(new Object[] {m.group(), m.start(), m.end()});
            }
            tokens.add(new Object[] {"", text.length(), text.length()});
        }

        String now() {
            return (String) tokens.get(at)[0];
        }

        int from() {
            return (Integer) tokens.get(at)[1];
        }

        int to() {
            return (Integer) tokens.get(at)[2];
        }

        boolean ended() {
            return now().isEmpty();
        }

        boolean is(String what) {
            return now().equals(what);
        }

        boolean letters() {
            return now().matches("[a-z]+");
        }

        String take() {
            return (String) tokens.get(at++)[0];
        }

        void need(boolean fine) {
            if (!fine) {
                throw new Fault(from());
            }
        }

        void take(String what) {
            need(is(what));
            at++;
        }

        int pick(String... words) {
            int n = Arrays.asList(words).indexOf(now());
            need(n >= 0);
            at++;
            return n;
        }

        int number(int most) {
            need(now().matches("[0-9]+") && new BigInteger(now()).compareTo(BigInteger.valueOf(most)) <= 0);
            return new BigInteger(take()).intValue();
        }
    }

    private Line readLine(int roles) {
        Reader r = new Reader();
        Line line = new Line();
        if (!r.is(".")) {
            for (int role = 0; ; role++) {
                if (r.ended()) {
                    line.torn = true;
                    return line;
                }
                r.need(role < roles);
                if (r.is("?") && (((String) r.tokens.get(r.at + 1)[0]).isEmpty()
                        || r.tokens.get(r.at + 1)[0].equals(",") || r.tokens.get(r.at + 1)[0].equals("."))) {
                    r.take();
                } else {
                    for (int which = 0; which < 2; which++) {
                        if (r.ended()) {
                            line.torn = true;
                            return line;
                        }
                        if (r.is("?")) {
                            r.take();
                            continue;
                        }
                        r.need(r.letters() && r.now().length() <= 12);
                        boolean last = r.to() == tape.size();
                        String letters = r.take();
                        if (r.is("-")) {
                            r.take();
                            last = true;
                        }
                        line.names[role * 2 + which] = new Name(letters, last);
                    }
                }
                if (r.ended()) {
                    line.torn = true;
                    return line;
                }
                if (r.is(".")) {
                    break;
                }
                r.need(r.is(",") && role + 1 < roles);
                r.take();
            }
        }
        r.take(".");
        r.need(r.ended());
        return line;
    }

    private List<String[]> readPairs() {
        Reader r = new Reader();
        List<String[]> pairs = new ArrayList<>();
        if (r.ended()) {
            return pairs;
        }
        while (true) {
            r.need(pairs.size() < 8 && r.letters() && r.now().length() <= 3);
            String left = r.take();
            r.take(">");
            String right = "";
            if (r.letters()) {
                r.need(r.now().length() <= 3);
                right = r.take();
            }
            pairs.add(new String[] {left, right});
            if (r.ended()) {
                return pairs;
            }
            r.take(",");
        }
    }

    private Law readLaw() {
        Reader r = new Reader();
        Law law = new Law();
        while (true) {
            r.need(law.clauses.size() < 12);
            law.clauses.add(readClause(r));
            if (r.ended()) {
                return law;
            }
            r.take(";");
        }
    }

    private Clause readClause(Reader r) {
        Clause c = new Clause();
        r.need(Arrays.asList("strike", "belong", "exempt", "rate", "relief", "badge", "turn", "fee", "seat").contains(r.now()));
        c.kind = r.take();
        switch (c.kind) {
            case "strike":
                c.which = r.number(29);
                r.take("clause");
                c.number = r.number(11);
                return c;
            case "belong":
                c.which = r.pick("birth", "hire", "rent", "office", "wed", "parents");
                break;
            case "exempt":
            case "rate":
                c.which = r.pick("church", "way", "poor");
                break;
            case "turn":
                c.which = r.pick("constable", "surveyor", "overseer", "warden");
                c.number = r.number(399);
                break;
            case "fee":
                c.which = r.pick("bell", "grave", "wedding");
                break;
            default:
        }
        if (Arrays.asList("rate", "relief", "fee", "seat").contains(c.kind)) {
            c.sum = sum(r, 0);
        }
        if (r.is("if")) {
            r.take();
            c.iff = test(r, 0);
        }
        if (r.is("unless")) {
            r.take();
            c.unless = test(r, 0);
        }
        return c;
    }

    private Node test(Reader r, int deep) {
        Node left = both(r, deep);
        while (r.is("or")) {
            r.take();
            left = new Node("or", left, both(r, deep), 0);
        }
        return left;
    }

    private Node both(Reader r, int deep) {
        Node left = plain(r, deep);
        while (r.is("and")) {
            r.take();
            left = new Node("and", left, plain(r, deep), 0);
        }
        return left;
    }

    private Node plain(Reader r, int deep) {
        if (r.is("not")) {
            r.take();
            return new Node("not", plain(r, deep), null, 0);
        }
        if (r.is("(")) {
            r.need(deep < 8);
            r.take();
            Node inner = test(r, deep + 1);
            r.take(")");
            return inner;
        }
        if (Arrays.asList("married", "dead", "poor", "holds", "certified").contains(r.now())) {
            r.need(r.parts < 60);
            r.parts++;
            return new Node(r.take(), null, null, 0);
        }
        Node left = sum(r, deep);
        r.need(r.is("<") || r.is(">") || r.is("="));
        String sign = r.take();
        return new Node(sign, left, sum(r, deep), 0);
    }

    private Node sum(Reader r, int deep) {
        Node left = term(r, deep);
        while (r.is("+") || r.is("-")) {
            String sign = r.take();
            left = new Node(sign, left, term(r, deep), 0);
        }
        return left;
    }

    private Node term(Reader r, int deep) {
        Node left = part(r, deep);
        while (r.is("*") || r.is("/")) {
            String sign = r.take();
            left = new Node(sign, left, part(r, deep), 0);
        }
        return left;
    }

    private Node part(Reader r, int deep) {
        if (r.is("[")) {
            r.need(deep < 8);
            r.take();
            Node inner = sum(r, deep + 1);
            r.take("]");
            return inner;
        }
        if (Arrays.asList("age", "children", "value", "years", "relieved").contains(r.now())) {
            r.need(r.parts < 60);
            r.parts++;
            return new Node(r.take(), null, null, 0);
        }
        r.need(r.parts < 60);
        int number = r.number(100000);
        r.parts++;
        return new Node("number", null, null, number);
    }

    // ---- NAMES and REASONS

    private Name name(int m, int which) {
        return s.lines.get(m / 3).names[m % 3 * 2 + which];
    }

    private String folded(int m, int which) {
        String letters = name(m, which).letters;
        StringBuilder out = new StringBuilder();
        int i = 0;
        next:
        while (i < letters.length()) {
            for (String[] pair : spellings.get(s.lines.get(m / 3).hand)) {
                if (letters.startsWith(pair[0], i)) {
                    out.append(pair[1]);
                    i += pair[0].length();
                    continue next;
                }
            }
            out.append(letters.charAt(i++));
        }
        return out.toString();
    }

    private boolean known(int a, int b, int which) {
        return name(a, which) != null && name(b, which) != null;
    }

    private boolean alike(int a, int b, int which) {
        String x = folded(a, which);
        String y = folded(b, which);
        boolean xt = name(a, which).torn;
        boolean yt = name(b, which).torn;
        if (!xt && !yt) {
            return x.equals(y);
        }
        if (xt && yt) {
            return x.startsWith(y) || y.startsWith(x);
        }
        return xt ? y.startsWith(x) : x.startsWith(y);
    }

    private String role(int m) {
        return ROLE_NAMES[s.lines.get(m / 3).book][m % 3];
    }

    private boolean is(int m, String... roles) {
        return Arrays.asList(roles).contains(role(m));
    }

    private Line line(int m) {
        return s.lines.get(m / 3);
    }

    private int reason(int a, int b) {
        if (a / 3 == b / 3) {
            return 1;
        }
        for (int[] row : rows(0)) {
            if (row[0] == a && row[1] == b || row[0] == b && row[1] == a) {
                return 2;
            }
        }
        if (known(a, b, 0) && !alike(a, b, 0)) {
            return 3;
        }
        if (known(a, b, 1) && !alike(a, b, 1) && !is(a, "mother", "bride") && !is(b, "mother", "bride")) {
            return 4;
        }
        if (is(a, "child") && is(b, "child") || is(a, "dead") && is(b, "dead")
                || is(a, "groom", "father") && is(b, "bride", "mother")
                || is(b, "groom", "father") && is(a, "bride", "mother")) {
            return 5;
        }
        if (six(a, b) || six(b, a)) {
            return 6;
        }
        return seven(a, b) || seven(b, a) ? 7 : 0;
    }

    private boolean six(int a, int b) {
        int x = line(a).day;
        int y = line(b).day;
        if (is(a, "child")) {
            if (y < x) {
                return true;
            }
            if (is(b, "groom", "bride", "father", "mother") && y < x + 14 * Y) {
                return true;
            }
            if (is(b, "mother") && y > x + 50 * Y) {
                return true;
            }
        }
        return is(a, "dead") && (is(b, "father") ? y > x + Y : y > x);
    }

    private boolean seven(int a, int b) {
        if (!is(a, "child") || !is(b, "dead") || line(b).number == -1) {
            return false;
        }
        int years = line(b).day / Y - line(a).day / Y;
        return years > line(b).number + terms[4] || years < line(b).number - terms[4];
    }

    private int worth(int a, int b) {
        if (reason(a, b) != 0) {
            return -1;
        }
        int worth = known(a, b, 0) ? terms[0] : 0;
        worth += known(a, b, 1) && alike(a, b, 1) ? terms[1] : 0;
        for (int turn = 0; turn < 2; turn++) {
            int x = turn == 0 ? a : b;
            int y = turn == 0 ? b : a;
            if (is(x, "child") && is(y, "dead") && line(y).number != -1) {
                worth += terms[2];
            }
        }
        boolean kin = false;
        for (int x = a / 3 * 3; x < a / 3 * 3 + 3; x++) {
            for (int y = b / 3 * 3; y < b / 3 * 3 + 3; y++) {
                if (x != a && y != b && mention(x) && mention(y) && known(x, y, 0) && known(x, y, 1)
                        && alike(x, y, 1) && reason(x, y) == 0) {
                    kin = true;
                }
            }
        }
        return worth + (kin ? terms[3] : 0);
    }

    // ---- SOULS

    private final List<Integer> waiting = new ArrayList<>();

    private List<TreeSet<Integer>> souls(int k) {
        List<TreeSet<Integer>> souls = new ArrayList<>();
        waiting.clear();
        for (int m = 0; m < s.lines.size() * 3; m++) {
            if (mention(m) && line(m).known <= k) {
                souls.add(new TreeSet<>(Collections.singleton(m)));
            }
        }
        for (int n = 0; n < rows(1).size(); n++) {
            int[] bond = rows(1).get(n);
            TreeSet<Integer> a = find(souls, bond[0]);
            TreeSet<Integer> b = find(souls, bond[1]);
            if (bond[2] > k || a == null || b == null || a == b) {
                continue;
            }
            boolean may = true;
            for (int x : a) {
                for (int y : b) {
                    may &= reason(x, y) == 0;
                }
            }
            if (may) {
                a.addAll(b);
                souls.remove(b);
            } else {
                waiting.add(n);
            }
        }
        return souls;
    }

    private static TreeSet<Integer> find(List<TreeSet<Integer>> souls, int m) {
        for (TreeSet<Integer> soul : souls) {
            if (soul.contains(m)) {
                return soul;
            }
        }
        return null;
    }

    private TreeSet<Integer> soul(int m, int k) {
        return mention(m) && day(k) ? find(souls(k), m) : null;
    }

    private static int named(TreeSet<Integer> soul) {
        return soul == null ? -1 : soul.first();
    }

    private boolean nameless(int m) {
        return name(m, 0) == null && name(m, 1) == null;
    }

    private boolean has(TreeSet<Integer> soul, int by, String... roles) {
        for (int m : soul) {
            if (is(m, roles) && line(m).day <= by) {
                return true;
            }
        }
        return false;
    }

    private int kin(int m, int k, int what, int i) {
        TreeSet<Integer> soul = soul(m, k);
        if (soul == null) {
            return -1;
        }
        List<Integer> found = new ArrayList<>();
        for (int line = 0; line < s.lines.size(); line++) {
            Line l = s.lines.get(line);
            if (l.known > k) {
                continue;
            }
            int c = line * 3;
            if (l.book == 0 && what < 2 && what >= 0 && soul.contains(c) && !nameless(c + 1 + what)) {
                return named(soul(c + 1 + what, k));
            }
            if (l.book == 0 && what == 2 && (soul.contains(c + 1) || soul.contains(c + 2)) && !nameless(c)) {
                found.add(c);
            }
            if (l.book == 1 && what == 3 && soul.contains(c) && !nameless(c + 1)) {
                found.add(c + 1);
            }
            if (l.book == 1 && what == 3 && soul.contains(c + 1) && !nameless(c)) {
                found.add(c);
            }
        }
        return i >= 0 && i < found.size() ? named(soul(found.get(i), k)) : -1;
    }

    private int[] span(TreeSet<Integer> soul) {
        int b = 0;
        int c = LAST;
        int e = 0;
        int f = LAST;
        for (int m : soul) {
            int d = line(m).day;
            if (is(m, "child")) {
                b = Math.max(b, d);
                c = Math.min(c, d);
            }
            if (is(m, "dead")) {
                e = Math.max(e, d);
                f = Math.min(f, d);
                if (line(m).number != -1) {
                    b = Math.max(b, (d / Y - line(m).number - terms[4]) * Y);
                    c = Math.min(c, (d / Y - line(m).number + terms[4]) * Y + 365);
                }
            }
            c = Math.min(c, is(m, "groom", "bride", "father", "mother") ? d - 14 * Y : d);
            e = Math.max(e, is(m, "father") ? d - Y : d);
            if (is(m, "mother")) {
                b = Math.max(b, d - 50 * Y);
            }
        }
        f = Math.min(f, c + 110 * Y);
        b = Math.max(b, e - 110 * Y);
        int[] span = {b, c, e, f};
        for (int i = 0; i < 4; i++) {
            span[i] = Math.min(LAST, Math.max(0, span[i]));
        }
        return span;
    }

    // ---- JOININGS

    private List<int[]> joinings() {
        List<int[]> all = new ArrayList<>();
        List<TreeSet<Integer>> souls = souls(LAST);
        grow(all, new int[wishes.size()], 0, souls);
        return all;
    }

    private void grow(List<int[]> all, int[] groups, int i, List<TreeSet<Integer>> souls) {
        if (i == groups.length) {
            all.add(groups.clone());
            return;
        }
        int many = 0;
        for (int j = 0; j < i; j++) {
            many = Math.max(many, groups[j] + 1);
        }
        for (int g = 0; g <= many; g++) {
            groups[i] = g;
            boolean fine = true;
            for (int j = 0; j < i; j++) {
                boolean one = find(souls, wishes.get(i)) == find(souls, wishes.get(j));
                fine &= groups[j] == g ? reason(wishes.get(i), wishes.get(j)) == 0 : !one;
            }
            if (fine) {
                grow(all, groups, i + 1, souls);
            }
        }
    }

    private int worthOf(int[] groups) {
        int worth = 0;
        for (int i = 0; i < groups.length; i++) {
            for (int j = 0; j < i; j++) {
                worth += groups[i] == groups[j] ? worth(wishes.get(i), wishes.get(j)) : 0;
            }
        }
        return worth;
    }

    private static int many(int[] groups) {
        int many = 0;
        for (int g : groups) {
            many = Math.max(many, g + 1);
        }
        return many;
    }

    private int[] best() {
        int[] best = null;
        for (int[] groups : joinings()) {
            if (best == null || worthOf(groups) > worthOf(best)
                    || worthOf(groups) == worthOf(best) && many(groups) < many(best)) {
                best = groups;
            }
        }
        return best;
    }

    private int best(int what, int n) {
        if (!in(what, 0, 3) || what == 3 && !in(n, 0, 1000)) {
            return -1;
        }
        int[] best = best();
        if (what == 0) {
            return worthOf(best);
        }
        if (what == 1) {
            return many(best);
        }
        int answer = 0;
        if (what == 2) {
            for (int a : wishes) {
                for (int b : wishes) {
                    answer += a < b && reason(a, b) == 0 ? worth(a, b) : 0;
                }
            }
            return answer;
        }
        for (int[] groups : joinings()) {
            answer += worthOf(groups) >= worthOf(best) - n ? 1 : 0;
        }
        return answer;
    }

    private int join(int k) {
        if (!day(k)) {
            return no(-1);
        }
        int[] groups = best();
        List<TreeSet<Integer>> souls = souls(LAST);
        List<int[]> news = new ArrayList<>();
        for (int i = 0; i < groups.length; i++) {
            for (int j = i - 1; j >= 0; j--) {
                if (groups[j] == groups[i]) {
                    if (find(souls, wishes.get(i)) != find(souls, wishes.get(j))) {
                        news.add(new int[] {wishes.get(j), wishes.get(i), k});
                    }
                    break;
                }
            }
        }
        if (rows(1).size() + news.size() > 200) {
            return no(-5);
        }
        rows(1).addAll(news);
        return yes(news.size());
    }

    // ---- PAGES

    private boolean torn(int book, int day, int k) {
        for (int[] page : rows(2)) {
            if (page[0] == book && page[3] <= k && page[1] <= day && day <= page[2]) {
                return true;
            }
        }
        return false;
    }

    private int fill(int book, int from, int to, int k, int what) {
        if (!in(book, 0, 5) || !day(from, to, k) || to < from || !in(what, 0, 2)) {
            return -1;
        }
        if (what == 2) {
            return guessed(book, from, to, k);
        }
        int least = 0;
        for (TreeSet<Integer> soul : souls(k)) {
            int[] span = span(soul);
            if (book == 0 && !has(soul, LAST, "child") && span[0] >= from && span[1] <= to && span[0] <= span[1]
                    || book == 2 && !has(soul, LAST, "dead") && span[2] >= from && span[3] <= to && span[2] <= span[3]) {
                least++;
            }
        }
        if (what == 0) {
            return least;
        }
        int most = least;
        for (Line first : s.lines) {
            if (first.book != book || first.known > k) {
                continue;
            }
            boolean whole = true;
            for (int[] page : rows(2)) {
                whole &= page[0] != book || page[3] > k || page[2] < first.day || page[1] > first.day + to - from;
            }
            int n = 0;
            for (Line line : s.lines) {
                n += line.book == book && line.known <= k && line.day >= first.day && line.day <= first.day + to - from ? 1 : 0;
            }
            most = whole ? Math.max(most, n) : most;
        }
        return most;
    }

    private int guessed(int book, int from, int to, int k) {
        long days = 0;
        long lines = 0;
        for (int d = Math.max(0, from - 3660); d <= Math.min(LAST, to + 3660); d++) {
            if (d >= from && d <= to) {
                d = to;
                continue;
            }
            if (!torn(book, d, k)) {
                days++;
                for (Line line : s.lines) {
                    lines += line.book == book && line.known <= k && line.day == d ? 1 : 0;
                }
            }
        }
        return days == 0 ? 0 : (int) Math.floorDiv(2 * lines * (to - from + 1) + days, 2 * days);
    }

    // ---- LAWS

    private boolean force(int t, int c, int d, int k) {
        Law law = s.texts.get(t);
        if (law.known > k || law.from > d) {
            return false;
        }
        for (int u = t + 1; u < s.texts.size(); u++) {
            List<Clause> clauses = s.texts.get(u).clauses;
            for (int n = 0; n < clauses.size(); n++) {
                Clause strike = clauses.get(n);
                if (strike.kind.equals("strike") && strike.which == t && strike.number == c && force(u, n, d, k)) {
                    return false;
                }
            }
        }
        return true;
    }

    private long about(TreeSet<Integer> soul, int d, int k, int what) {
        long sum = 0;
        switch (what) {
            case 0:
                return Math.max(0, (d - span(soul)[1]) / Y);
            case 1:
                for (TreeSet<Integer> child : souls(k)) {
                    boolean its = false;
                    for (int m : child) {
                        its |= is(m, "child") && line(m).day <= d && (soul.contains(m + 1) || soul.contains(m + 2));
                    }
                    sum += its && !has(child, d, "dead") ? 1 : 0;
                }
                return sum;
            case 2:
                for (int h = 0; h < rows(6).size(); h++) {
                    sum += holder(h, d, k) == soul.first() ? value(h, d, k) : 0;
                }
                return sum;
            case 3:
                int first = d;
                for (int m : soul) {
                    first = Math.min(first, line(m).day);
                }
                return (d - first) / Y;
            case 4:
                return relief(soul, d - 365, d);
            case 5:
                return has(soul, d, "groom", "bride") ? 1 : 0;
            case 6:
                return has(soul, d, "dead") ? 1 : 0;
            case 7:
                return relief(soul, d - 365, d) > 0 ? 1 : 0;
            case 8:
                return about(soul, d, k, 2) > 0 ? 1 : 0;
            default:
                for (int[] fact : rows(3)) {
                    if (fact[1] == 4 && fact[5] <= k && soul.contains(fact[0]) && fact[3] <= d && d <= fact[4]) {
                        return 1;
                    }
                }
                return 0;
        }
    }

    private int relief(TreeSet<Integer> soul, int from, int to) {
        int pence = 0;
        for (int m : soul) {
            pence += is(m, "relieved") && line(m).day >= from && line(m).day <= to ? line(m).number : 0;
        }
        return pence;
    }

    /** A SUM's or a TEST's (1, 0) answer, null if it is BROKEN. */
    private Long eval(Node node, TreeSet<Integer> soul, int d, int k) {
        List<String> asked = Arrays.asList("age", "children", "value", "years", "relieved", "married", "dead", "poor",
                "holds", "certified");
        if (node.sign.equals("number")) {
            return node.number;
        }
        if (asked.contains(node.sign)) {
            return about(soul, d, k, asked.indexOf(node.sign));
        }
        Long left = eval(node.left, soul, d, k);
        if (left == null) {
            return null;
        }
        if (node.sign.equals("not")) {
            return 1 - left;
        }
        if (node.sign.equals("or") && left == 1 || node.sign.equals("and") && left == 0) {
            return left;
        }
        Long right = eval(node.right, soul, d, k);
        if (right == null) {
            return null;
        }
        BigInteger x = BigInteger.valueOf(left);
        BigInteger y = BigInteger.valueOf(right);
        switch (node.sign) {
            case "or":
            case "and":
                return right;
            case "<":
                return left < right ? 1L : 0L;
            case ">":
                return left > right ? 1L : 0L;
            case "=":
                return left.equals(right) ? 1L : 0L;
            case "+":
                x = x.add(y);
                break;
            case "-":
                x = x.subtract(y);
                break;
            case "*":
                x = x.multiply(y);
                break;
            default:
                if (right == 0) {
                    return null;
                }
                x = x.divide(y);
        }
        return x.abs().compareTo(BigInteger.valueOf(1000000000000L)) > 0 ? null : (Long) x.longValue();
    }

    private boolean holds(int t, int c, TreeSet<Integer> soul, int d, int k) {
        Clause clause = s.texts.get(t).clauses.get(c);
        if (clause.kind.equals("strike") || !force(t, c, d, k)) {
            return false;
        }
        Long iff = clause.iff == null ? (Long) 1L : eval(clause.iff, soul, d, k);
        Long unless = clause.unless == null ? (Long) 0L : eval(clause.unless, soul, d, k);
        return iff != null && iff == 1 && unless != null && unless == 0
                && (clause.sum == null || eval(clause.sum, soul, d, k) != null);
    }

    /** {TEXT, CLAUSE} of a kind that are IN FORCE in order. */
    private List<int[]> inOrder(String kind, int which, int d, int k) {
        List<int[]> all = new ArrayList<>();
        for (int sort = 0; sort < 2; sort++) {
            for (int t = 0; t < s.texts.size(); t++) {
                for (int c = 0; c < s.texts.get(t).clauses.size(); c++) {
                    Clause clause = s.texts.get(t).clauses.get(c);
                    if (s.texts.get(t).sort == sort && clause.kind.equals(kind) && (which < 0 || clause.which == which)
                            && force(t, c, d, k)) {
                        all.add(new int[] {t, c});
                    }
                }
            }
        }
        return all;
    }

    /** {SUM, TEXT * 12 + CLAUSE, QUARRELS}, null if none COUNTS. */
    private long[] counts(String kind, int which, TreeSet<Integer> soul, int d, int k) {
        List<int[]> all = inOrder(kind, which, d, k);
        long[] answer = null;
        for (int n = all.size() - 1; n >= 0; n--) {
            int t = all.get(n)[0];
            int c = all.get(n)[1];
            if (!holds(t, c, soul, d, k)) {
                continue;
            }
            Node sum = s.texts.get(t).clauses.get(c).sum;
            long value = sum == null ? 0 : eval(sum, soul, d, k);
            if (answer == null) {
                answer = new long[] {value, t * 12 + c, 0};
            } else if (value != answer[0]) {
                answer[2]++;
            }
        }
        return answer;
    }

    // ---- BELONGS

    private int by;
    private int lacks;

    private int belongs(TreeSet<Integer> soul, int d, int k, int depth) {
        List<int[]> all = inOrder("belong", -1, d, k);
        int bits = 0;
        for (int[] one : all) {
            if (holds(one[0], one[1], soul, d, k)) {
                int ground = s.texts.get(one[0]).clauses.get(one[1]).which;
                bits |= 1 << ground;
                int parish = parish(ground, soul, d, k, depth);
                if (parish != -1) {
                    by = one[0] * 12 + one[1];
                    lacks = 0;
                    return parish;
                }
            }
        }
        by = -1;
        lacks = bits;
        return -1;
    }

    private int parish(int ground, TreeSet<Integer> soul, int d, int k, int depth) {
        int parish = -1;
        int latest = -1;
        if (ground < 4) {
            for (int[] f : rows(3)) {
                int key = ground == 0 ? 0 : ground == 2 ? f[3] : f[4];
                boolean fits = ground == 0 ? f[3] <= d : ground == 2 ? d - f[3] >= 40 : f[4] - f[3] >= 365 && f[4] <= d;
                if (f[1] == ground && f[5] <= k && soul.contains(f[0]) && fits && key >= latest) {
                    latest = key;
                    parish = f[2];
                }
            }
            return parish == -1 && ground == 0 && has(soul, d, "child") ? 0 : parish;
        }
        if (depth >= 6) {
            return -1;
        }
        int mention = -1;
        for (int m : soul) {
            if (ground == 4 && is(m, "bride") && line(m).day <= d && line(m).day >= latest) {
                latest = line(m).day;
                mention = m;
            }
            if (ground == 5 && is(m, "child")) {
                mention = m;
            }
        }
        if (mention == -1) {
            return -1;
        }
        if (ground == 4) {
            return nameless(mention - 1) ? -1 : belongs(soul(mention - 1, k), d, k, depth + 1);
        }
        for (int role = 1; role <= 2 && parish == -1; role++) {
            if (!nameless(mention + role)) {
                parish = belongs(soul(mention + role, k), line(mention).day, k, depth + 1);
            }
        }
        return parish;
    }

    private int order(int n, int k, int what) {
        if (n < 0 || n >= s.lines.size() || !day(k) || !in(what, 0, 2)) {
            return -1;
        }
        Line line = s.lines.get(n);
        if (line.book != 5 || line.known > k) {
            return -1;
        }
        TreeSet<Integer> soul = soul(n * 3, k);
        boolean good = belongs(soul, line.day, k, 0) == line.number;
        boolean certificate = false;
        for (int[] f : rows(3)) {
            certificate |= f[1] == 4 && f[2] == line.number && f[5] <= k && soul.contains(f[0]) && f[3] <= line.day
                    && line.day <= f[4];
        }
        good &= !certificate || relief(soul, line.day - 365, line.day) > 0;
        if (what == 0) {
            return good ? 1 : 0;
        }
        for (int[] appeal : rows(4)) {
            if (appeal[0] == n && appeal[2] <= k && !good) {
                return what == 1 ? 1 : relief(soul, line.day, appeal[1]);
            }
        }
        return 0;
    }

    // ---- HOLDINGS

    private int whole(int h, int d, int k) {
        int[] row = rows(6).get(h);
        if (row[0] == -1) {
            return latest(5, h, d, k, 0);
        }
        if (row[3] > d || row[4] > k) {
            return 0;
        }
        int left = whole(row[0], d, k);
        for (int g = 0; g < h; g++) {
            left -= taken(g, row[0], left, d, k);
        }
        return taken(h, row[0], left, d, k);
    }

    private int taken(int g, int from, int left, int d, int k) {
        int[] row = rows(6).get(g);
        return row[0] == from && row[3] <= d && row[4] <= k ? left * row[1] / row[2] : 0;
    }

    private int value(int h, int d, int k) {
        int left = whole(h, d, k);
        for (int g = 0; g < rows(6).size(); g++) {
            left -= taken(g, h, left, d, k);
        }
        return left;
    }

    private int latest(int table, int h, int d, int k, int without) {
        int since = -1;
        int answer = without;
        for (int[] row : rows(table)) {
            if (row[0] == h && row[2] <= d && row[3] <= k && row[2] >= since) {
                since = row[2];
                answer = row[1];
            }
        }
        return answer;
    }

    private int holder(int h, int d, int k) {
        int m = latest(7, h, d, k, -99);
        if (m == -99) {
            int parent = rows(6).get(h)[0];
            return parent == -1 ? -1 : holder(parent, d, k);
        }
        return m == -1 ? -1 : named(soul(m, k));
    }

    private int[] owed(int levy, int k) {
        int[] row = rows(8).get(levy);
        int d = row[1] * Y;
        int n = rows(6).size();
        int[] owed = new int[n];
        int[] values = new int[n];
        long all = 0;
        for (int h = 0; h < n; h++) {
            int holder = holder(h, d, k);
            if (holder != -1 && value(h, d, k) > 0 && counts("exempt", row[0], soul(holder, k), d, k) == null) {
                values[h] = value(h, d, k);
            }
            all += values[h];
        }
        if (all == 0) {
            return owed;
        }
        long left = row[2];
        List<Integer> order = new ArrayList<>();
        for (int h = 0; h < n; h++) {
            owed[h] = (int) ((long) row[2] * values[h] / all);
            left -= owed[h];
            if (values[h] > 0) {
                order.add(h);
            }
        }
        long of = all;
        order.sort((a, b) -> {
            int byRest = Long.compare((long) row[2] * values[b] % of, (long) row[2] * values[a] % of);
            return byRest != 0 ? byRest : a - b;
        });
        for (int i = 0; i < left; i++) {
            owed[order.get(i)]++;
        }
        for (int h : order) {
            long[] rate = counts("rate", row[0], soul(holder(h, d, k), k), d, k);
            if (rate != null) {
                owed[h] = (int) Math.min(owed[h], Math.max(0, rate[0]));
            }
        }
        return owed;
    }

    private boolean levy(int levy, int k) {
        return levy >= 0 && levy < rows(8).size() && day(k) && rows(8).get(levy)[3] <= k;
    }

    private int owe(int levy, int h, int k) {
        if (!levy(levy, k) || h != -1 && !house(h)) {
            return -1;
        }
        int[] owed = owed(levy, k);
        return h == -1 ? Arrays.stream(owed).sum() : owed[h];
    }

    private int arrear(int levy, int h, int d, int k) {
        if (!levy(levy, k) || !house(h) || !day(d)) {
            return NOTHING;
        }
        int due = owed(levy, k)[h];
        for (int[] paid : rows(9)) {
            due -= paid[0] == levy && paid[1] == h && paid[3] <= d && paid[4] <= k ? paid[2] : 0;
        }
        return due;
    }

    // ---- OFFICES

    private int turn(int office, int year, int k, int what) {
        if (!in(office, 0, 3) || !in(year, 0, 399) || !day(k) || !in(what, 0, 2)) {
            return -1;
        }
        int n = rows(6).size();
        List<Integer> served = new ArrayList<>();
        int start = 0;
        int passed = 0;
        for (int y = 0; y <= year; y++) {
            List<int[]> all = inOrder("turn", office, y * Y, k);
            int who = -1;
            passed = 0;
            if (!all.isEmpty()) {
                int[] last = all.get(all.size() - 1);
                int spared = s.texts.get(last[0]).clauses.get(last[1]).number;
                for (int i = 0; i < n && who == -1; i++) {
                    int h = (start + i) % n;
                    int holder = holder(h, y * Y, k);
                    boolean lately = served.subList(Math.max(0, y - spared), y).contains(h);
                    if (holder != -1 && !lately && !has(soul(holder, k), y * Y, "dead")
                            && holds(last[0], last[1], soul(holder, k), y * Y, k)) {
                        who = h;
                    } else {
                        passed++;
                    }
                }
            }
            served.add(who);
            start = who == -1 ? start : who + 1;
        }
        if (what == 0) {
            return served.get(year);
        }
        if (what == 1) {
            return passed;
        }
        int most = 0;
        int least = n == 0 ? 0 : 999;
        for (int h = 0; h < n; h++) {
            most = Math.max(most, Collections.frequency(served, h));
            least = Math.min(least, Collections.frequency(served, h));
        }
        return most - least;
    }

    private int closedOn(int office, int year) {
        for (int[] row : rows(11)) {
            if (row[0] == office && row[1] == year) {
                return row[3];
            }
        }
        return Integer.MAX_VALUE;
    }

    private int balance(int office, int year, int k) {
        if (!in(office, 0, 3) || !in(year, 0, 399) || !day(k)) {
            return NOTHING;
        }
        int sum = 0;
        for (int[] row : rows(11)) {
            sum += row[0] == office && row[1] == year - 1 && row[3] <= k ? row[2] : 0;
        }
        for (int[] entry : rows(10)) {
            int own = entry[1];
            while (closedOn(office, own) < entry[3]) {
                own++;
            }
            sum += entry[0] == office && entry[3] <= k && own == year ? entry[2] : 0;
        }
        return sum;
    }

    private int close(int office, int year, int balance, int d) {
        if (!in(office, 0, 3) || !in(year, 0, 399) || !day(d)) {
            return no(-1);
        }
        int last = -1;
        for (int[] row : rows(11)) {
            last = row[0] == office ? row[1] : last;
        }
        if (last != -1 && year != last + 1 || balance(office, year, d) != balance) {
            return no(-3);
        }
        return add(11, 40, 0, office, year, balance, d);
    }

    // ---- the rest

    private int seat(int d, int k, int i) {
        if (!day(d, k)) {
            return -1;
        }
        List<long[]> seats = new ArrayList<>();
        for (int h = 0; h < rows(6).size(); h++) {
            int holder = holder(h, d, k);
            if (holder != -1) {
                long[] sum = counts("seat", 0, soul(holder, k), d, k);
                seats.add(new long[] {sum == null ? Long.MIN_VALUE : sum[0], h});
            }
        }
        seats.sort((a, b) -> a[0] != b[0] ? Long.compare(b[0], a[0]) : Long.compare(a[1], b[1]));
        return i == -1 ? seats.size() : i >= 0 && i < seats.size() ? (int) seats.get(i)[1] : -1;
    }

    private long fee(int n, int k) {
        if (n < 0 || n >= s.lines.size() || !day(k) || s.lines.get(n).known > k) {
            return -1;
        }
        Line line = s.lines.get(n);
        long sum = 0;
        for (int which = 0; which < 3; which++) {
            long[] fee = counts("fee", which, soul(n * 3, k), line.day, k);
            boolean its = which < 2 ? line.book == 2 : line.book == 1;
            sum += fee != null && its ? Math.max(0, fee[0]) : 0;
        }
        return sum;
    }

    private int coin(int h, int year, int k) {
        if (!house(h) || !in(year, 0, 399) || !day(k)) {
            return -1;
        }
        BigInteger top = BigInteger.ZERO;
        BigInteger bottom = BigInteger.ONE;
        for (int crop = 0; crop < 3; crop++) {
            long sum = 0;
            int many = 0;
            for (int y = year - 7; y < year; y++) {
                int price = -1;
                for (int[] row : rows(12)) {
                    price = row[0] == crop && row[1] == y && row[3] <= k ? row[2] : price;
                }
                sum += Math.max(0, price);
                many += price >= 0 ? 1 : 0;
            }
            if (many > 0) {
                BigInteger under = BigInteger.valueOf(10L * many);
                top = top.multiply(under).add(bottom.multiply(BigInteger.valueOf(acres[h][crop] * sum)));
                bottom = bottom.multiply(under);
            }
        }
        return top.divide(bottom).intValueExact();
    }

    /** How many LINES a YEAR has, and both sums. */
    private long[] sums(int year) {
        long[] sums = new long[3];
        for (Line line : s.lines) {
            if (line.day / Y == year) {
                sums[0]++;
                sums[1] += line.number;
                sums[2] += sums[0] * line.number;
            }
        }
        return sums;
    }

    private int found(int year) {
        if (!s.seals.containsKey(year)) {
            return -3;
        }
        long[] sealed = s.seals.get(year);
        long[] now = sums(year);
        if (Arrays.equals(sealed, now)) {
            return -1;
        }
        if (sealed[0] != now[0]) {
            return -2;
        }
        int off = (int) (sealed[1] - now[1]);
        for (int n = 0; n < s.lines.size(); n++) {
            Line line = s.lines.get(n);
            if (line.day / Y == year && off != 0) {
                line.number += off;
                boolean right = Arrays.equals(sealed, sums(year));
                line.number -= off;
                if (right) {
                    return n;
                }
            }
        }
        return -2;
    }

    private int as(int thing, int kind) {
        if (!in(kind, 0, 9)) {
            return -1;
        }
        if (thing < 0 || thing >= rows(13).size()) {
            return -2;
        }
        int[] row = rows(13).get(thing);
        boolean is;
        if (kind <= 5) {
            int book = row[0] == 6 ? s.lines.get(row[1]).book : -1;
            is = book == kind || kind == 3 && book == 4;
        } else {
            is = row[0] == kind;
        }
        return is ? row[1] : -3;
    }

    private int add(int table, int most, int answer, int... row) {
        if (rows(table).size() >= most) {
            return no(-5);
        }
        rows(table).add(row);
        return yes(answer == -1 ? rows(table).size() : answer);
    }

    private boolean fits(int book, int number) {
        switch (book) {
            case 2:
                return in(number, -1, 120);
            case 3:
            case 4:
                return in(number, 0, 100000);
            case 5:
                return in(number, 1, 11);
            default:
                return number == -1;
        }
    }

    // ---- calls

    long ask(String call, int... a) {
        switch (call) {
            case "feed":
                if (tape.size() > 380) {
                    return -1;
                }
                for (int four : a) {
                    for (int shift = 24; shift >= 0; shift -= 8) {
                        tape.add(four >>> shift & 255);
                    }
                }
                return tape.size();
            case "end":
                if (!in(a[0], 0, tape.size())) {
                    return -1;
                }
                tape.subList(a[0], tape.size()).clear();
                return a[0];
            case "fault":
                return fault;
            case "line":
            case "spell":
            case "text":
                return read(call, a);
            case "status":
                return status;
            case "terms":
                for (int i = 0; i < 5; i++) {
                    if (!in(a[i], 0, i == 4 ? 20 : 100)) {
                        return no(-1);
                    }
                }
                terms = a.clone();
                return yes(0);
            default:
                return askSouls(call, a);
        }
    }

    private long read(String call, int[] a) {
        long answer = readTape(call, a);
        tape.clear();
        return answer;
    }

    private long readTape(String call, int[] a) {
        boolean room = true;
        if (call.equals("line")) {
            if (!in(a[0], 0, 5) || !in(a[1], 0, 15) || !day(a[2], a[3]) || !fits(a[0], a[4])) {
                return no(-1);
            }
            room = s.lines.size() < 200;
        } else if (call.equals("spell")) {
            if (!in(a[0], 0, 15)) {
                return no(-1);
            }
        } else {
            if (!in(a[0], 0, 1) || !day(a[1], a[2])) {
                return no(-1);
            }
            room = s.texts.size() < 30;
        }
        if (!room) {
            return no(-5);
        }
        fault = -1;
        try {
            if (call.equals("line")) {
                Line line = readLine(ROLES[a[0]]);
                line.book = a[0];
                line.hand = a[1];
                line.day = a[2];
                line.known = a[3];
                line.number = a[4];
                rows(13).add(new int[] {6, s.lines.size()});
                s.lines.add(line);
                return yes(s.lines.size() - 1);
            }
            if (call.equals("spell")) {
                spellings.set(a[0], readPairs());
                return yes(spellings.get(a[0]).size());
            }
            Law law = readLaw();
            law.sort = a[0];
            law.from = a[1];
            law.known = a[2];
            rows(13).add(new int[] {7, s.texts.size()});
            s.texts.add(law);
            return yes(s.texts.size() - 1);
        } catch (Fault f) {
            fault = f.at;
            return no(-6);
        }
    }

    private long askSouls(String call, int[] a) {
        TreeSet<Integer> soul;
        switch (call) {
            case "of":
                if (!in(a[0], 0, s.lines.size() - 1) || !in(a[1], 0, 5)) {
                    return -2;
                }
                Line line = s.lines.get(a[0]);
                return new int[] {line.book, line.hand, line.day, line.number, line.torn ? 1 : 0, ROLES[line.book]}[a[1]];
            case "name":
                if (!mention(a[0]) || !in(a[1], 0, 1)) {
                    return -1;
                }
                String name = name(a[0], a[1]) == null ? "" : folded(a[0], a[1]);
                return a[2] == -1 ? name.length() : in(a[2], 0, name.length() - 1) ? name.charAt(a[2]) : -1;
            case "piece":
                return piece(a[0], a[1], a[2], a[3]);
            case "reason":
                return mention(a[0]) && mention(a[1]) ? reason(a[0], a[1]) : -1;
            case "worth":
                return mention(a[0]) && mention(a[1]) ? worth(a[0], a[1]) : -1;
            case "apart":
                if (!mention(a[0]) || !mention(a[1])) {
                    return no(-2);
                }
                return a[0] == a[1] ? no(-3) : add(0, 60, 0, a[0], a[1]);
            case "together":
                if (!day(a[2])) {
                    return no(-1);
                }
                if (!mention(a[0]) || !mention(a[1])) {
                    return no(-2);
                }
                if (soul(a[0], LAST).contains(a[1])) {
                    return no(-4);
                }
                return add(1, 200, -1, a[0], a[1], a[2]);
            case "waits":
                if (!day(a[0])) {
                    return -1;
                }
                souls(a[0]);
                return a[1] == -1 ? waiting.size() : in(a[1], 0, waiting.size() - 1) ? waiting.get(a[1]) : -1;
            case "soul":
                return named(soul(a[0], a[1]));
            case "mentions":
                soul = soul(a[0], a[1]);
                if (soul == null || !in(a[2], 0, 1)) {
                    return -1;
                }
                return a[2] == 0 ? soul.size() : in(a[3], 0, soul.size() - 1) ? new ArrayList<>(soul).get(a[3]) : -1;
            case "kin":
                return kin(a[0], a[1], a[2], a[3]);
            case "span":
                soul = soul(a[0], a[1]);
                return soul == null || !in(a[2], 0, 3) ? -1 : span(soul)[a[2]];
            case "wish":
                if (!mention(a[0])) {
                    return no(-2);
                }
                if (wishes.contains(a[0])) {
                    return no(-4);
                }
                if (wishes.size() == 9) {
                    return no(-5);
                }
                wishes.add(a[0]);
                return yes(wishes.size());
            case "clear":
                int were = wishes.size();
                wishes.clear();
                return were;
            case "best":
                return best(a[0], a[1]);
            case "group":
                return in(a[0], 0, wishes.size() - 1) ? best()[a[0]] : -1;
            case "join":
                return join(a[0]);
            default:
                return askLaws(call, a);
        }
    }

    private int piece(int m, int which, int from, int n) {
        if (!in(n, 0, 6)) {
            return -1;
        }
        if (!mention(m) || !in(which, 0, 1) || name(m, which) == null) {
            return -2;
        }
        String letters = name(m, which).letters;
        if (from < 0 || (long) from + n > letters.length()) {
            return -3;
        }
        int answer = 0;
        for (char letter : letters.substring(from, from + n).toCharArray()) {
            answer = answer * 27 + letter - 96;
        }
        return answer;
    }

    private boolean clause(int t, int c) {
        return in(t, 0, s.texts.size() - 1) && in(c, 0, s.texts.get(t).clauses.size() - 1);
    }

    private long askLaws(String call, int[] a) {
        TreeSet<Integer> soul;
        switch (call) {
            case "torn":
                if (!in(a[0], 0, 5) || !day(a[1], a[2], a[3]) || a[2] < a[1]) {
                    return no(-1);
                }
                return add(2, 20, -1, a);
            case "fill":
                return fill(a[0], a[1], a[2], a[3], a[4]);
            case "force":
                return !clause(a[0], a[1]) || !day(a[2], a[3]) ? -1 : force(a[0], a[1], a[2], a[3]) ? 1 : 0;
            case "holds":
                soul = soul(a[2], a[4]);
                return !clause(a[0], a[1]) || soul == null || !day(a[3]) ? -1
                        : holds(a[0], a[1], soul, a[3], a[4]) ? 1 : 0;
            case "counts":
                soul = soul(a[1], a[3]);
                if (soul == null || !day(a[2]) || !in(a[0], 0, 7) || !in(a[4], 0, 2)) {
                    return NO_SUM;
                }
                String kind = a[0] < 3 ? "rate" : a[0] == 3 ? "relief" : a[0] < 7 ? "fee" : "seat";
                long[] sum = counts(kind, a[0] < 3 ? a[0] : a[0] > 3 && a[0] < 7 ? a[0] - 4 : 0, soul, a[2], a[3]);
                return sum == null ? NO_SUM : sum[a[4]];
            case "about":
                soul = soul(a[0], a[2]);
                return soul == null || !day(a[1]) || !in(a[3], 0, 9) ? -1 : about(soul, a[1], a[2], a[3]);
            case "fact":
                if (!in(a[1], 0, 4) || !in(a[2], 0, 11) || !day(a[3], a[4], a[5]) || a[4] < a[3]) {
                    return no(-1);
                }
                if (!mention(a[0])) {
                    return no(-2);
                }
                if (rows(3).size() < 100) {
                    rows(13).add(new int[] {8, rows(3).size()});
                }
                return add(3, 100, -1, a);
            case "belong":
                soul = soul(a[0], a[2]);
                if (soul == null || !day(a[1]) || !in(a[3], 0, 2)) {
                    return -1;
                }
                int parish = belongs(soul, a[1], a[2], 0);
                return a[3] == 0 ? parish : a[3] == 1 ? by : lacks;
            case "order":
                return order(a[0], a[1], a[2]);
            case "appeal":
                if (!day(a[1], a[2])) {
                    return no(-1);
                }
                if (!in(a[0], 0, s.lines.size() - 1) || s.lines.get(a[0]).book != 5) {
                    return no(-2);
                }
                return a[1] < s.lines.get(a[0]).day ? no(-1) : add(4, 40, -1, a);
            default:
                return askHouses(call, a);
        }
    }

    private int addHouse(int... row) {
        if (rows(6).size() < 40) {
            rows(13).add(new int[] {9, rows(6).size()});
        }
        return add(6, 40, rows(6).size(), row);
    }

    private long askHouses(String call, int[] a) {
        switch (call) {
            case "holding":
                return addHouse(-1, 0, 0, 0, 0);
            case "value":
                if (!in(a[1], 0, 10000) || !day(a[2], a[3])) {
                    return no(-1);
                }
                if (!house(a[0])) {
                    return no(-2);
                }
                return rows(6).get(a[0])[0] != -1 ? no(-3) : add(5, 100, -1, a);
            case "split":
                if (!in(a[1], 1, 100) || !in(a[2], 1, 100) || a[1] >= a[2] || !day(a[3], a[4])) {
                    return no(-1);
                }
                return house(a[0]) ? addHouse(a) : no(-2);
            case "hold":
                if (!day(a[2], a[3])) {
                    return no(-1);
                }
                return house(a[0]) && (a[1] == -1 || mention(a[1])) ? add(7, 100, -1, a) : no(-2);
            case "house":
                if (!house(a[0]) || !day(a[1], a[2]) || !in(a[3], 0, 1)) {
                    return -1;
                }
                return a[3] == 0 ? value(a[0], a[1], a[2]) : holder(a[0], a[1], a[2]);
            case "levy":
                if (!in(a[0], 0, 2) || !in(a[1], 0, 399) || !in(a[2], 0, 1000000) || !day(a[3])) {
                    return no(-1);
                }
                return add(8, 40, rows(8).size(), a);
            case "owe":
                return owe(a[0], a[1], a[2]);
            case "pay":
                if (!in(a[2], 1, 1000000) || !day(a[3], a[4])) {
                    return no(-1);
                }
                return in(a[0], 0, rows(8).size() - 1) && house(a[1]) ? add(9, 100, -1, a) : no(-2);
            case "arrear":
                return arrear(a[0], a[1], a[2], a[3]);
            case "turn":
                return turn(a[0], a[1], a[2], a[3]);
            case "entry":
                if (!in(a[0], 0, 3) || !in(a[1], 0, 399) || !in(a[2], -1000000, 1000000) || !day(a[3])) {
                    return no(-1);
                }
                return add(10, 100, -1, a);
            case "close":
                return close(a[0], a[1], a[2], a[3]);
            case "balance":
                return balance(a[0], a[1], a[2]);
            default:
                return askRest(call, a);
        }
    }

    private long askRest(String call, int[] a) {
        TreeSet<Integer> soul;
        switch (call) {
            case "beyond":
                if (!in(a[0], 0, s.lines.size() - 1) || !day(a[1]) || s.lines.get(a[0]).book != 4
                        || s.lines.get(a[0]).known > a[1]) {
                    return -1;
                }
                long[] sum = counts("relief", 0, soul(a[0] * 3, a[1]), s.lines.get(a[0]).day, a[1]);
                return Math.max(0, s.lines.get(a[0]).number - (sum == null ? 0 : Math.max(0, sum[0])));
            case "badge":
                soul = soul(a[0], a[2]);
                if (soul == null || !day(a[1])) {
                    return -1;
                }
                return about(soul, a[1], a[2], 7) == 1 && counts("badge", 0, soul, a[1], a[2]) != null ? 1 : 0;
            case "seat":
                return seat(a[0], a[1], a[2]);
            case "fee":
                return fee(a[0], a[1]);
            case "acres":
                if (!in(a[1], 0, 2) || !in(a[2], 0, 1000)) {
                    return no(-1);
                }
                if (!house(a[0])) {
                    return no(-2);
                }
                acres[a[0]][a[1]] = a[2];
                return yes(0);
            case "price":
                if (!in(a[0], 0, 2) || !in(a[1], 0, 399) || !in(a[2], 0, 10000) || !day(a[3])) {
                    return no(-1);
                }
                return add(12, 100, -1, a);
            case "coin":
                return coin(a[0], a[1], a[2]);
            case "seal":
                if (!in(a[0], 0, 399)) {
                    return no(-1);
                }
                s.seals.put(a[0], sums(a[0]));
                return yes((int) sums(a[0])[0]);
            case "alter":
                if (!in(a[1], 1, 255)) {
                    return no(-1);
                }
                if (!in(a[0], 0, s.lines.size() - 1)) {
                    return no(-2);
                }
                s.lines.get(a[0]).number ^= a[1];
                return yes(s.lines.get(a[0]).number);
            case "found":
                return found(a[0]);
            case "image":
                if (!in(a[0], 0, 3)) {
                    return no(-1);
                }
                images[a[0]] = s.copy();
                return yes(0);
            case "back":
                if (!in(a[0], 0, 3)) {
                    return no(-1);
                }
                if (images[a[0]] == null) {
                    return no(-2);
                }
                s = images[a[0]].copy();
                tape.clear();
                wishes.clear();
                return yes(0);
            case "as":
                return as(a[0], a[1]);
            case "count":
                int[] all = {s.lines.size(), s.texts.size(), rows(3).size(), rows(6).size(), rows(13).size(),
                    rows(8).size(), rows(1).size(), wishes.size(), tape.size(), rows(4).size(), rows(9).size(),
                    rows(10).size()};
                return in(a[0], 0, 11) ? all[a[0]] : -1;
            default:
                throw new IllegalArgumentException(call);
        }
    }
}

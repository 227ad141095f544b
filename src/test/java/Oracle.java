import java.util.ArrayDeque;
import java.util.ArrayList;
import java.util.Arrays;
import java.util.Deque;
import java.util.HashMap;
import java.util.HashSet;
import java.util.List;
import java.util.Map;
import java.util.Set;
import java.util.function.ToIntFunction;

/** The document once more, written with the library and in other ways than the class, to compare the two. */
final class Oracle {
    record Guest(int patience, int group) { }

    record Card(int kind, int number, int minutes, int whose) { }

    record State(List<Guest> guests, List<Card> cards, int mood, int till, int rule) { }

    record Told(List<String> bears, List<String> takes, List<String> first) { }

    record Outcome(int taken, int left, int sung, int mood, int minute, Set<Integer> there,
                   List<Integer> calls, Map<Integer, Integer> begins) {
        int answer(int what) {
            int bits = 0;
            for (int p : there) {
                bits |= 1 << p;
            }
            return new int[] {taken, left, sung, mood, minute, bits, digits(calls)}[what];
        }
    }

    private static final Map<String, Integer> UNDER = Map.of("10", 1, "20", 1, "31", 1, "30", 1, "42", 1, "40", 1,
        "52", 1, "50", 1);
    private static final List<String> NAMES = List.of("minute", "waited", "sung", "sort", "bar", "mood");
    private static final List<String> KEYS = List.of("bears", "takes", "first", "or", "and", "not");
    private static final int NO_SUCH = -100000;

    private List<Guest> guests = new ArrayList<>();
    private List<Card> cards = new ArrayList<>();
    private int mood = 0;
    private int till = 60;
    private int rule = 0;
    private State image = null;
    private final List<Told> texts = new ArrayList<>();
    private final StringBuilder tape = new StringBuilder();
    private final Object[] sheets = new Object[4];

    Oracle() {
        tape.append("bears 10 ; takes 2 + mood ; first waited - sung * 9 ;");
        text();
    }

    // ---- people, slips

    int come(int patience, int group) {
        if (patience < 0 || patience > 99 || group < 0 || group > 7) {
            return -2;
        }
        if (guests.size() == 8) {
            return -4;
        }
        guests.add(new Guest(patience, group));
        return guests.size() - 1;
    }

    int slip(int kind, int what, int whose) {
        if (kind < 0 || kind > 5 || what < 10 || what > 99 || whose < 0 || whose >= guests.size()) {
            return -2;
        }
        if (cards.size() == 7) {
            return -4;
        }
        cards.add(new Card(kind, what % 10, what / 10, whose));
        return cards.size() - 1;
    }

    int set(int what, int of, int v) {
        int was;
        if (what == 0 || what == 1) {
            if (of < 0 || of >= guests.size() || v < 0 || v > (what == 0 ? 99 : 7)) {
                return NO_SUCH;
            }
            Guest g = guests.get(of);
            was = what == 0 ? g.patience() : g.group();
            guests.set(of, what == 0 ? new Guest(v, g.group()) : new Guest(g.patience(), v));
            return was;
        }
        if (what >= 2 && what <= 4) {
            if (of < 0 || of >= cards.size() || v < (what == 3 ? 1 : 0)
                    || v > (what == 4 ? guests.size() - 1 : 9)) {
                return NO_SUCH;
            }
            Card c = cards.get(of);
            was = what == 2 ? c.number() : what == 3 ? c.minutes() : c.whose();
            cards.set(of, new Card(c.kind(), what == 2 ? v : c.number(), what == 3 ? v : c.minutes(),
                what == 4 ? v : c.whose()));
            return was;
        }
        if (what == 5 && Math.abs((long) v) <= 99) {
            was = mood;
            mood = v;
            return was;
        }
        if (what == 6 && v >= 1 && v <= 99) {
            was = till;
            till = v;
            return was;
        }
        return NO_SUCH;
    }

    int told(int of, int what) {
        if (of < 0 || what < 0 || what > 5 || of >= (what < 2 ? guests.size() : cards.size())) {
            return -2;
        }
        if (what < 2) {
            return what == 0 ? guests.get(of).patience() : guests.get(of).group();
        }
        Card c = cards.get(of);
        return List.of(c.number(), c.minutes(), c.whose(), c.kind()).get(what - 2);
    }

    // ---- texts

    int feed(int letter) {
        if (letter < 0 || letter > 255) {
            return -2;
        }
        if (tape.length() == 160) {
            return -4;
        }
        tape.append((char) letter);
        return tape.length();
    }

    int text() {
        if (texts.size() == 6) {
            return -4;
        }
        String all = tape.toString();
        tape.setLength(0);
        List<String> tokens = new ArrayList<>();
        int fault = faultOf(all, tokens);
        if (fault >= 0) {
            return -100 - fault;
        }
        int takes = tokens.indexOf("takes");
        int first = tokens.indexOf("first");
        texts.add(new Told(tokens.subList(1, takes - 1), tokens.subList(takes + 1, first - 1),
            tokens.subList(first + 1, tokens.size() - 1)));
        return texts.size() - 1;
    }

    /** A list of what is open is kept by hand here, without recursion. */
    private static int faultOf(String all, List<String> tokens) {
        int at = 0;
        int part = 0;
        boolean key = true;
        boolean operand = true;
        boolean mayNot = true;
        boolean compared = false;
        Deque<String> open = new ArrayDeque<>();
        Deque<Boolean> comparedOutside = new ArrayDeque<>();
        while (true) {
            while (at < all.length() && (all.charAt(at) == ' ' || all.charAt(at) == '\n')) {
                at++;
            }
            if (at == all.length()) {
                return part == 3 ? -1 : at;
            }
            String token = tokenAt(all, at);
            if (token.isEmpty() || part == 3) {
                return at;
            }
            boolean number = Character.isDigit(token.charAt(0));
            if (number && token.length() > 4) {
                return at;
            }
            if (key) {
                if (!token.equals(KEYS.get(part))) {
                    return at;
                }
                key = false;
                operand = true;
                mayNot = true;
                compared = false;
            } else if (operand) {
                if (number || NAMES.contains(token)) {
                    operand = false;
                    while (!open.isEmpty() && open.peek().equals("-")) {
                        open.pop();
                    }
                } else if (token.equals("-") || token.equals("(") || token.equals("not") && mayNot) {
                    if (open.size() == 5) {
                        return at;
                    }
                    open.push(token);
                    if (token.equals("(")) {
                        comparedOutside.push(compared);
                        compared = false;
                    }
                    mayNot = !token.equals("-");
                } else {
                    return at;
                }
            } else if (token.equals("+") || token.equals("-") || token.equals("*")) {
                operand = true;
                mayNot = false;
            } else if ((token.equals("<") || token.equals("=")) && !compared) {
                operand = true;
                mayNot = false;
                compared = true;
            } else if (token.equals("or") || token.equals("and")) {
                closeNots(open);
                operand = true;
                mayNot = true;
                compared = false;
            } else if (token.equals(")")) {
                closeNots(open);
                if (open.isEmpty()) {
                    return at;
                }
                open.pop();
                compared = comparedOutside.pop();
                while (!open.isEmpty() && open.peek().equals("-")) {
                    open.pop();
                }
            } else if (token.equals(";")) {
                closeNots(open);
                if (!open.isEmpty()) {
                    return at;
                }
                part++;
                key = true;
            } else {
                return at;
            }
            tokens.add(token);
            at += token.length();
        }
    }

    private static void closeNots(Deque<String> open) {
        while (!open.isEmpty() && open.peek().equals("not")) {
            open.pop();
        }
    }

    private static String tokenAt(String all, int at) {
        char c = all.charAt(at);
        if ("();+-*<=".indexOf(c) >= 0) {
            return String.valueOf(c);
        }
        int to = at;
        if (c >= 'a' && c <= 'z') {
            while (to < all.length() && all.charAt(to) >= 'a' && all.charAt(to) <= 'z') {
                to++;
            }
            String word = all.substring(at, to);
            return KEYS.contains(word) || NAMES.contains(word) ? word : "";
        }
        while (to < all.length() && all.charAt(to) >= '0' && all.charAt(to) <= '9') {
            to++;
        }
        return all.substring(at, to);
    }

    /** Splits at the sign that binds least, from the right. */
    private static int worth(List<String> e, Map<String, Integer> names) {
        int at = lastOutside(e, Set.of("or"));
        if (at >= 0) {
            boolean a = worth(e.subList(0, at), names) != 0;
            boolean b = worth(e.subList(at + 1, e.size()), names) != 0;
            return a || b ? 1 : 0;
        }
        at = lastOutside(e, Set.of("and"));
        if (at >= 0) {
            boolean a = worth(e.subList(0, at), names) != 0;
            boolean b = worth(e.subList(at + 1, e.size()), names) != 0;
            return a && b ? 1 : 0;
        }
        if (e.get(0).equals("not")) {
            return worth(e.subList(1, e.size()), names) == 0 ? 1 : 0;
        }
        for (Set<String> signs : List.of(Set.of("<", "="), Set.of("+", "-"), Set.of("*"))) {
            at = lastOutside(e, signs);
            if (at >= 0) {
                int a = worth(e.subList(0, at), names);
                int b = worth(e.subList(at + 1, e.size()), names);
                switch (e.get(at)) {
                    case "<": return a < b ? 1 : 0;
                    case "=": return a == b ? 1 : 0;
                    case "+": return a + b;
                    case "-": return a - b;
                    default: return a * b;
                }
            }
        }
        if (e.get(0).equals("-")) {
            return -worth(e.subList(1, e.size()), names);
        }
        if (e.get(0).equals("(")) {
            return worth(e.subList(1, e.size() - 1), names);
        }
        return names.containsKey(e.get(0)) ? names.get(e.get(0)) : Integer.parseInt(e.get(0));
    }

    private static int lastOutside(List<String> e, Set<String> signs) {
        int depth = 0;
        for (int i = e.size() - 1; i > 0; i--) {
            String token = e.get(i);
            depth += token.equals(")") ? 1 : token.equals("(") ? -1 : 0;
            String ahead = e.get(i - 1);
            boolean joins = ahead.equals(")") || NAMES.contains(ahead) || Character.isDigit(ahead.charAt(0));
            if (depth == 0 && joins && signs.contains(token)) {
                return i;
            }
        }
        return -1;
    }

    int force(int text) {
        if (text < 0 || text >= texts.size()) {
            return -2;
        }
        int was = rule;
        rule = text;
        return was;
    }

    // ---- evenings

    private final class Night {
        final Told by;
        int minute = 0;
        int feeling = mood;
        int taken = 0;
        final Set<Integer> there = new HashSet<>();
        final List<Integer> calls = new ArrayList<>();
        final Map<Integer, Integer> begins = new HashMap<>();
        final List<int[]> sangAt = new ArrayList<>();

        Night(Told by) {
            this.by = by;
            for (int p = 0; p < guests.size(); p++) {
                there.add(p);
            }
        }

        int waited(int group) {
            int since = 0;
            for (int[] sang : sangAt) {
                since = sang[0] == group ? sang[1] : since;
            }
            return minute - since;
        }

        int sungBy(int group) {
            return (int) sangAt.stream().filter(sang -> sang[0] == group).count();
        }

        Map<String, Integer> names(int waited, int sung, int sort) {
            return Map.of("minute", minute, "mood", feeling, "bar", taken, "waited", waited, "sung", sung, "sort", sort);
        }

        boolean can(int s) {
            return there.contains(cards.get(s).whose()) && minute + cards.get(s).minutes() <= till;
        }

        void call(int s) {
            calls.add(s);
            if (!can(s)) {
                return;
            }
            Card c = cards.get(s);
            int song = 1;
            int along = song + c.number();
            int slow = song - c.number();
            int[] moves = {song, slow, along, feeling < 0 ? 0 : slow, feeling < 0 ? along * 2 : along, along / 2};
            int n = there.size();
            int[] thirst = {n, n / 2, n, n / 2 + c.number(), n + 1, n + 3};
            begins.put(s, minute);
            minute += c.minutes();
            feeling = bounded(feeling + moves[c.kind()], -99, 99);
            sangAt.add(new int[] {guests.get(c.whose()).group(), minute});
            taken += thirst[c.kind()] * bounded(worth(by.takes(), names(0, 0, c.kind())), 0, 99);
            there.removeIf(p -> {
                Guest g = guests.get(p);
                int bears = worth(by.bears(), names(waited(g.group()), sungBy(g.group()), 0));
                return waited(g.group()) > g.patience() + bounded(bears, -99, 99);
            });
        }

        void byDesk(List<Integer> box) {
            List<Integer> rest = new ArrayList<>(box);
            while (true) {
                Integer next = null;
                int most = 0;
                for (int s : rest) {
                    int group = guests.get(cards.get(s).whose()).group();
                    if (!can(s)) {
                        continue;
                    }
                    int first = worth(by.first(), names(waited(group), sungBy(group), cards.get(s).kind()));
                    if (next == null || first > most) {
                        next = s;
                        most = first;
                    }
                }
                if (next == null) {
                    return;
                }
                rest.remove(next);
                call(next);
            }
        }

        Outcome outcome() {
            return new Outcome(taken, guests.size() - there.size(), begins.size(), feeling, minute, there, calls, begins);
        }
    }

    private static int bounded(int v, int least, int most) {
        return v < least ? least : v > most ? most : v;
    }

    private static int digits(List<Integer> calls) {
        StringBuilder all = new StringBuilder("0");
        for (int s : calls) {
            all.append(s + 1);
        }
        return Integer.parseInt(all.toString());
    }

    private List<Integer> box() {
        List<Integer> all = new ArrayList<>();
        for (int s = 0; s < cards.size(); s++) {
            all.add(s);
        }
        return all;
    }

    private List<Integer> without(int s) {
        List<Integer> all = box();
        all.remove(Integer.valueOf(s));
        return all;
    }

    private Outcome of(List<Integer> row) {
        Night night = new Night(texts.get(rule));
        row.forEach(night::call);
        return night.outcome();
    }

    private Outcome deskOf(Told by, List<Integer> box) {
        Night night = new Night(by);
        night.byDesk(box);
        return night.outcome();
    }

    private Outcome theDesk() {
        return deskOf(texts.get(rule), box());
    }

    private List<Integer> rowOf(int row) {
        if (row < 0) {
            return null;
        }
        List<Integer> calls = new ArrayList<>();
        for (char c : (row == 0 ? "" : String.valueOf(row)).toCharArray()) {
            int s = c - '1';
            if (s < 0 || s >= cards.size() || calls.contains(s)) {
                return null;
            }
            calls.add(s);
        }
        return calls;
    }

    int evening(int row, int what) {
        List<Integer> calls = rowOf(row);
        return calls == null || what < 0 || what > 5 ? NO_SUCH : of(calls).answer(what);
    }

    int best(int sort, int what) {
        if (sort < 0 || sort > 1 || what < 0 || what > 3) {
            return -2;
        }
        List<List<Integer>> rows = new ArrayList<>();
        allRows(new ArrayList<>(), rows);
        rows.sort(Oracle::ahead);
        ToIntFunction<Outcome> good = sort == 0 ? Outcome::taken : o -> o.sung() - 100 * o.left();
        Outcome found = null;
        for (List<Integer> row : rows) {
            Outcome o = of(row);
            if (found == null || good.applyAsInt(o) > good.applyAsInt(found)) {
                found = o;
            }
        }
        return what == 3 ? found.answer(6) : found.answer(what);
    }

    private void allRows(List<Integer> row, List<List<Integer>> into) {
        into.add(new ArrayList<>(row));
        for (int s = cards.size() - 1; s >= 0; s--) {
            if (!row.contains(s)) {
                row.add(s);
                allRows(row, into);
                row.remove(row.size() - 1);
            }
        }
    }

    private static int ahead(List<Integer> a, List<Integer> b) {
        for (int i = 0; i < a.size() && i < b.size(); i++) {
            if (!a.get(i).equals(b.get(i))) {
                return a.get(i) - b.get(i);
            }
        }
        return a.size() - b.size();
    }

    int desk(int what) {
        return what < 0 || what > 6 ? NO_SUCH : theDesk().answer(what);
    }

    int hold(int row) {
        List<Integer> calls = rowOf(row);
        if (calls == null) {
            return NO_SUCH;
        }
        Outcome o = of(calls);
        mood = o.mood();
        return o.taken();
    }

    private boolean isCard(int s) {
        return s >= 0 && s < cards.size();
    }

    int wait(int s) {
        return isCard(s) ? theDesk().begins().getOrDefault(s, -1) : -2;
    }

    int refuse(int what) {
        if (what < 0 || what > 1) {
            return -2;
        }
        int[] all = new int[cards.size()];
        for (int s : box()) {
            all[s] = deskOf(texts.get(rule), without(s)).taken();
        }
        int now = theDesk().taken();
        int most = Arrays.stream(all).max().orElse(now);
        if (most <= now) {
            return what == 0 ? -1 : now;
        }
        for (int s : box()) {
            if (all[s] == most) {
                return what == 0 ? s : most;
            }
        }
        return Integer.MIN_VALUE;
    }

    int coin(int s) {
        if (!isCard(s)) {
            return NO_SUCH;
        }
        Night night = new Night(texts.get(rule));
        night.call(s);
        night.byDesk(without(s));
        return theDesk().taken() - night.outcome().taken();
    }

    int harm(int s) {
        return isCard(s) ? theDesk().left() - deskOf(texts.get(rule), without(s)).left() : NO_SUCH;
    }

    private static List<Integer> numbers(Object sheet) {
        List<Integer> all = new ArrayList<>();
        for (int i = 0; i < java.lang.reflect.Array.getLength(sheet); i++) {
            all.add(((Number) java.lang.reflect.Array.get(sheet, i)).intValue());
        }
        return all;
    }

    private int judgedBy(Object sheet, Told by) {
        List<Integer> told = numbers(sheet);
        List<Integer> calls = deskOf(by, box()).calls();
        for (int i = 0; i < told.size(); i++) {
            if (i == calls.size() || !told.get(i).equals(calls.get(i))) {
                return i;
            }
        }
        return -1;
    }

    int judge(int sheet) {
        if (sheet < 0 || sheet > 3) {
            return -2;
        }
        return sheets[sheet] == null ? -11 : judgedBy(sheets[sheet], texts.get(rule));
    }

    int which(int sheet) {
        if (sheet < 0 || sheet > 3) {
            return -2;
        }
        if (sheets[sheet] == null) {
            return -11;
        }
        int bits = 0;
        for (int t = texts.size() - 1; t >= 0; t--) {
            bits = bits * 2 + (judgedBy(sheets[sheet], texts.get(t)) == -1 ? 1 : 0);
        }
        return bits;
    }

    int behind() {
        Set<Integer> begun = theDesk().begins().keySet();
        int bits = 0;
        for (int p = 0; p < guests.size(); p++) {
            int who = p;
            boolean any = cards.stream().anyMatch(c -> c.whose() == who);
            boolean sang = begun.stream().anyMatch(s -> cards.get(s).whose() == who);
            bits += any && !sang ? 1 << p : 0;
        }
        return bits;
    }

    private Outcome drawnBy(int seed) {
        Night night = new Night(texts.get(rule));
        List<Integer> rest = box();
        int z = seed;
        while (!rest.isEmpty()) {
            z = z * 1103515245 + 12345;
            night.call(rest.remove((z >>> 9) % rest.size()));
        }
        return night.outcome();
    }

    int drawn(int seed) {
        return drawnBy(seed).taken();
    }

    long chance(int seed, int n, int part) {
        if (n < 1 || n > 20 || part < 0 || part > 1) {
            return -4611686018427387904L;
        }
        int above = 0;
        for (int i = 0; i < n; i++) {
            above += drawnBy(seed + i).left() == 0 ? 1 : 0;
        }
        int d = java.math.BigInteger.valueOf(above).gcd(java.math.BigInteger.valueOf(n)).intValue();
        return part == 0 ? above / d : n / d;
    }

    int image() {
        image = new State(List.copyOf(guests), List.copyOf(cards), mood, till, rule);
        return cards.size();
    }

    int back() {
        if (image == null) {
            return -3;
        }
        guests = new ArrayList<>(image.guests());
        cards = new ArrayList<>(image.cards());
        mood = image.mood();
        till = image.till();
        rule = image.rule();
        return cards.size();
    }

    int count(int what) {
        if (what < 0 || what > 6) {
            return -2;
        }
        return new int[] {guests.size(), cards.size(), mood + 99, till, texts.size(), tape.length(), rule}[what];
    }

    // ---- the host: real arrays, and what the machine throws for them

    int sheet(int sheet, int sort, int n) {
        if (sheet < 0 || sheet > 3 || sort < -1 || sort > 2 || sort >= 0 && n > 40) {
            return -2;
        }
        try {
            sheets[sheet] = sort < 0 ? null : sort == 0 ? new byte[n] : sort == 1 ? new short[n] : (Object) new int[n];
            return 1;
        } catch (NegativeArraySizeException e) {
            return -14;
        }
    }

    int cell(int sheet, int i, int v) {
        if (sheet < 0 || sheet > 3) {
            return -2;
        }
        try {
            if (sheets[sheet] instanceof byte[] bytes) {
                bytes[i] = (byte) v;
            } else if (sheets[sheet] instanceof short[] shorts) {
                shorts[i] = (short) v;
            } else {
                ((int[]) sheets[sheet])[i] = v;
            }
            return 1;
        } catch (NullPointerException e) {
            return -11;
        } catch (ArrayIndexOutOfBoundsException e) {
            return -12;
        }
    }

    int copy(int sheet, int i, int other, int j, int n) {
        if (sheet < 0 || sheet > 3 || other < 0 || other > 3) {
            return -2;
        }
        try {
            System.arraycopy(sheets[sheet], i, sheets[other], j, n);
            return n;
        } catch (NullPointerException e) {
            return -11;
        } catch (ArrayStoreException e) {
            return -13;
        } catch (IndexOutOfBoundsException e) {
            return -12;
        }
    }

    int slips(int sheet, int sort, int from, int n) {
        if (sheet < 0 || sheet > 3 || sort < 0 || sort > 2 || n < 0 || n > 7) {
            return -2;
        }
        try {
            Class<?> wanted = sort == 0 ? byte[].class : sort == 1 ? short[].class : int[].class;
            List<Integer> all = numbers(wanted.cast(sheets[sheet]));
            int came = 0;
            for (int k = 0; k < n; k++) {
                int at = from + 3 * k;
                came += slip(all.get(at), all.get(at + 1), all.get(at + 2)) >= 0 ? 1 : 0;
            }
            return came;
        } catch (ClassCastException e) {
            return -13;
        } catch (NullPointerException e) {
            return -11;
        } catch (IndexOutOfBoundsException e) {
            return -12;
        }
    }

    int taken(int s, int k) {
        if (k < 0 || k > 5) {
            return -2;
        }
        if (!isCard(s)) {
            return -11;
        }
        Card c = cards.get(s);
        return c.kind() == k || UNDER.containsKey("" + c.kind() + k) ? c.number() : -13;
    }
}

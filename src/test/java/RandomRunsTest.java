import java.util.Random;

/** Runs of drawn calls on the class and on the Oracle: both must answer alike. */
public final class RandomRunsTest {
    private static final Due DUE = new Due();
    private static final String[] WORDS = {"minute", "waited", "sung", "sort", "bar", "mood"};
    private static final String[] STRAY = {"(", ")", ";", "+", "-", "*", "<", "=", "or", "and", "not", "bears", "takes",
        "first", "12345", "7", "mood", "moody", "A", "\t", "\n", " ", ">", "\u00e9", "\u0000", "9999", "0000"};

    private final Random random;
    private final WhoSingsNext x = new WhoSingsNext();
    private final Oracle o = new Oracle();
    private final String run;
    private int calls;
    private int wides;

    private RandomRunsTest(long seed) {
        random = new Random(seed);
        run = "run " + seed + ": ";
    }

    public static void main(String[] args) {
        int runs = args.length > 0 ? Integer.parseInt(args[0]) : 300;
        for (int i = 0; i < runs; i++) {
            new RandomRunsTest(i).go();
        }
        DUE.end("RandomRunsTest");
    }

    private void go() {
        int guests = random.nextInt(9);
        for (int i = 0; i < guests; i++) {
            come(random.nextInt(random.nextBoolean() ? 100 : 12), random.nextInt(random.nextBoolean() ? 8 : 3));
        }
        int slips = random.nextInt(7) + random.nextInt(2);
        for (int i = 0; i < slips; i++) {
            slip(random.nextInt(6), 10 + random.nextInt(90), random.nextInt(Math.max(1, guests)));
        }
        while (calls < 500) {
            step();
        }
    }

    private void due(String call, long got, long want) {
        calls++;
        DUE.due(run + "call " + calls + ": " + call, got, want);
    }

    private void step() {
        int pick = random.nextInt(100);
        if (pick < 8) {
            change();
        } else if (pick < 12 && calls < 380) {
            write();
        } else if (pick < 50) {
            ask();
        } else if (pick < 70) {
            host();
        } else if (pick < 74) {
            keep();
        } else {
            askMore();
        }
    }

    /** A number that is mostly one such, and at times is anything. */
    private int near(int least, int most) {
        int pick = random.nextInt(40);
        if (pick == 0) {
            return least - 1;
        }
        if (pick == 1) {
            return most + 1;
        }
        if (pick == 2) {
            return random.nextInt();
        }
        if (pick == 3) {
            return random.nextBoolean() ? Integer.MAX_VALUE : Integer.MIN_VALUE;
        }
        return least + random.nextInt(most - least + 1);
    }

    private int nearSlip() {
        return near(0, Math.max(0, o.count(1) - 1));
    }

    private int nearPerson() {
        return near(0, Math.max(0, o.count(0) - 1));
    }

    private void come(int patience, int group) {
        due("come(" + patience + ", " + group + ")", x.come(patience, group), o.come(patience, group));
    }

    private void slip(int kind, int what, int whose) {
        due("slip(" + kind + ", " + what + ", " + whose + ")", x.slip(kind, what, whose), o.slip(kind, what, whose));
    }

    private void set(int what, int of, int v) {
        due("set(" + what + ", " + of + ", " + v + ")", x.set(what, of, v), o.set(what, of, v));
    }

    private void change() {
        switch (random.nextInt(4)) {
            case 0: come(near(0, 99), near(0, 7)); break;
            case 1: slip(near(0, 5), near(10, 99), nearPerson()); break;
            default: changeOne(); break;
        }
    }

    private void changeOne() {
        switch (near(0, 6)) {
            case 0: set(0, nearPerson(), near(0, random.nextBoolean() ? 20 : 99)); break;
            case 1: set(1, nearPerson(), near(0, 7)); break;
            case 2: set(2, nearSlip(), near(0, 9)); break;
            case 3: set(3, nearSlip(), near(1, 9)); break;
            case 4: set(4, nearSlip(), nearPerson()); break;
            case 5: set(5, random.nextInt(), near(-99, 99)); break;
            case 6: set(6, random.nextInt(), near(1, random.nextBoolean() ? 30 : 99)); break;
            default: set(near(-1, 8), nearSlip(), near(0, 9)); break;
        }
    }

    private void write() {
        StringBuilder text = new StringBuilder();
        text.append("bears ").append(e(4)).append(";takes ").append(e(4)).append(";\nfirst ").append(e(5)).append(" ; ");
        if (random.nextInt(3) == 0) {
            int at = random.nextInt(text.length() + 1);
            text.insert(at, STRAY[random.nextInt(STRAY.length)]);
        }
        if (random.nextInt(6) == 0) {
            int at = random.nextInt(text.length());
            text.delete(at, Math.min(text.length(), at + 1 + random.nextInt(4)));
        }
        if (text.length() > 100 && random.nextInt(8) != 0) {
            return;
        }
        for (int i = 0; i < text.length(); i++) {
            int letter = text.charAt(i);
            due("feed(" + letter + ")", x.feed(letter), o.feed(letter));
        }
        due("text() of " + text, x.text(), o.text());
        force(near(0, o.count(4) - 1));
    }

    private void force(int text) {
        due("force(" + text + ")", x.force(text), o.force(text));
    }

    private String e(int depth) {
        int pick = random.nextInt(depth <= 0 ? 2 : 13);
        String gap = random.nextInt(3) == 0 ? " " : "";
        switch (pick) {
            case 0: return gap + random.nextInt(random.nextBoolean() ? 30 : 10000);
            case 1: return " " + WORDS[random.nextInt(WORDS.length)] + gap;
            case 2: return "-" + gap + e(depth - 1);
            case 3: return "(" + e(depth - 1) + ")" + gap;
            case 4: return " not " + e(depth - 1);
            case 5: return e(depth - 1) + " or " + e(depth - 2);
            case 6: return e(depth - 1) + " and " + e(depth - 2);
            case 7: return e(depth - 1) + "<" + e(depth - 2);
            case 8: return e(depth - 1) + "=" + e(depth - 2);
            case 9: return e(depth - 1) + "-" + e(depth - 2);
            case 10: return e(depth - 1) + "*" + e(depth - 2);
            default: return e(depth - 2) + "+" + e(depth - 1);
        }
    }

    private int row() {
        int slips = o.count(1);
        int row = 0;
        for (int i = 0; i < slips; i++) {
            int digit = 1 + random.nextInt(slips);
            if (String.valueOf(row).indexOf('0' + digit) < 0) {
                row = row * 10 + digit;
            }
        }
        if (random.nextInt(12) == 0) {
            row = row / 10 * 100 + row % 10;
        }
        return random.nextInt(12) == 0 ? near(0, 9999999) : row;
    }

    private void ask() {
        int row = row();
        int what = near(0, 5);
        int part = near(0, 6);
        due("evening(" + row + ", " + what + ")", x.evening(row, what), o.evening(row, what));
        due("desk(" + part + ")", x.desk(part), o.desk(part));
        if (random.nextInt(20) == 0) {
            due("hold(" + row + ")", x.hold(row), o.hold(row));
            due("count(2)", x.count(2), o.count(2));
        }
        // The Oracle takes long over seven slips.
        if (random.nextInt(o.count(1) > 5 ? 60 : 12) == 0 && wides < 8) {
            wides += o.count(1) > 5 ? 1 : 0;
            int sort = near(0, 1);
            for (int k = 0; k < (o.count(1) > 5 ? 1 : 4); k++) {
                int answer = near(0, 3);
                due("best(" + sort + ", " + answer + ")", x.best(sort, answer), o.best(sort, answer));
            }
        }
    }

    private void askMore() {
        int s = nearSlip();
        int what = near(0, 1);
        int seed = random.nextInt();
        int n = near(1, 20);
        int count = near(0, 6);
        int person = nearPerson();
        int asked = near(0, 5);
        int k = near(0, 5);
        due("wait(" + s + ")", x.wait(s), o.wait(s));
        due("refuse(" + what + ")", x.refuse(what), o.refuse(what));
        due("coin(" + s + ")", x.coin(s), o.coin(s));
        due("harm(" + s + ")", x.harm(s), o.harm(s));
        due("behind()", x.behind(), o.behind());
        due("drawn(" + seed + ")", x.drawn(seed), o.drawn(seed));
        due("chance(" + seed + ", " + n + ", " + what + ")", x.chance(seed, n, what), o.chance(seed, n, what));
        due("count(" + count + ")", x.count(count), o.count(count));
        due("told(" + person + ", " + asked + ")", x.told(person, asked), o.told(person, asked));
        due("taken(" + s + ", " + k + ")", x.taken(s, k), o.taken(s, k));
        if (random.nextInt(6) == 0) {
            force(near(0, o.count(4) - 1));
        }
    }

    private void keep() {
        if (random.nextInt(3) == 0) {
            due("image()", x.image(), o.image());
        } else {
            due("back()", x.back(), o.back());
        }
    }

    private void cell(int sheet, int i, int v) {
        due("cell(" + sheet + ", " + i + ", " + v + ")", x.cell(sheet, i, v), o.cell(sheet, i, v));
    }

    private void host() {
        int sheet = near(0, 3);
        switch (random.nextInt(5)) {
            case 0: host0(sheet, near(-1, 2), near(-1, 40)); break;
            case 1: cell(sheet, near(0, 20), near(0, 255)); break;
            case 2: host2(sheet, near(0, 20), near(0, 3), near(0, 20), near(0, 12)); break;
            case 3: writeSlips(sheet); break;
            default: tellDesk(sheet); break;
        }
        due("judge(" + sheet + ")", x.judge(sheet), o.judge(sheet));
        due("which(" + sheet + ")", x.which(sheet), o.which(sheet));
    }

    private void host0(int sheet, int sort, int n) {
        due("sheet(" + sheet + ", " + sort + ", " + n + ")", x.sheet(sheet, sort, n), o.sheet(sheet, sort, n));
    }

    private void host2(int sheet, int i, int other, int j, int n) {
        due("copy(" + sheet + ", " + i + ", " + other + ", " + j + ", " + n + ")",
            x.copy(sheet, i, other, j, n), o.copy(sheet, i, other, j, n));
    }

    private void writeSlips(int sheet) {
        int sort = near(0, 2);
        int from = near(0, 4);
        int n = near(0, 4);
        host0(sheet, random.nextInt(8) == 0 ? near(-1, 2) : sort, near(9, 16));
        for (int k = 0; k < 3; k++) {
            cell(sheet, from + 3 * k, near(0, 5) + (random.nextInt(4) == 0 ? 256 : 0));
            cell(sheet, from + 3 * k + 1, near(10, 99) + (random.nextInt(4) == 0 ? 65536 : 0));
            cell(sheet, from + 3 * k + 2, nearPerson());
        }
        due("slips(" + sheet + ", " + sort + ", " + from + ", " + n + ")",
            x.slips(sheet, sort, from, n), o.slips(sheet, sort, from, n));
        due("count(1)", x.count(1), o.count(1));
        if (random.nextInt(3) != 0) {
            due("back()", x.back(), o.back());
        }
    }

    private void tellDesk(int sheet) {
        String digits = String.valueOf(o.desk(6));
        int n = random.nextInt(digits.length() + 2);
        host0(sheet, near(0, 2), n);
        for (int i = 0; i < n && i < digits.length(); i++) {
            cell(sheet, i, digits.charAt(i) - '1');
        }
    }
}

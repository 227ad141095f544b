import java.util.HashMap;
import java.util.Map;

/** Each refused call of each promise: what it answers, which refusal is ahead of which, and that it changes nothing. */
public final class RefusalsTest {
    private static final int BAD = WhoSingsNext.BAD, STATE = WhoSingsNext.STATE, FULL = WhoSingsNext.FULL;
    private static final int NO_SUCH = -100000, NOTHING = -11, OUTSIDE = -12, OTHER = -13, BELOW = -14;
    private static final int LEAST = Integer.MIN_VALUE, MOST = Integer.MAX_VALUE;
    private static final Houses.Maker NEW = WhoSingsNext::new, MIXED = Houses::mixed, ALL_FULL = Houses::full;
    private static final Map<Houses.Maker, String> UNTOUCHED = new HashMap<>();
    private static final Due DUE = new Due();

    public static void main(String[] args) {
        housesTellWhatChanged();
        come();
        slip();
        setPeople();
        setSlips();
        setHouse();
        told();
        feed();
        text();
        force();
        evening();
        hold();
        askedOfEvenings();
        askedOfSlips();
        askedOfSheets();
        chance();
        back();
        count();
        sheet();
        cell();
        copy();
        slips();
        taken();
        whatOnlyAnswersChangesNothing();
        DUE.end("RefusalsTest");
    }

    private static void refused(String call, Houses.Maker maker, Houses.Call c, long want) {
        WhoSingsNext x = maker.make();
        DUE.due(call, c.on(x), want);
        unchanged(call, maker, x);
    }

    private static void unchanged(String call, Houses.Maker maker, WhoSingsNext x) {
        String untouched = UNTOUCHED.computeIfAbsent(maker, m -> Houses.allOf(m.make()));
        String then = Houses.allOf(x);
        if (!then.equals(untouched)) {
            DUE.due(call + " changed\n" + untouched + "\nto\n" + then + "\nwhich", 1, 0);
        }
    }

    private static void refused(String call, Houses.Call c, long want) {
        refused(call, MIXED, c, want);
    }

    /** Else that nothing changes could not be seen. */
    private static void housesTellWhatChanged() {
        String all = Houses.allOf(MIXED.make());
        Houses.Call[] changes = {x -> x.come(1, 1), x -> x.slip(0, 10, 0), x -> x.set(0, 0, 1), x -> x.set(1, 1, 2),
            x -> x.set(2, 3, 1), x -> x.set(3, 0, 1), x -> x.set(4, 1, 0), x -> x.set(5, 0, 1), x -> x.set(6, 0, 1),
            x -> x.feed(' '), x -> x.text(), x -> x.force(0), x -> x.image(), x -> x.back(), x -> x.hold(1),
            x -> x.sheet(0, -1, 0), x -> x.sheet(3, 0, 0), x -> x.sheet(0, 0, 10), x -> x.sheet(1, 2, 6),
            x -> x.cell(0, 8, 1), x -> x.cell(2, 0, 3), x -> x.copy(0, 0, 0, 3, 3), x -> x.slips(0, 0, 0, 1)};
        for (int i = 0; i < changes.length; i++) {
            WhoSingsNext x = MIXED.make();
            changes[i].on(x);
            DUE.due("change " + i + " can be seen", Houses.allOf(x).equals(all) ? 0 : 1, 1);
        }
        DUE.due("a new one is none such", Houses.allOf(NEW.make()).equals(all) ? 1 : 0, 0);
    }

    private static void come() {
        for (int patience : new int[] {-1, 100, LEAST, MOST}) {
            refused("2: PATIENCE " + patience, x -> x.come(patience, 0), BAD);
            refused("2: PATIENCE " + patience + " to a new one", NEW, x -> x.come(patience, 0), BAD);
            refused("2: PATIENCE " + patience + " is ahead of FULL", ALL_FULL, x -> x.come(patience, 0), BAD);
        }
        for (int group : new int[] {-1, 8, LEAST, MOST}) {
            refused("2: GROUP " + group, x -> x.come(0, group), BAD);
            refused("2: GROUP " + group + " to a new one", NEW, x -> x.come(0, group), BAD);
            refused("2: GROUP " + group + " is ahead of FULL", ALL_FULL, x -> x.come(0, group), BAD);
        }
        refused("2: both", x -> x.come(100, 8), BAD);
        refused("2: a ninth", ALL_FULL, x -> x.come(0, 0), FULL);
        refused("2: a ninth, with the most of all", ALL_FULL, x -> x.come(99, 7), FULL);
    }

    private static void slip() {
        for (int kind : new int[] {-1, 6, LEAST, MOST}) {
            refused("3: KIND " + kind, x -> x.slip(kind, 10, 0), BAD);
            refused("3: KIND " + kind + " is ahead of FULL", ALL_FULL, x -> x.slip(kind, 10, 0), BAD);
        }
        for (int what : new int[] {9, 0, -1, -10, -45, 100, 109, LEAST, MOST}) {
            refused("3: LONG and NUMBER " + what, x -> x.slip(0, what, 0), BAD);
            refused("3: LONG and NUMBER " + what + " is ahead of FULL", ALL_FULL, x -> x.slip(0, what, 0), BAD);
        }
        for (int whose : new int[] {-1, 3, LEAST, MOST}) {
            refused("3: WHOSE " + whose, x -> x.slip(0, 10, whose), BAD);
        }
        for (int whose : new int[] {-1, 8, LEAST, MOST}) {
            refused("3: WHOSE " + whose + " is ahead of FULL", ALL_FULL, x -> x.slip(0, 10, whose), BAD);
        }
        refused("3: nobody is there to have one", NEW, x -> x.slip(0, 10, 0), BAD);
        refused("3: an eighth", ALL_FULL, x -> x.slip(0, 10, 0), FULL);
        refused("3: an eighth, with the most of all", ALL_FULL, x -> x.slip(5, 99, 7), FULL);
    }

    private static void setRefused(Houses.Maker maker, int what, int of, int v) {
        refused("4: set(" + what + ", " + of + ", " + v + ")", maker, x -> x.set(what, of, v), NO_SUCH);
    }

    private static void setPeople() {
        for (int what = 0; what < 2; what++) {
            for (int of : new int[] {-1, 3, LEAST, MOST}) {
                setRefused(MIXED, what, of, 1);
            }
            for (int v : new int[] {-1, what == 0 ? 100 : 8, LEAST, MOST}) {
                setRefused(MIXED, what, 0, v);
                setRefused(MIXED, what, 2, v);
            }
            setRefused(MIXED, what, 3, 100);
            setRefused(ALL_FULL, what, 8, 1);
            setRefused(NEW, what, 0, 1);
        }
    }

    private static void setSlips() {
        for (int what = 2; what < 5; what++) {
            for (int of : new int[] {-1, 4, LEAST, MOST}) {
                setRefused(MIXED, what, of, 1);
            }
            for (int v : new int[] {-1, what == 4 ? 3 : 10, LEAST, MOST}) {
                setRefused(MIXED, what, 0, v);
                setRefused(MIXED, what, 3, v);
            }
            setRefused(MIXED, what, 4, 10);
            setRefused(ALL_FULL, what, 7, 1);
            setRefused(NEW, what, 0, 1);
        }
        setRefused(MIXED, 3, 0, 0);
        setRefused(ALL_FULL, 4, 0, 8);
    }

    private static void setHouse() {
        for (int v : new int[] {-100, 100, LEAST, MOST}) {
            setRefused(MIXED, 5, 0, v);
            setRefused(NEW, 5, -1, v);
        }
        for (int v : new int[] {0, -1, 100, LEAST, MOST}) {
            setRefused(MIXED, 6, 0, v);
            setRefused(NEW, 6, -1, v);
        }
        for (int what : new int[] {-1, 7, LEAST, MOST}) {
            setRefused(MIXED, what, 0, 1);
            setRefused(NEW, what, 0, 1);
        }
    }

    private static void told() {
        for (int what = 0; what < 6; what++) {
            int asked = what;
            for (int of : new int[] {-1, what < 2 ? 3 : 4, LEAST, MOST}) {
                refused("5: told(" + of + ", " + asked + ")", x -> x.told(of, asked), BAD);
            }
            refused("5: of a new one", NEW, x -> x.told(0, asked), BAD);
            refused("5: of a full one", ALL_FULL, x -> x.told(asked < 2 ? 8 : 7, asked), BAD);
        }
        for (int what : new int[] {-1, 6, LEAST, MOST}) {
            refused("5: told(0, " + what + ")", x -> x.told(0, what), BAD);
        }
    }

    private static void feed() {
        for (int letter : new int[] {-1, 256, LEAST, MOST}) {
            refused("6: feed(" + letter + ")", x -> x.feed(letter), BAD);
            refused("6: feed(" + letter + ") is ahead of FULL", ALL_FULL, x -> x.feed(letter), BAD);
        }
        for (int letter : new int[] {0, 32, 97, 255}) {
            refused("6: byte 161 is " + letter, ALL_FULL, x -> x.feed(letter), FULL);
        }
    }

    private static void text() {
        refused("7: a fine tape, but no text has room", ALL_FULL, WhoSingsNext::text, FULL);
        refused("7: twice", ALL_FULL, x -> x.text() + x.text(), 2 * FULL);
        Houses.Maker[] tapes = {() -> sixTexts(""), () -> sixTexts("bears ?"), () -> sixTexts("bears 1;")};
        for (Houses.Maker maker : tapes) {
            refused("7: FULL is ahead of a FAULT", maker, WhoSingsNext::text, FULL);
        }
    }

    private static WhoSingsNext sixTexts(String tape) {
        WhoSingsNext x = new WhoSingsNext();
        for (int t = 1; t < 6; t++) {
            Due.read(x, "bears 9;takes 1;first " + t + ";");
        }
        Houses.feed(x, tape);
        return x;
    }

    private static void force() {
        for (int text : new int[] {-1, 2, 5, LEAST, MOST}) {
            refused("8: force(" + text + ")", x -> x.force(text), BAD);
        }
        refused("8: force(1) of a new one", NEW, x -> x.force(1), BAD);
        refused("8: force(6) of a full one", ALL_FULL, x -> x.force(6), BAD);
    }

    private static final int[] NO_ROWS = {-1, -12, 5, 15, 51, 9, 10, 20, 100, 101, 1020, 11, 22, 121, 1231, 12344, 12345,
        10000000, 1234123, 12341234, 1111111111, 1234567890, LEAST, LEAST + 1, MOST};

    private static void evening() {
        for (int row : NO_ROWS) {
            refused("9: row " + row, x -> x.evening(row, 0), NO_SUCH);
            refused("9: row " + row + ", and what", x -> x.evening(row, 6), NO_SUCH);
        }
        for (int what : new int[] {-1, 6, LEAST, MOST}) {
            refused("9: what " + what, x -> x.evening(12, what), NO_SUCH);
            refused("9: of none, what " + what, NEW, x -> x.evening(0, what), NO_SUCH);
        }
        refused("9: a row of no slips", NEW, x -> x.evening(1, 0), NO_SUCH);
        for (int row : new int[] {8, 18, 12345678, 12345671, 77, 70, 7654320, 17654321}) {
            refused("9: of seven, row " + row, ALL_FULL, x -> x.evening(row, 0), NO_SUCH);
        }
    }

    private static void hold() {
        for (int row : NO_ROWS) {
            refused("12: row " + row, x -> x.hold(row), NO_SUCH);
        }
        refused("12: a row of no slips", NEW, x -> x.hold(1), NO_SUCH);
        for (int row : new int[] {8, 18, 12345678, 12345671, 77, 70, 7654320, 17654321}) {
            refused("12: of seven, row " + row, ALL_FULL, x -> x.hold(row), NO_SUCH);
        }
    }

    private static void askedOfEvenings() {
        for (int sort : new int[] {-1, 2, LEAST, MOST}) {
            refused("10: best(" + sort + ", 0)", x -> x.best(sort, 0), BAD);
            refused("10: best(" + sort + ", 4)", x -> x.best(sort, 4), BAD);
        }
        for (int what : new int[] {-1, 4, LEAST, MOST}) {
            refused("10: best(0, " + what + ")", x -> x.best(0, what), BAD);
            refused("10: best(1, " + what + ")", x -> x.best(1, what), BAD);
        }
        for (int what : new int[] {-1, 7, LEAST, MOST}) {
            refused("11: desk(" + what + ")", x -> x.desk(what), NO_SUCH);
            refused("11: desk(" + what + ") of a new one", NEW, x -> x.desk(what), NO_SUCH);
        }
        for (int what : new int[] {-1, 2, LEAST, MOST}) {
            refused("14: refuse(" + what + ")", x -> x.refuse(what), BAD);
            refused("14: refuse(" + what + ") of a new one", NEW, x -> x.refuse(what), BAD);
        }
    }

    private static void slipRefused(Houses.Maker maker, int slip) {
        refused("13: wait(" + slip + ")", maker, x -> x.wait(slip), BAD);
        refused("15: coin(" + slip + ")", maker, x -> x.coin(slip), NO_SUCH);
        refused("16: harm(" + slip + ")", maker, x -> x.harm(slip), NO_SUCH);
    }

    private static void askedOfSlips() {
        for (int slip : new int[] {-1, 4, 6, 32, LEAST, MOST}) {
            slipRefused(MIXED, slip);
        }
        slipRefused(NEW, 0);
        slipRefused(ALL_FULL, 7);
    }

    private static void askedOfSheets() {
        for (int sheet : new int[] {-1, 4, LEAST, MOST}) {
            refused("17: judge(" + sheet + ")", x -> x.judge(sheet), BAD);
            refused("18: which(" + sheet + ")", x -> x.which(sheet), BAD);
        }
        refused("17: missing", x -> x.judge(3), NOTHING);
        refused("18: missing", x -> x.which(3), NOTHING);
        for (int sheet = 0; sheet < 4; sheet++) {
            int s = sheet;
            refused("17: missing at first, " + s, NEW, x -> x.judge(s), NOTHING);
            refused("18: missing at first, " + s, NEW, x -> x.which(s), NOTHING);
        }
    }

    private static void chance() {
        for (int n : new int[] {0, 21, -1, LEAST, MOST}) {
            refused("21: n " + n, x -> x.chance(1, n, 0), WhoSingsNext.NO);
            refused("21: n " + n + ", below the line", NEW, x -> x.chance(1, n, 1), WhoSingsNext.NO);
            refused("21: n " + n + ", and part", x -> x.chance(1, n, 2), WhoSingsNext.NO);
        }
        for (int part : new int[] {-1, 2, LEAST, MOST}) {
            refused("21: part " + part, x -> x.chance(1, 20, part), WhoSingsNext.NO);
            refused("21: part " + part + " of a new one", NEW, x -> x.chance(1, 1, part), WhoSingsNext.NO);
        }
    }

    private static void back() {
        refused("23: there is no image", NEW, WhoSingsNext::back, STATE);
        refused("23: nor is there one for asking", NEW, x -> x.back() + x.back(), 2 * STATE);
        refused("23: nor in a house of some", RefusalsTest::withoutImage, WhoSingsNext::back, STATE);
    }

    private static WhoSingsNext withoutImage() {
        WhoSingsNext x = new WhoSingsNext();
        x.come(7, 3);
        x.slip(3, 33, 0);
        x.set(5, 0, -4);
        x.set(6, 0, 9);
        x.sheet(1, 1, 2);
        return x;
    }

    private static void count() {
        for (int what : new int[] {-1, 7, LEAST, MOST}) {
            refused("24: count(" + what + ")", x -> x.count(what), BAD);
            refused("24: count(" + what + ") of a new one", NEW, x -> x.count(what), BAD);
        }
    }

    private static void sheet() {
        for (int sheet : new int[] {-1, 4, LEAST, MOST}) {
            refused("25: sheet(" + sheet + ", 0, 1)", x -> x.sheet(sheet, 0, 1), BAD);
            refused("25: no such SHEET, to be missing", x -> x.sheet(sheet, -1, 0), BAD);
            refused("25: no such SHEET is ahead of a size below 0", x -> x.sheet(sheet, 0, -1), BAD);
        }
        for (int sort : new int[] {-2, 3, LEAST, MOST}) {
            refused("25: sort " + sort, x -> x.sheet(0, sort, 1), BAD);
            refused("25: sort " + sort + " is ahead of a size below 0", x -> x.sheet(0, sort, -1), BAD);
        }
        for (int sort = 0; sort < 3; sort++) {
            int s = sort;
            for (int n : new int[] {41, MOST}) {
                refused("25: " + n + " of sort " + s, x -> x.sheet(0, s, n), BAD);
                refused("25: " + n + " of sort " + s + " where none was", x -> x.sheet(3, s, n), BAD);
            }
            for (int n : new int[] {-1, LEAST}) {
                refused("25: " + n + " of sort " + s, x -> x.sheet(1, s, n), BELOW);
                refused("25: " + n + " of sort " + s + " where none was", x -> x.sheet(3, s, n), BELOW);
            }
        }
    }

    private static void cell() {
        for (int sheet : new int[] {-1, 4, LEAST, MOST}) {
            refused("26: cell(" + sheet + ", 0, 1)", x -> x.cell(sheet, 0, 1), BAD);
            refused("26: no such SHEET is ahead of a place outside", x -> x.cell(sheet, -1, 1), BAD);
        }
        refused("26: missing", x -> x.cell(3, 0, 1), NOTHING);
        refused("26: missing is ahead of a place outside", x -> x.cell(3, -1, 1), NOTHING);
        refused("26: missing, a place far outside", x -> x.cell(3, MOST, 1), NOTHING);
        int[] sizes = {9, 6, 3};
        for (int sheet = 0; sheet < 3; sheet++) {
            int s = sheet;
            for (int i : new int[] {-1, sizes[s], 39, 40, LEAST, MOST}) {
                refused("26: cell(" + s + ", " + i + ", 1)", x -> x.cell(s, i, 1), OUTSIDE);
            }
        }
    }

    private static void copyRefused(int sheet, int i, int other, int j, int n, int want) {
        refused("27: copy(" + sheet + ", " + i + ", " + other + ", " + j + ", " + n + ")",
            x -> x.copy(sheet, i, other, j, n), want);
    }

    private static void copy() {
        for (int sheet : new int[] {-1, 4, LEAST, MOST}) {
            copyRefused(sheet, 0, 0, 0, 1, BAD);
            copyRefused(0, 0, sheet, 0, 1, BAD);
            copyRefused(sheet, 0, sheet, 0, 1, BAD);
            copyRefused(sheet, -1, 3, 0, -1, BAD);
            copyRefused(3, -1, sheet, 0, -1, BAD);
        }
        copyRefused(3, 0, 0, 0, 1, NOTHING);
        copyRefused(0, 0, 3, 0, 1, NOTHING);
        copyRefused(3, 0, 3, 0, 0, NOTHING);
        copyRefused(3, -1, 0, 0, -1, NOTHING);
        copyRefused(0, 99, 3, 0, 1, NOTHING);
        copyRefused(0, 0, 1, 0, 1, OTHER);
        copyRefused(1, 0, 2, 0, 0, OTHER);
        copyRefused(2, -1, 0, 0, 1, OTHER);
        copyRefused(0, 0, 1, 0, -1, OTHER);
        copyRefused(0, 9, 2, 9, 9, OTHER);
        copyOutside();
    }

    private static void copyOutside() {
        int[][] places = {{0, 0, -1}, {0, 0, LEAST}, {-1, 0, 1}, {0, -1, 1}, {-1, 0, 0}, {0, -1, 0}, {10, 0, 0},
            {0, 10, 0}, {9, 0, 1}, {0, 9, 1}, {1, 0, 9}, {0, 1, 9}, {0, 0, 10}, {5, 0, 5}, {0, 5, 5}, {MOST, 0, 1},
            {0, MOST, 1}, {MOST, 0, MOST}, {1, 1, MOST}, {0, 0, MOST}, {LEAST, 0, 1}, {0, LEAST, 1}, {LEAST, 0, MOST},
            {-1, 0, 9}, {9, 9, -1}};
        for (int[] p : places) {
            copyRefused(0, p[0], 0, p[1], p[2], OUTSIDE);
        }
    }

    private static void slipsRefused(Houses.Maker maker, int sheet, int sort, int from, int n, int want) {
        refused("28: slips(" + sheet + ", " + sort + ", " + from + ", " + n + ")", maker,
            x -> x.slips(sheet, sort, from, n), want);
    }

    private static void slips() {
        for (int sheet : new int[] {-1, 4, LEAST, MOST}) {
            slipsRefused(MIXED, sheet, 0, 0, 1, BAD);
            slipsRefused(MIXED, sheet, 0, -1, 0, BAD);
        }
        for (int sort : new int[] {-1, 3, LEAST, MOST}) {
            slipsRefused(MIXED, 0, sort, 0, 1, BAD);
            slipsRefused(MIXED, 3, sort, 0, 1, BAD);
            slipsRefused(MIXED, 0, sort, -1, 0, BAD);
        }
        for (int n : new int[] {-1, 8, LEAST, MOST}) {
            slipsRefused(MIXED, 0, 0, 0, n, BAD);
            slipsRefused(MIXED, 0, 1, 0, n, BAD);
            slipsRefused(MIXED, 3, 0, 0, n, BAD);
        }
        for (int sheet = 0; sheet < 3; sheet++) {
            slipsRefused(MIXED, sheet, (sheet + 1) % 3, 0, 1, OTHER);
            slipsRefused(MIXED, sheet, (sheet + 2) % 3, 0, 0, OTHER);
            slipsRefused(MIXED, sheet, (sheet + 2) % 3, -1, 1, OTHER);
            slipsRefused(MIXED, 3, sheet, 0, 1, NOTHING);
            slipsRefused(MIXED, 3, sheet, -1, 1, NOTHING);
            slipsRefused(MIXED, 3, sheet, 0, 0, NOTHING);
        }
        for (int from : new int[] {-1, -3, 7, 8, 9, MOST, MOST - 2, LEAST}) {
            slipsRefused(MIXED, 0, 0, from, 1, OUTSIDE);
            slipsRefused(MIXED, 0, 0, from, 7, OUTSIDE);
        }
        slipsRefused(ALL_FULL, 0, 1, 0, 1, 0);
        slipsRefused(ALL_FULL, 0, 1, 0, 7, OUTSIDE);
        slipsRefused(MIXED, 0, 0, 0, 0, 0);
    }

    private static void taken() {
        for (int k : new int[] {-1, 6, LEAST, MOST}) {
            refused("29: taken(0, " + k + ")", x -> x.taken(0, k), BAD);
            refused("29: k " + k + " is ahead of no such SLIP", x -> x.taken(4, k), BAD);
        }
        for (int slip : new int[] {-1, 4, LEAST, MOST}) {
            refused("29: taken(" + slip + ", 0)", x -> x.taken(slip, 0), NOTHING);
            refused("29: taken(" + slip + ", 5)", x -> x.taken(slip, 5), NOTHING);
        }
        refused("29: no slip at all", NEW, x -> x.taken(0, 0), NOTHING);
        refused("29: of seven the eighth", ALL_FULL, x -> x.taken(7, 0), NOTHING);
        refused("29: a SONG is no SLOW", x -> x.taken(0, 1), OTHER);
        refused("29: an ALONG is no DARING", x -> x.taken(3, 4), OTHER);
    }

    /** What is asked is asked in thought. */
    private static void whatOnlyAnswersChangesNothing() {
        Houses.Call[] asked = {x -> x.told(1, 0) + x.told(1, 5), x -> x.evening(4321, 0), x -> x.evening(0, 3),
            x -> x.best(0, 0), x -> x.best(1, 3), x -> x.desk(0), x -> x.desk(6), x -> x.wait(1), x -> x.refuse(0),
            x -> x.refuse(1), x -> x.coin(2), x -> x.harm(3), x -> x.judge(2), x -> x.which(0), x -> x.behind(),
            x -> x.drawn(-5), x -> x.chance(9, 20, 0), x -> x.count(2), x -> x.taken(1, 2)};
        for (int i = 0; i < asked.length; i++) {
            for (Houses.Maker maker : new Houses.Maker[] {MIXED, ALL_FULL, NEW}) {
                WhoSingsNext x = maker.make();
                long once = asked[i].on(x);
                DUE.due("question " + i + " twice", asked[i].on(x), once);
                unchanged("question " + i, maker, x);
            }
        }
    }
}

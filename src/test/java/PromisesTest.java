/** Each promise by itself: ordinary inputs, the edges that the document names, and wrong inputs. */
public final class PromisesTest {
    private static final int SONG = 0, SLOW = 1, ALONG = 2, ROAD = 3, DARING = 4, BOUGHT = 5;
    private static final int NO_SUCH = -100000, NOTHING = -11, OUTSIDE = -12, OTHER = -13, BELOW = -14;
    private static final int[] WILD = {Integer.MIN_VALUE, -2, -1, 4, 8, 1000, Integer.MAX_VALUE};
    private static final Due DUE = new Due();

    public static void main(String[] args) {
        newObject();
        come();
        slip();
        set();
        told();
        feed();
        text();
        force();
        eveningMoves();
        eveningThirst();
        eveningLeaving();
        eveningBounds();
        eveningNames();
        eveningRows();
        best();
        bestOfLikeOnes();
        bestAfterChanges();
        desk();
        deskNames();
        deskByTextZero();
        hold();
        waits();
        refuse();
        coin();
        harm();
        judge();
        which();
        behind();
        drawn();
        chance();
        image();
        back();
        count();
        sheet();
        cell();
        copy();
        slips();
        taken();
        DUE.end("PromisesTest");
    }

    private static void due(String call, long got, long want) {
        DUE.due(call, got, want);
    }

    /** A house whose rule is a text of its own. */
    private static WhoSingsNext houseBy(String text) {
        WhoSingsNext x = new WhoSingsNext();
        due(text, Due.read(x, text), 1);
        due("force(1)", x.force(1), 0);
        return x;
    }

    private static void newObject() {
        WhoSingsNext x = new WhoSingsNext();
        int[] counts = {0, 0, 99, 60, 1, 0, 0};
        for (int i = 0; i < counts.length; i++) {
            due("1: count(" + i + ")", x.count(i), counts[i]);
        }
        for (int i = 0; i < 4; i++) {
            due("1: sheet " + i + " is missing", x.judge(i), NOTHING);
        }
        due("1: no image", x.back(), WhoSingsNext.STATE);
        due("1: nobody", x.told(0, 0), WhoSingsNext.BAD);
        due("1: no slip", x.taken(0, 0), NOTHING);
        due("1: constants", WhoSingsNext.NONE * 1000 + WhoSingsNext.BAD * 100 + WhoSingsNext.STATE * 10
            + WhoSingsNext.FULL, -1234);
        due("1: NO", WhoSingsNext.NO, -(1L << 62));
    }

    private static void come() {
        WhoSingsNext x = new WhoSingsNext();
        due("2: come(0, 0)", x.come(0, 0), 0);
        due("2: come(99, 7)", x.come(99, 7), 1);
        due("2: come(-1, 0)", x.come(-1, 0), WhoSingsNext.BAD);
        due("2: come(100, 0)", x.come(100, 0), WhoSingsNext.BAD);
        due("2: come(0, -1)", x.come(0, -1), WhoSingsNext.BAD);
        due("2: come(0, 8)", x.come(0, 8), WhoSingsNext.BAD);
        due("2: two came", x.count(0), 2);
        for (int i = 2; i < 8; i++) {
            due("2: come(" + i + ", 3)", x.come(i, 3), i);
        }
        due("2: a ninth", x.come(1, 1), WhoSingsNext.FULL);
        due("2: BAD is ahead of FULL", x.come(100, 1), WhoSingsNext.BAD);
        due("2: eight stay", x.count(0), 8);
        due("2: patience", x.told(7, 0), 7);
        due("2: group", x.told(7, 1), 3);
    }

    private static void slip() {
        WhoSingsNext x = new WhoSingsNext();
        due("3: nobody's", x.slip(0, 10, 0), WhoSingsNext.BAD);
        x.come(1, 1);
        due("3: slip(0, 10, 0)", x.slip(SONG, 10, 0), 0);
        due("3: slip(5, 99, 0)", x.slip(BOUGHT, 99, 0), 1);
        due("3: NUMBER", x.told(1, 2), 9);
        due("3: LONG", x.told(1, 3), 9);
        due("3: NUMBER 0", x.told(0, 2), 0);
        due("3: LONG 1", x.told(0, 3), 1);
        due("3: kind -1", x.slip(-1, 10, 0), WhoSingsNext.BAD);
        due("3: kind 6", x.slip(6, 10, 0), WhoSingsNext.BAD);
        due("3: LONG 0", x.slip(0, 9, 0), WhoSingsNext.BAD);
        due("3: LONG 10", x.slip(0, 100, 0), WhoSingsNext.BAD);
        due("3: below 0", x.slip(0, -15, 0), WhoSingsNext.BAD);
        due("3: whose -1", x.slip(0, 10, -1), WhoSingsNext.BAD);
        due("3: whose 1", x.slip(0, 10, 1), WhoSingsNext.BAD);
        due("3: two slips", x.count(1), 2);
        for (int i = 2; i < 7; i++) {
            due("3: slip " + i, x.slip(i - 1, 35, 0), i);
            due("3: kind of slip " + i, x.told(i, 5), i - 1);
        }
        due("3: an eighth", x.slip(0, 10, 0), WhoSingsNext.FULL);
        due("3: BAD is ahead of FULL", x.slip(0, 10, 1), WhoSingsNext.BAD);
        due("3: seven stay", x.count(1), 7);
    }

    private static void set() {
        WhoSingsNext x = new WhoSingsNext();
        x.come(5, 1);
        x.come(6, 2);
        x.slip(ROAD, 47, 0);
        int[][] fine = {{0, 1, 99, 6}, {0, 1, 0, 99}, {1, 1, 7, 2}, {1, 1, 0, 7}, {2, 0, 9, 7}, {2, 0, 0, 9},
            {3, 0, 9, 4}, {3, 0, 1, 9}, {4, 0, 1, 0}, {4, 0, 0, 1}, {5, 77, -99, 0}, {5, -1, 99, -99},
            {6, 77, 99, 60}, {6, -1, 1, 99}};
        for (int[] c : fine) {
            due("4: set(" + c[0] + ", " + c[1] + ", " + c[2] + ")", x.set(c[0], c[1], c[2]), c[3]);
        }
        int[][] wrong = {{0, 2, 5}, {0, -1, 5}, {0, 0, -1}, {0, 0, 100}, {1, 2, 5}, {1, 0, -1}, {1, 0, 8},
            {2, 1, 5}, {2, -1, 5}, {2, 0, -1}, {2, 0, 10}, {3, 1, 5}, {3, 0, 0}, {3, 0, 10}, {4, 1, 0}, {4, 0, 2},
            {4, 0, -1}, {5, 0, -100}, {5, 0, 100}, {6, 0, 0}, {6, 0, 100}, {7, 0, 5}, {-1, 0, 5}};
        for (int[] c : wrong) {
            due("4: set(" + c[0] + ", " + c[1] + ", " + c[2] + ")", x.set(c[0], c[1], c[2]), NO_SUCH);
        }
        int[] left = {5, 1, 0, 1, 0, 3};
        for (int i = 0; i < left.length; i++) {
            due("4: refusals changed nothing, told(0, " + i + ")", x.told(0, i), left[i]);
        }
        due("4: MOOD", x.count(2), 198);
        due("4: TILL", x.count(3), 1);
    }

    private static void told() {
        WhoSingsNext x = new WhoSingsNext();
        x.come(5, 1);
        x.come(6, 2);
        x.slip(DARING, 47, 1);
        int[] answers = {6, 2};
        for (int i = 0; i < 2; i++) {
            due("5: told(1, " + i + ")", x.told(1, i), answers[i]);
            due("5: told(2, " + i + ")", x.told(2, i), WhoSingsNext.BAD);
            due("5: told(-1, " + i + ")", x.told(-1, i), WhoSingsNext.BAD);
        }
        int[] ofSlip = {7, 4, 1, DARING};
        for (int i = 2; i < 6; i++) {
            due("5: told(0, " + i + ")", x.told(0, i), ofSlip[i - 2]);
            due("5: told(1, " + i + ")", x.told(1, i), WhoSingsNext.BAD);
            due("5: told(-1, " + i + ")", x.told(-1, i), WhoSingsNext.BAD);
        }
        due("5: told(0, 6)", x.told(0, 6), WhoSingsNext.BAD);
        due("5: told(0, -1)", x.told(0, -1), WhoSingsNext.BAD);
    }

    private static void feed() {
        WhoSingsNext x = new WhoSingsNext();
        due("6: feed(-1)", x.feed(-1), WhoSingsNext.BAD);
        due("6: feed(256)", x.feed(256), WhoSingsNext.BAD);
        due("6: nothing came", x.count(5), 0);
        for (int i = 1; i <= 160; i++) {
            due("6: feed", x.feed(i == 1 ? 0 : i == 2 ? 255 : 97), i);
        }
        due("6: one more", x.feed(97), WhoSingsNext.FULL);
        due("6: BAD is ahead of FULL", x.feed(256), WhoSingsNext.BAD);
        due("6: 160 stay", x.count(5), 160);
    }

    private static void text() {
        WhoSingsNext x = new WhoSingsNext();
        due("7: nothing", x.text(), -100);
        due("7: a fault", Due.read(x, "bears 1; takes 2; last 3;"), -118);
        due("7: the tape is empty", x.count(5), 0);
        due("7: no text came", x.count(4), 1);
        for (int i = 1; i < 6; i++) {
            due("7: text " + i, Due.read(x, "bears 1; takes 2; first " + i + ";"), i);
            due("7: the tape is empty", x.count(5), 0);
        }
        due("7: six", x.count(4), 6);
        due("7: a seventh", Due.read(x, "bears 1; takes 2; first 3;"), WhoSingsNext.FULL);
        due("7: the tape stays", x.count(5), 26);
        x.feed('?');
        due("7: FULL is ahead of a fault", x.text(), WhoSingsNext.FULL);
        due("7: THE RULE is as it was", x.count(6), 0);
    }

    private static void force() {
        WhoSingsNext x = new WhoSingsNext();
        Due.read(x, "bears 1; takes 7; first 3;");
        x.come(9, 0);
        x.slip(SONG, 10, 0);
        due("8: by TEXT 0", x.evening(1, 0), 3);
        due("8: force(2)", x.force(2), WhoSingsNext.BAD);
        due("8: force(-1)", x.force(-1), WhoSingsNext.BAD);
        due("8: THE RULE stays", x.count(6), 0);
        due("8: force(1)", x.force(1), 0);
        due("8: THE RULE", x.count(6), 1);
        due("8: by TEXT 1", x.evening(1, 0), 7);
        due("8: force(1) again", x.force(1), 1);
        due("8: force(0)", x.force(0), 1);
        due("8: by TEXT 0 again", x.evening(1, 0), 3);
    }

    private static void eveningMoves() {
        WhoSingsNext x = new WhoSingsNext();
        x.come(99, 0);
        for (int kind = 0; kind < 6; kind++) {
            x.slip(kind, 23, 0);
        }
        int[] moods = {5, 0, -1, -5};
        int[][] then = {{6, 3, 9, 3, 9, 7}, {1, -2, 4, -2, 4, 2}, {0, -3, 3, -1, 7, 1}, {-4, -7, -1, -5, 3, -3}};
        for (int m = 0; m < moods.length; m++) {
            x.set(5, 0, moods[m]);
            for (int kind = 0; kind < 6; kind++) {
                due("9: MOOD " + moods[m] + " by kind " + kind, x.evening(kind + 1, 3), then[m][kind]);
            }
        }
        x.set(5, 0, 10);
        for (int n = 0; n <= 9; n++) {
            x.set(2, 5, n);
            due("9: BOUGHT, half of " + (n + 1), x.evening(6, 3), 10 + (n + 1) / 2);
        }
        x.set(2, 2, 9);
        x.set(5, 0, 90);
        due("9: MOOD 100", x.evening(3, 3), 99);
        x.set(2, 1, 9);
        x.set(5, 0, -92);
        due("9: MOOD -100", x.evening(2, 3), -99);
        x.set(5, 0, 95);
        due("9: the bound is where the next one begins", x.evening(32, 3), 91);
        due("9: in thought", x.count(2), 194);
    }

    private static void eveningThirst() {
        WhoSingsNext x = houseBy("bears 99; takes 1; first 0;");
        for (int i = 0; i < 5; i++) {
            x.come(99, i);
        }
        for (int kind = 0; kind < 6; kind++) {
            x.slip(kind, 13, 4);
        }
        int[] drinks = {5, 2, 5, 5, 6, 8};
        for (int kind = 0; kind < 6; kind++) {
            due("9: THIRST of kind " + kind, x.evening(kind + 1, 0), drinks[kind]);
        }
        due("9: all of them", x.evening(123456, 0), 31);
        x.come(0, 7);
        due("9: SLOW, six there", x.evening(2, 0), 3);
        due("9: ROAD, six there", x.evening(4, 0), 6);
    }

    private static void eveningLeaving() {
        WhoSingsNext x = houseBy("bears 0; takes minute; first 0;");
        x.come(3, 0);
        x.come(4, 1);
        x.come(0, 0);
        x.slip(SONG, 40, 1);
        x.slip(SONG, 20, 0);
        due("9: who leaves still drinks", x.evening(1, 0), 12);
        due("9: two leave", x.evening(1, 1), 2);
        due("9: one stays", x.evening(1, 5), 2);
        due("9: who left doesn't sing", x.evening(12, 2), 1);
        due("9: nor does anything else come by that", x.evening(12, 4), 4);
        due("9: the whole group sang", x.evening(2, 1), 0);
        due("9: 4 minutes since the group sang, 3 are too few", x.evening(21, 5), 2);
        due("9: TAKEN then", x.evening(21, 0), 3 * 2 + 3 * 6);
        x.set(0, 0, 4);
        due("9: waits just as long as it can", x.evening(1, 5), 3);
        x.set(1, 2, 1);
        due("9: with the other group", x.evening(1, 5), 7);
    }

    private static void eveningBounds() {
        WhoSingsNext x = houseBy("bears - 9999; takes 9999; first 0;");
        x.come(99, 0);
        x.come(98, 0);
        x.slip(SONG, 10, 0);
        due("9: bears no less than -99", x.evening(1, 5), 1);
        due("9: takes 99 at most", x.evening(1, 0), 198);
        due("9: -1 is taken for 0", Due.read(x, "bears 99; takes -1; first 0;"), 2);
        x.force(2);
        due("9: takes 0 at least", x.evening(1, 0), 0);
        due("9: an E of 32 bits", Due.read(x, "bears 0; takes 9999*9999*9999*9999; first 0;"), 3);
        x.force(3);
        int wrapped = 9999 * 9999 * 9999 * 9999;
        due("9: wrapped", x.evening(1, 0), 2 * Math.max(0, Math.min(99, wrapped)));
        x.set(6, 0, 1);
        due("9: just till the end", x.evening(1, 2), 1);
        x.set(3, 0, 2);
        due("9: beyond the end", x.evening(1, 2), 0);
        due("9: beyond the end nothing is", x.evening(1, 4), 0);
    }

    /** takes and bears see minute, mood and bar as they are then. */
    private static void eveningNames() {
        WhoSingsNext x = houseBy("bears 9; takes (sort=2)*(minute*10+mood+bar)+waited+sung; first 0;");
        x.come(9, 0);
        x.slip(ALONG, 31, 0);
        x.slip(ALONG, 10, 0);
        due("9: minute 3, mood 2, bar 0", x.evening(1, 0), 32);
        due("9: minute 4, mood 3, bar 32", x.evening(12, 0), 32 + 75);
        x = houseBy("bears bar*10+mood-sung*5-sort; takes 1; first 0;");
        x.come(0, 0);
        x.come(0, 1);
        x.slip(SONG, 90, 0);
        due("9: bar 2, mood 1", x.evening(1, 5), 3);
        x = houseBy("bears sort*50; takes 1; first 0;");
        x.come(0, 0);
        x.come(0, 1);
        x.slip(BOUGHT, 10, 0);
        due("9: of one sort is 0", x.evening(1, 5), 1);
        x = houseBy("bears 12-sung*9-waited; takes 1; first 0;");
        x.come(0, 0);
        x.come(0, 1);
        x.slip(SONG, 60, 0);
        x.slip(SONG, 20, 0);
        due("9: waited 6, bears 6", x.evening(1, 5), 3);
        due("9: sung 2 bears -6, waited 8 bears 4", x.evening(12, 5), 0);
        due("9: both left", x.evening(12, 1), 2);
        due("9: both were there to drink", x.evening(12, 0), 4);
    }

    private static void eveningRows() {
        WhoSingsNext x = new WhoSingsNext();
        due("9: none at all", x.evening(0, 5), 0);
        x.come(50, 0);
        x.slip(SONG, 10, 0);
        x.slip(SONG, 20, 0);
        x.slip(SONG, 30, 0);
        due("9: none", x.evening(0, 2), 0);
        due("9: who is there", x.evening(0, 5), 1);
        due("9: a row", x.evening(312, 4), 6);
        for (int row : new int[] {4, 11, 10, 101, 120, 1230, 131, 1234, -1, -12, 1231231231, Integer.MAX_VALUE,
                Integer.MIN_VALUE}) {
            due("9: row " + row, x.evening(row, 0), NO_SUCH);
        }
        due("9: what 6", x.evening(1, 6), NO_SUCH);
        due("9: what -1", x.evening(1, -1), NO_SUCH);
        due("9: TAKEN of 321", x.evening(321, 0), 3 + 4 + 5);
    }

    private static void best() {
        WhoSingsNext x = new WhoSingsNext();
        for (int what = 0; what < 4; what++) {
            due("10: none at all", x.best(0, what) + x.best(1, what), 0);
        }
        x.come(5, 0);
        x.come(20, 1);
        x.slip(SONG, 40, 0);
        x.slip(DARING, 35, 1);
        int[] most = {42, 0, 2, 21};
        int[] fewest = {33, 0, 2, 12};
        for (int what = 0; what < 4; what++) {
            due("10: best(0, " + what + ")", x.best(0, what), most[what]);
            due("10: best(1, " + what + ")", x.best(1, what), fewest[what]);
        }
        due("10: best(2, 0)", x.best(2, 0), WhoSingsNext.BAD);
        due("10: best(-1, 0)", x.best(-1, 0), WhoSingsNext.BAD);
        due("10: best(0, 4)", x.best(0, 4), WhoSingsNext.BAD);
        due("10: best(0, -1)", x.best(0, -1), WhoSingsNext.BAD);
    }

    /** Of like rows the first; a row ahead of those that go on so; rows with slips that aren't SUNG count too. */
    private static void bestOfLikeOnes() {
        WhoSingsNext x = houseBy("bears 0; takes 0; first 0;");
        x.come(9, 0);
        x.come(0, 1);
        x.slip(SONG, 50, 0);
        x.slip(SONG, 50, 0);
        due("10: all take 0, so none", x.best(0, 3), 0);
        due("10: nobody leaves of none", x.best(1, 3), 0);
        x.set(0, 1, 20);
        due("10: nobody leaves of all", x.best(1, 3), 12);
        x = houseBy("bears 0; takes 5 - minute; first 0;");
        x.come(90, 0);
        x.slip(SONG, 90, 0);
        x.slip(SONG, 10, 0);
        x.set(6, 0, 5);
        due("10: the first isn't SUNG, and stands ahead", x.best(0, 3), 12);
        due("10: what it takes", x.best(0, 0), 4);
        due("10: how many are SUNG", x.best(0, 2), 1);
        due("10: by fewest, too", x.best(1, 3), 12);
        x.set(6, 0, 9);
        due("10: now it would be", x.best(0, 3), 2);
        x = houseBy("bears 0; takes 1; first 0;");
        x.come(2, 0);
        x.come(3, 1);
        x.slip(SONG, 30, 0);
        x.slip(SONG, 30, 1);
        due("10: LEFT 0 and SUNG 1 ahead of none", x.best(1, 3), 1);
        due("10: LEFT", x.best(1, 1), 0);
        due("10: most is taken of both", x.best(0, 3), 12);
    }

    private static void bestAfterChanges() {
        WhoSingsNext x = new WhoSingsNext();
        Due.read(x, "bears 0; takes 1; first 0;");
        x.come(50, 0);
        x.slip(SONG, 10, 0);
        due("10: 1 there, takes 3", x.best(0, 0), 3);
        x.come(50, 0);
        due("10: after come", x.best(0, 0), 6);
        x.slip(SONG, 10, 0);
        due("10: after slip", x.best(0, 0), 14);
        x.image();
        x.set(6, 0, 1);
        due("10: after set", x.best(0, 0), 6);
        x.force(1);
        due("10: after force", x.best(0, 0), 2);
        x.back();
        due("10: after back", x.best(0, 0), 14);
        due("10: two are SUNG", x.best(1, 2), 2);
        x.set(6, 0, 1);
        due("10: one is SUNG, with the other behind it", x.best(1, 2), 1);
        due("10: the row", x.best(1, 3), 1);
        x.back();
        x.hold(1);
        due("10: after hold", x.best(0, 0), 18);
        x.sheet(0, 0, 3);
        x.cell(0, 1, 10);
        x.slips(0, 0, 0, 1);
        due("10: after slips", x.best(0, 0), 30);
    }

    private static void desk() {
        WhoSingsNext x = new WhoSingsNext();
        for (int what = 0; what < 7; what++) {
            due("11: none at all", x.desk(what), 0);
        }
        x.come(5, 0);
        x.come(20, 1);
        x.slip(SONG, 40, 0);
        x.slip(DARING, 35, 1);
        int[] answers = {33, 0, 2, 7, 7, 3, 12};
        for (int what = 0; what < 7; what++) {
            due("11: desk(" + what + ")", x.desk(what), answers[what]);
        }
        due("11: desk(7)", x.desk(7), NO_SUCH);
        due("11: desk(-1)", x.desk(-1), NO_SUCH);
        x = houseBy("bears 99; takes 1; first mood*0+(sort=1)*5-(sort=0)*9999*9999*9999;");
        x.come(9, 0);
        x.slip(SONG, 10, 0);
        x.slip(ALONG, 10, 0);
        x.slip(SLOW, 10, 0);
        x.slip(SLOW, 10, 0);
        due("11: first may be any int", x.desk(6), 9999 * 9999 * 9999 > 0 ? 3421 : 1342);
        x.set(3, 2, 9);
        x.set(6, 0, 3);
        due("11: what wouldn't be SUNG isn't called", x.desk(6), 9999 * 9999 * 9999 > 0 ? 421 : 142);
        due("11: minute", x.desk(4), 3);
    }

    /** first sees waited and sung of the group of the one WHOSE it is, and all else as it is ahead of the song. */
    private static void deskNames() {
        WhoSingsNext x = houseBy("bears 99; takes 1; first waited;");
        x.come(9, 0);
        x.come(9, 0);
        x.come(9, 1);
        x.slip(SONG, 20, 0);
        x.slip(SONG, 20, 1);
        x.slip(SONG, 20, 2);
        due("11: those who waited longest", x.desk(6), 132);
        Due.read(x, "bears 99; takes 1; first -sung;");
        x.force(2);
        due("11: those who sang least", x.desk(6), 132);
        x.set(1, 1, 5);
        due("11: another group", x.desk(6), 123);
        x = houseBy("bears 99; takes 3; first (bar=0)*sort-(bar=3)*sort*(mood=10)*(minute=1);");
        x.come(9, 0);
        x.slip(SONG, 10, 0);
        x.slip(ALONG, 19, 0);
        x.slip(SLOW, 10, 0);
        due("11: bar, mood, minute ahead of it", x.desk(6), 213);
        due("11: then", x.desk(0), 3 + 3);
    }

    /** TEXT 0: by its first the groups sing in turn, whatever a song counts there. */
    private static void deskByTextZero() {
        WhoSingsNext x = new WhoSingsNext();
        x.come(0, 0);
        x.come(99, 1);
        x.come(99, 2);
        x.slip(SONG, 10, 1);
        x.slip(SONG, 10, 1);
        x.slip(SONG, 10, 2);
        x.slip(SONG, 10, 1);
        x.slip(SONG, 10, 2);
        x.slip(SONG, 10, 0);
        due("11: in turn", x.desk(6), 136254);
        x.set(3, 0, 9);
        due("11: bears 10", x.evening(12, 1), 0);
        due("11: and no more", x.evening(123, 1), 1);
        due("11: 2 and mood", x.evening(1, 0), 3 * 3);
    }

    private static void hold() {
        WhoSingsNext x = new WhoSingsNext();
        x.come(9, 0);
        x.slip(ALONG, 14, 0);
        x.slip(SLOW, 19, 0);
        due("12: hold(1)", x.hold(1), 7);
        due("12: MOOD is as then", x.count(2), 99 + 5);
        due("12: hold(12)", x.hold(12), 12);
        due("12: MOOD then", x.count(2), 99 + 2);
        due("12: hold(0)", x.hold(0), 0);
        due("12: MOOD stays", x.count(2), 99 + 2);
        for (int row : new int[] {3, 11, 10, -1, 121, Integer.MAX_VALUE}) {
            due("12: hold(" + row + ")", x.hold(row), NO_SUCH);
        }
        due("12: and then, too", x.count(2), 99 + 2);
        due("12: all are still there", x.evening(0, 5), 1);
        due("12: no slip goes", x.count(1), 2);
    }

    private static void waits() {
        WhoSingsNext x = new WhoSingsNext();
        due("13: no slip", x.wait(0), WhoSingsNext.BAD);
        x.come(5, 0);
        x.come(20, 1);
        x.slip(SONG, 40, 0);
        x.slip(DARING, 35, 1);
        due("13: wait(0)", x.wait(0), 0);
        due("13: wait(1)", x.wait(1), 4);
        due("13: wait(2)", x.wait(2), WhoSingsNext.BAD);
        due("13: wait(-1)", x.wait(-1), WhoSingsNext.BAD);
        x.set(6, 0, 6);
        due("13: not SUNG", x.wait(1), WhoSingsNext.NONE);
    }

    private static void refuse() {
        WhoSingsNext x = new WhoSingsNext();
        due("14: no slip", x.refuse(0), WhoSingsNext.NONE);
        due("14: nothing is taken", x.refuse(1), 0);
        x.come(50, 0);
        x.slip(SONG, 10, 0);
        due("14: a song is worth it", x.refuse(0), WhoSingsNext.NONE);
        due("14: as now", x.refuse(1), 3);
        // By a SLOW of 9 mood is -8, so that all behind it brings nothing.
        x = new WhoSingsNext();
        x.come(50, 0);
        x.slip(SLOW, 19, 0);
        x.slip(SLOW, 19, 0);
        x.slip(SONG, 10, 0);
        due("14: by all nothing is taken", x.desk(0), 0);
        due("14: to refuse one is no help", x.refuse(0), WhoSingsNext.NONE);
        x.set(2, 1, 2);
        due("14: the first", x.refuse(0), 0);
        due("14: TAKEN then", x.refuse(1), 2);
        x.set(2, 0, 2);
        x.set(5, 0, -1);
        due("14: of like ones the first", x.refuse(0), 0);
        due("14: TAKEN then of either", x.refuse(1), 1);
        due("14: refuse(2)", x.refuse(2), WhoSingsNext.BAD);
        due("14: refuse(-1)", x.refuse(-1), WhoSingsNext.BAD);
    }

    private static void coin() {
        WhoSingsNext x = new WhoSingsNext();
        due("15: no slip", x.coin(0), NO_SUCH);
        x.come(5, 0);
        x.come(20, 1);
        x.slip(SONG, 40, 0);
        x.slip(DARING, 35, 1);
        due("15: as by THE DESK", x.coin(0), 0);
        due("15: more, if ahead", x.coin(1), 33 - 42);
        due("15: coin(2)", x.coin(2), NO_SUCH);
        due("15: coin(-1)", x.coin(-1), NO_SUCH);
        x.slip(SLOW, 99, 0);
        x.set(6, 0, 8);
        due("15: one that isn't SUNG", x.coin(2), 0);
        x.set(6, 0, 9);
        due("15: one that leaves no room", x.coin(2), 33);
    }

    private static void harm() {
        WhoSingsNext x = new WhoSingsNext();
        due("16: no slip", x.harm(0), NO_SUCH);
        x.come(50, 0);
        x.come(0, 1);
        x.slip(SONG, 60, 0);
        x.slip(SONG, 60, 0);
        due("16: one leaves", x.desk(1), 1);
        due("16: none would", x.harm(0), 1);
        due("16: nor by the other", x.harm(1), 1);
        x.slip(SONG, 10, 1);
        due("16: TILL one sings", x.desk(6), 132);
        due("16: it keeps one", x.harm(2), -1);
        due("16: harm(3)", x.harm(3), NO_SUCH);
        due("16: harm(-1)", x.harm(-1), NO_SUCH);
    }

    private static void judge() {
        WhoSingsNext x = new WhoSingsNext();
        for (int sheet : WILD) {
            due("17: judge(" + sheet + ")", x.judge(sheet), WhoSingsNext.BAD);
        }
        due("17: missing", x.judge(3), NOTHING);
        x.come(50, 0);
        x.slip(SONG, 10, 0);
        x.slip(SONG, 10, 0);
        x.sheet(3, 2, 3);
        x.cell(3, 1, 1);
        due("17: none any more", x.judge(3), 2);
        x.cell(3, 0, 1);
        due("17: another one", x.judge(3), 0);
        x.cell(3, 0, 0);
        x.cell(3, 1, 256 + 1);
        due("17: no slip at all", x.judge(3), 1);
        x.sheet(3, 0, 2);
        x.cell(3, 1, 256 + 1);
        due("17: of bytes it is 1", x.judge(3), WhoSingsNext.NONE);
        x.sheet(3, 1, 1);
        due("17: less than all", x.judge(3), WhoSingsNext.NONE);
        x.sheet(3, 1, 0);
        due("17: nothing told", x.judge(3), WhoSingsNext.NONE);
    }

    private static void which() {
        WhoSingsNext x = new WhoSingsNext();
        for (int sheet : WILD) {
            due("18: which(" + sheet + ")", x.which(sheet), WhoSingsNext.BAD);
        }
        due("18: missing", x.which(0), NOTHING);
        Due.read(x, "bears 0; takes 0; first sort;");
        Due.read(x, "bears 0; takes 0; first -sort;");
        x.come(50, 0);
        x.slip(SONG, 10, 0);
        x.slip(SLOW, 10, 0);
        x.sheet(0, 0, 2);
        x.cell(0, 1, 1);
        due("18: 0 and 2", x.which(0), 5);
        x.cell(0, 0, 1);
        due("18: 1, 1: none", x.which(0), 0);
        x.cell(0, 1, 0);
        due("18: 1 alone", x.which(0), 2);
        x.sheet(0, 0, 0);
        due("18: all", x.which(0), 7);
        x.force(2);
        due("18: all again", x.which(0), 7);
        due("18: THE RULE stays", x.count(6), 2);
    }

    private static void behind() {
        WhoSingsNext x = new WhoSingsNext();
        due("19: nobody", x.behind(), 0);
        x.come(50, 0);
        x.come(50, 0);
        x.come(50, 1);
        due("19: no slips", x.behind(), 0);
        x.slip(SONG, 90, 0);
        x.slip(SONG, 20, 1);
        x.set(6, 0, 8);
        due("19: one never sang", x.behind(), 1);
        x.slip(SONG, 20, 0);
        due("19: but sang another one", x.behind(), 0);
        x.set(6, 0, 1);
        due("19: nobody sang", x.behind(), 3);
    }

    private static void drawn() {
        WhoSingsNext x = new WhoSingsNext();
        due("20: none", x.drawn(1), 0);
        x.come(50, 0);
        x.slip(SLOW, 15, 0);
        x.slip(ALONG, 25, 0);
        x.slip(BOUGHT, 35, 0);
        for (int seed : new int[] {0, 1, 2, 3, 77, -1, Integer.MAX_VALUE, Integer.MIN_VALUE}) {
            due("20: drawn(" + seed + ")", x.drawn(seed), x.evening(rowOf(seed, 3), 0));
        }
    }

    private static int rowOf(int seed, int slips) {
        StringBuilder rest = new StringBuilder("1234567".substring(0, slips));
        int row = 0;
        int z = seed;
        while (rest.length() > 0) {
            z = z * 1103515245 + 12345;
            int at = (z >>> 9) % rest.length();
            row = row * 10 + rest.charAt(at) - '0';
            rest.deleteCharAt(at);
        }
        return row;
    }

    private static void chance() {
        WhoSingsNext x = houseBy("bears 99 - (minute = 6) * 198; takes 1; first 0;");
        due("21: nobody leaves of nobody", x.chance(0, 20, 0), 1);
        due("21: in lowest terms", x.chance(0, 20, 1), 1);
        x.come(6, 0);
        x.come(3, 1);
        x.slip(SONG, 60, 0);
        x.slip(SONG, 30, 1);
        // Row 21 loses nobody; row 12 loses both in minute 6.
        for (int seed : new int[] {0, 5, -3, Integer.MAX_VALUE - 1}) {
            for (int n = 1; n <= 20; n++) {
                int kind = 0;
                for (int i = 0; i < n; i++) {
                    kind += rowOf(seed + i, 2) == 21 ? 1 : 0;
                }
                long above = x.chance(seed, n, 0);
                long below = x.chance(seed, n, 1);
                due("21: chance(" + seed + ", " + n + ", ..)", above * n, below * kind);
                long common = 1;
                for (int d = 2; d <= 20; d++) {
                    common = above % d == 0 && below % d == 0 ? d : common;
                }
                due("21: in lowest terms, " + n, common, 1);
            }
        }
        Due.read(x, "bears -99; takes 1; first 0;");
        x.force(2);
        due("21: 0 above", x.chance(7, 12, 0), 0);
        due("21: 1 below", x.chance(7, 12, 1), 1);
        for (int[] c : new int[][] {{0, 0}, {21, 0}, {-1, 0}, {1, 2}, {1, -1}, {Integer.MAX_VALUE, 0}}) {
            due("21: chance(0, " + c[0] + ", " + c[1] + ")", x.chance(0, c[0], c[1]), WhoSingsNext.NO);
        }
    }

    private static void image() {
        WhoSingsNext x = new WhoSingsNext();
        due("22: empty", x.image(), 0);
        x.come(50, 0);
        x.slip(SONG, 10, 0);
        due("22: one", x.image(), 1);
        x.slip(SONG, 10, 0);
        due("22: the newer one holds", x.back(), 1);
        x.slip(SLOW, 10, 0);
        due("22: two", x.image(), 2);
        due("22: nothing is changed by it", x.count(1), 2);
        x.set(3, 1, 7);
        x.back();
        due("22: as then", x.told(1, 3), 1);
        due("22: kind as then", x.told(1, 5), SLOW);
    }

    private static void back() {
        WhoSingsNext x = new WhoSingsNext();
        due("23: there is none", x.back(), WhoSingsNext.STATE);
        x.come(5, 1);
        x.come(6, 2);
        x.slip(ROAD, 47, 0);
        x.set(5, 0, -3);
        x.set(6, 0, 33);
        x.image();
        due("23: a text", Due.read(x, "bears 0; takes 0; first 0;"), 1);
        int[][] changes = {{0, 0, 9}, {1, 0, 4}, {2, 0, 1}, {3, 0, 2}, {4, 0, 1}, {5, 0, 44}, {6, 0, 55}};
        for (int[] c : changes) {
            x.set(c[0], c[1], c[2]);
        }
        x.force(1);
        x.come(1, 1);
        x.slip(SONG, 10, 2);
        x.feed(97);
        x.sheet(0, 0, 0);
        due("23: back()", x.back(), 1);
        int[] answers = {5, 1, 7, 4, 0, ROAD};
        for (int i = 0; i < answers.length; i++) {
            due("23: told(0, " + i + ")", x.told(0, i), answers[i]);
        }
        int[] counts = {2, 1, 96, 33, 2, 1, 0};
        for (int i = 0; i < counts.length; i++) {
            due("23: count(" + i + ")", x.count(i), counts[i]);
        }
        due("23: sheets stay", x.judge(0), WhoSingsNext.NONE);
        due("23: those who came since are gone", x.told(2, 0), WhoSingsNext.BAD);
        due("23: and may come again", x.come(70, 7), 2);
        due("23: with a slip of another kind", x.slip(DARING, 99, 2), 1);
        due("23: which is that kind", x.told(1, 5), DARING);
        x.set(5, 0, 9);
        due("23: again", x.back(), 1);
        due("23: MOOD again", x.count(2), 96);
    }

    private static void count() {
        WhoSingsNext x = new WhoSingsNext();
        x.come(1, 1);
        x.come(1, 1);
        x.slip(SONG, 10, 0);
        x.set(5, 0, -99);
        x.set(6, 0, 7);
        Due.read(x, "bears 0; takes 0; first 0;");
        x.force(1);
        x.feed(1);
        x.feed(2);
        x.feed(3);
        int[] counts = {2, 1, 0, 7, 2, 3, 1};
        for (int i = 0; i < counts.length; i++) {
            due("24: count(" + i + ")", x.count(i), counts[i]);
        }
        due("24: count(7)", x.count(7), WhoSingsNext.BAD);
        due("24: count(-1)", x.count(-1), WhoSingsNext.BAD);
    }

    private static void sheet() {
        WhoSingsNext x = new WhoSingsNext();
        for (int sheet : WILD) {
            due("25: sheet(" + sheet + ", 0, 1)", x.sheet(sheet, 0, 1), WhoSingsNext.BAD);
        }
        due("25: sort 3", x.sheet(0, 3, 1), WhoSingsNext.BAD);
        due("25: sort -2", x.sheet(0, -2, 1), WhoSingsNext.BAD);
        due("25: 41", x.sheet(0, 0, 41), WhoSingsNext.BAD);
        due("25: -1", x.sheet(0, 0, -1), BELOW);
        due("25: BAD is ahead of -14", x.sheet(0, 3, -1), WhoSingsNext.BAD);
        due("25: still missing", x.judge(0), NOTHING);
        due("25: 40", x.sheet(0, 2, 40), 1);
        due("25: its last", x.cell(0, 39, 1), 1);
        due("25: 0", x.sheet(1, 1, 0), 1);
        due("25: refused", x.sheet(0, 1, -1), BELOW);
        due("25: stays as it was", x.cell(0, 39, 1), 1);
        x.cell(0, 0, 5);
        due("25: anew", x.sheet(0, 2, 1), 1);
        due("25: all 0", x.which(0), 0);
        x.come(1, 1);
        x.slip(SONG, 10, 0);
        due("25: which is told by the first slip", x.judge(0), WhoSingsNext.NONE);
        due("25: missing, whatever n", x.sheet(0, -1, 1000), 1);
        due("25: is missing", x.judge(0), NOTHING);
        due("25: missing again, n below 0", x.sheet(0, -1, -1), 1);
    }

    private static void cell() {
        WhoSingsNext x = new WhoSingsNext();
        for (int sheet : WILD) {
            due("26: cell(" + sheet + ", 0, 1)", x.cell(sheet, 0, 1), WhoSingsNext.BAD);
        }
        due("26: missing", x.cell(0, 0, 0), NOTHING);
        x.come(1, 1);
        x.slip(SONG, 10, 0);
        int[] wide = {256, 65536, 0};
        for (int sort = 0; sort < 3; sort++) {
            x.sheet(0, sort, 1);
            due("26: cell(0, 0, ..)", x.cell(0, 0, wide[sort]), 1);
            due("26: is 0", x.judge(0), WhoSingsNext.NONE);
            due("26: cell(0, 0, ..)", x.cell(0, 0, wide[sort] + 1), 1);
            due("26: is 1", x.judge(0), 0);
        }
        x.sheet(0, 1, 1);
        x.cell(0, 0, 256);
        due("26: shorts have 16 bits", x.judge(0), 0);
        x.sheet(0, 2, 1);
        x.cell(0, 0, 65536);
        due("26: ints have 32", x.judge(0), 0);
        due("26: place 1", x.cell(0, 1, 0), OUTSIDE);
        due("26: place -1", x.cell(0, -1, 0), OUTSIDE);
        due("26: a far place", x.cell(0, Integer.MAX_VALUE, 0), OUTSIDE);
        x.sheet(0, 2, 0);
        due("26: no place", x.cell(0, 0, 0), OUTSIDE);
    }

    private static void copy() {
        WhoSingsNext x = new WhoSingsNext();
        for (int sheet : WILD) {
            due("27: from " + sheet, x.copy(sheet, 0, 0, 0, 0), WhoSingsNext.BAD);
            due("27: to " + sheet, x.copy(0, 0, sheet, 0, 0), WhoSingsNext.BAD);
        }
        due("27: both missing", x.copy(0, 0, 1, 0, 0), NOTHING);
        x.sheet(0, 0, 4);
        due("27: other missing", x.copy(0, 0, 1, 0, 0), NOTHING);
        due("27: first missing", x.copy(1, 0, 0, 0, 0), NOTHING);
        x.sheet(1, 1, 4);
        due("27: unlike", x.copy(0, 0, 1, 0, 1), OTHER);
        due("27: unlike is ahead of outside", x.copy(0, 9, 1, 0, -1), OTHER);
        x.sheet(1, 0, 3);
        due("27: n below 0", x.copy(0, 0, 1, 0, -1), OUTSIDE);
        due("27: n too many", x.copy(0, 0, 1, 0, 4), OUTSIDE);
        due("27: i too far", x.copy(0, 2, 1, 0, 3), OUTSIDE);
        due("27: j too far", x.copy(0, 0, 1, 2, 2), OUTSIDE);
        due("27: i below 0", x.copy(0, -1, 1, 0, 1), OUTSIDE);
        due("27: j below 0", x.copy(0, 0, 1, -1, 1), OUTSIDE);
        due("27: i far", x.copy(0, Integer.MAX_VALUE, 1, 0, 3), OUTSIDE);
        due("27: n far", x.copy(0, 1, 1, 1, Integer.MAX_VALUE), OUTSIDE);
        due("27: n least", x.copy(0, 0, 1, 0, Integer.MIN_VALUE), OUTSIDE);
        due("27: none, at the end", x.copy(0, 4, 1, 3, 0), 0);
        due("27: none, beyond the end", x.copy(0, 5, 1, 3, 0), OUTSIDE);
        x.come(50, 0);
        for (int i = 0; i < 4; i++) {
            x.slip(SONG, 10, 0);
            x.cell(0, i, i);
        }
        due("27: three", x.copy(0, 0, 1, 0, 3), 3);
        due("27: came", x.judge(1), WhoSingsNext.NONE);
        // 0 1 2 3 moved over itself, forth and back: 0 0 1 2, then 0 1 2 2.
        due("27: within one, forth", x.copy(0, 0, 0, 1, 3), 3);
        due("27: 0 0 1 2", x.judge(0), 1);
        due("27: within one, back", x.copy(0, 1, 0, 0, 3), 3);
        due("27: 0 1 2 2", x.judge(0), 3);
    }

    private static void slips() {
        WhoSingsNext x = new WhoSingsNext();
        for (int sheet : WILD) {
            due("28: slips(" + sheet + ", 0, 0, 0)", x.slips(sheet, 0, 0, 0), WhoSingsNext.BAD);
        }
        for (int sort : new int[] {-1, 3}) {
            due("28: sort " + sort, x.slips(0, sort, 0, 0), WhoSingsNext.BAD);
        }
        for (int n : new int[] {-1, 8}) {
            due("28: n " + n, x.slips(0, 0, 0, n), WhoSingsNext.BAD);
        }
        due("28: missing", x.slips(0, 0, 0, 1), NOTHING);
        due("28: missing, none asked", x.slips(0, 2, 99, 0), NOTHING);
        x.sheet(0, 1, 8);
        due("28: of another sort", x.slips(0, 2, 0, 1), OTHER);
        due("28: of another sort, none asked", x.slips(0, 0, 99, 0), OTHER);
        due("28: none", x.slips(0, 1, 99, 0), 0);
        x.come(9, 0);
        x.image();
        x.cell(0, 1, 10);
        due("28: slip 0 comes, too", x.slips(0, 1, 0, 1), 1);
        x.back();
        int[] row = {99, DARING, 57, 0, ROAD, 16, 0, BOUGHT};
        for (int i = 0; i < row.length; i++) {
            x.cell(0, i, row[i]);
        }
        due("28: outside at the third, two came", x.slips(0, 1, 1, 3), OUTSIDE);
        due("28: what stood ahead came", x.count(1), 2);
        int[] second = {6, 1, 0, ROAD};
        for (int what = 2; what < 6; what++) {
            due("28: told(1, " + what + ")", x.told(1, what), second[what - 2]);
        }
        due("28: one is left out, the other came", x.slips(0, 1, 1, 1), 1);
        x.cell(0, 4, 6);
        due("28: one of two", x.slips(0, 1, 1, 2), 1);
        due("28: four", x.count(1), 4);
        for (int from : new int[] {-1, -3, 6, 8, Integer.MAX_VALUE, Integer.MIN_VALUE}) {
            due("28: from " + from, x.slips(0, 1, from, 1), OUTSIDE);
        }
        due("28: the last three", x.slips(0, 1, 5, 1), 0);
        x.sheet(1, 0, 21);
        for (int k = 0; k < 7; k++) {
            x.cell(1, 3 * k + 1, 10);
        }
        due("28: as many as have room", x.slips(1, 0, 0, 7), 3);
        due("28: seven", x.count(1), 7);
        due("28: none has room", x.slips(1, 0, 0, 7), 0);
    }

    private static void taken() {
        WhoSingsNext x = new WhoSingsNext();
        x.come(9, 0);
        int[] number = {3, 4, 5, 6, 7, 8};
        for (int kind = 0; kind < 6; kind++) {
            x.slip(kind, 10 + number[kind], 0);
        }
        String[] under = {"0", "01", "02", "013", "024", "025"};
        for (int kind = 0; kind < 6; kind++) {
            for (int k = 0; k < 6; k++) {
                boolean is = under[kind].indexOf('0' + k) >= 0;
                due("29: kind " + kind + " for one of " + k, x.taken(kind, k), is ? number[kind] : OTHER);
            }
        }
        due("29: k 6", x.taken(0, 6), WhoSingsNext.BAD);
        due("29: k -1", x.taken(0, -1), WhoSingsNext.BAD);
        due("29: no such slip", x.taken(6, 0), NOTHING);
        due("29: slip -1", x.taken(-1, 0), NOTHING);
        due("29: BAD is ahead of -11", x.taken(6, 6), WhoSingsNext.BAD);
    }
}

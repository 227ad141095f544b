/** The edges of evenings: TILL, MOOD at its bounds, who stays just so long, like ones, rows of none and of seven. */
public final class EveningEdgesTest {
    private static final int SONG = 0, SLOW = 1, ALONG = 2, ROAD = 3, DARING = 4, BOUGHT = 5;
    private static final int NONE = WhoSingsNext.NONE;
    private static final int LEAST = Integer.MIN_VALUE, MOST = Integer.MAX_VALUE;
    private static final Due DUE = new Due();

    public static void main(String[] args) {
        movesOfEachKind();
        moodAheadOfTheSong();
        moodAtItsBounds();
        thirstOfEachKind();
        thirstOfThoseWhoAreThere();
        untilTill();
        beyondTillNothingIs();
        justSoLong();
        whoLeavesAtOnce();
        groupsSingTogether();
        whoHasLeft();
        allLeave();
        theGroupAsItIsThen();
        eveningOfNone();
        eveningOfSeven();
        eveningsBeginAnew();
        holdAtTheBounds();
        bestOfNone();
        bestOfSeven();
        bestOfLikeRows();
        bestByFewest();
        bestByWhatWasSung();
        bestOfEachGroup();
        bestByFewestWhateverMoodIs();
        deskOfNone();
        deskPassesOver();
        deskOfLikeOnes();
        deskByJustSoMuchWaited();
        waitOfEach();
        DUE.end("EveningEdgesTest");
    }

    private static void due(String call, long got, long want) {
        DUE.due(call, got, want);
    }

    private static WhoSingsNext houseBy(String text) {
        WhoSingsNext x = new WhoSingsNext();
        due(text, Due.read(x, text), 1);
        x.force(1);
        return x;
    }

    /** As many as so, of one group that never leaves. */
    private static WhoSingsNext houseOf(int people, String takes) {
        WhoSingsNext x = houseBy("bears 99;takes " + takes + ";first 0;");
        for (int p = 0; p < people; p++) {
            x.come(99, 0);
        }
        return x;
    }

    private static void movesOfEachKind() {
        WhoSingsNext x = houseOf(1, "0");
        for (int kind = 0; kind < 6; kind++) {
            x.slip(kind, 10, 0);
        }
        for (int number = 0; number <= 9; number++) {
            int half = (number + 1) / 2;
            int[] at0 = {1, 1 - number, 1 + number, 1 - number, 1 + number, half};
            int[] below0 = {1, 1 - number, 1 + number, 0, 2 + 2 * number, half};
            for (int kind = 0; kind < 6; kind++) {
                x.set(2, kind, number);
                for (int mood : new int[] {0, 1, 50}) {
                    x.set(5, 0, mood);
                    due("1: MOVES of KIND " + kind + ", NUMBER " + number, x.evening(kind + 1, 3), mood + at0[kind]);
                }
                for (int mood : new int[] {-1, -2, -50}) {
                    x.set(5, 0, mood);
                    due("1: MOVES of KIND " + kind + ", NUMBER " + number, x.evening(kind + 1, 3), mood + below0[kind]);
                }
            }
        }
    }

    /** m is MOOD ahead of it, not as it was when the evening began. */
    private static void moodAheadOfTheSong() {
        WhoSingsNext x = houseOf(1, "0");
        x.slip(SONG, 10, 0);
        x.slip(ROAD, 15, 0);
        x.slip(DARING, 13, 0);
        x.set(5, 0, -1);
        due("1: ROAD at -1", x.evening(2, 3), -1);
        due("1: ROAD behind a SONG, at 0", x.evening(12, 3), -4);
        due("1: ROAD ahead of a SONG", x.evening(21, 3), 0);
        due("1: DARING at -1", x.evening(3, 3), 7);
        due("1: DARING behind a SONG, at 0", x.evening(13, 3), 4);
        due("1: DARING behind SONG and ROAD, at -4", x.evening(123, 3), 4);
        due("1: ROAD behind DARING, at 7", x.evening(32, 3), 3);
    }

    private static void moodAtItsBounds() {
        WhoSingsNext x = houseOf(1, "(mood=99)*9");
        x.slip(SONG, 10, 0);
        x.slip(ALONG, 19, 0);
        x.slip(SLOW, 12, 0);
        x.slip(SLOW, 19, 0);
        x.slip(DARING, 19, 0);
        int[][] cases = {{98, 1, 99}, {99, 1, 99}, {89, 2, 99}, {90, 2, 99}, {88, 2, 98}, {99, 2, 99}, {-98, 3, -99},
            {-99, 3, -99}, {-97, 3, -98}, {-91, 4, -99}, {-92, 4, -99}, {-90, 4, -98}, {-99, 4, -99}, {-99, 5, -79},
            {99, 5, 99}, {99, 4, 91}, {-99, 1, -98}, {98, 13, 98}, {99, 13, 98}, {-99, 31, -98}};
        for (int[] c : cases) {
            x.set(5, 0, c[0]);
            due("1: MOOD " + c[0] + ", row " + c[1], x.evening(c[1], 3), c[2]);
        }
        x.set(5, 0, 95);
        due("1: takes sees the bound", x.evening(2, 0), 9);
        x.set(5, 0, 88);
        due("1: and what is below it", x.evening(2, 0), 0);
    }

    private static void thirstOfEachKind() {
        for (int n = 1; n <= 8; n++) {
            WhoSingsNext x = houseOf(n, "1");
            for (int kind = 0; kind < 6; kind++) {
                x.slip(kind, 10, n - 1);
            }
            for (int number : new int[] {0, 1, 8, 9}) {
                int[] drinks = {n, n / 2, n, n / 2 + number, n + 1, n + 3};
                for (int kind = 0; kind < 6; kind++) {
                    x.set(2, kind, number);
                    due("1: THIRST of KIND " + kind + ", " + n + " there", x.evening(kind + 1, 0), drinks[kind]);
                }
            }
        }
        WhoSingsNext x = houseOf(8, "99");
        x.slip(BOUGHT, 10, 0);
        x.slip(ROAD, 19, 0);
        due("2: THIRST times takes", x.evening(1, 0), 11 * 99);
        due("2: of ROAD", x.evening(2, 0), 13 * 99);
    }

    private static void thirstOfThoseWhoAreThere() {
        WhoSingsNext x = houseBy("bears 0;takes 1;first 0;");
        x.come(99, 0);
        x.come(1, 1);
        x.come(1, 2);
        x.come(3, 3);
        for (int s = 0; s < 4; s++) {
            x.slip(SONG, 10, 0);
        }
        due("2: four", x.evening(1, 0), 4);
        due("2: those who leave by it still drink", x.evening(12, 0), 8);
        due("2: but not from then on", x.evening(123, 0), 10);
        due("2: four, four, two, two", x.evening(1234, 0), 12);
        due("2: LEFT", x.evening(1234, 1), 3);
    }

    private static void untilTill() {
        for (int till : new int[] {1, 9, 10, 18, 98, 99}) {
            WhoSingsNext x = houseOf(1, "1");
            x.set(6, 0, till);
            for (int s = 0; s < 7; s++) {
                x.slip(SONG, 90, 0);
            }
            due("2: of 9 minutes till " + till, x.evening(1234567, 2), Math.min(7, till / 9));
            due("2: the minute then", x.evening(1234567, 4), Math.min(7, till / 9) * 9);
            due("2: by THE DESK, too", x.desk(4), Math.min(7, till / 9) * 9);
            due("2: WAIT of the last", x.wait(6), till >= 63 ? 54 : NONE);
        }
        WhoSingsNext x = houseOf(1, "1");
        x.slip(SONG, 50, 0);
        for (int till = 1; till <= 9; till++) {
            x.set(6, 0, till);
            due("2: of 5 minutes till " + till, x.evening(1, 2), till >= 5 ? 1 : 0);
        }
    }

    private static void beyondTillNothingIs() {
        WhoSingsNext x = houseBy("bears 0;takes 1;first sung;");
        x.come(9, 0);
        x.come(3, 1);
        x.slip(SONG, 30, 0);
        x.slip(DARING, 49, 1);
        x.slip(SONG, 10, 0);
        x.set(6, 0, 6);
        int[] one = {2, 0, 1, 1, 3, 3};
        for (int what = 0; what < 6; what++) {
            due("2: the second isn't SUNG, what " + what, x.evening(12, what), one[what]);
            due("2: nor is it at the beginning, what " + what, x.evening(132, what) - x.evening(13, what), 0);
        }
        due("2: its GROUP didn't sing by it", x.evening(123, 1), 1);
        due("2: what is shorter still is", x.evening(123, 4), 4);
        x.set(6, 0, 7);
        due("2: now it is", x.evening(12, 2), 2);
        due("2: and its GROUP did", x.evening(12, 1), 0);
    }

    /** waited is no longer than PATIENCE and bears: stays; a minute more: leaves. */
    private static void justSoLong() {
        for (int bears : new int[] {-3, 0, 4}) {
            for (int patience = 0; patience <= 9; patience++) {
                WhoSingsNext x = houseBy("bears " + bears + ";takes 0;first 0;");
                x.come(99, 0);
                x.come(patience, 1);
                x.slip(SONG, 50, 0);
                due("2: waited 5, PATIENCE " + patience + ", bears " + bears, x.evening(1, 1),
                    5 > patience + bears ? 1 : 0);
            }
        }
        WhoSingsNext x = houseBy("bears 0;takes 0;first 0;");
        x.come(0, 0);
        x.slip(SONG, 90, 0);
        due("2: who sings has waited 0", x.evening(1, 5), 1);
        x = houseBy("bears -1;takes 0;first 0;");
        x.come(0, 0);
        x.come(1, 0);
        x.slip(SONG, 90, 0);
        due("2: 0 is longer than -1", x.evening(1, 5), 2);
        due("2: and SUNG it is", x.evening(1, 2), 1);
    }

    private static void whoLeavesAtOnce() {
        WhoSingsNext x = houseBy("bears bar;takes 1;first 0;");
        x.come(99, 0);
        for (int p = 1; p < 8; p++) {
            x.come(0, p);
        }
        x.slip(SONG, 90, 0);
        due("2: bears sees what was taken by then, 8", x.evening(1, 1), 7);
        x.set(3, 0, 8);
        due("2: waited 8", x.evening(1, 1), 0);
        x = houseBy("bears mood;takes 0;first 0;");
        x.come(99, 0);
        x.come(0, 1);
        x.slip(ALONG, 54, 0);
        due("2: bears sees MOOD as it is then, 5", x.evening(1, 1), 0);
        x.set(5, 0, -1);
        due("2: and 4", x.evening(1, 1), 1);
        x = houseBy("bears minute-1;takes 0;first 0;");
        x.come(99, 0);
        x.come(1, 1);
        x.slip(SONG, 50, 0);
        due("2: bears sees the minute then, 5", x.evening(1, 1), 0);
        x.set(0, 1, 0);
        due("2: no longer", x.evening(1, 1), 1);
    }

    private static void groupsSingTogether() {
        WhoSingsNext x = houseBy("bears 0;takes 0;first 0;");
        x.come(5, 7);
        x.come(0, 7);
        x.come(4, 6);
        x.slip(SONG, 50, 0);
        x.slip(SONG, 50, 1);
        x.slip(SONG, 40, 2);
        due("1: one of the GROUP sang, so none of it has waited", x.evening(1, 5), 3);
        due("1: the other one of it sings", x.evening(12, 5), 3);
        due("1: 4 minutes since it sang, PATIENCE 0 leaves", x.evening(3, 5), 5);
        due("1: since the beginning, not since another sang", x.evening(31, 5), 1);
        x.set(0, 2, 5);
        due("1: since it last sang", x.evening(31, 5), 5);
        x.set(0, 2, 10);
        due("1: since it last sang, not since it first did", x.evening(132, 5), 5);
    }

    private static void whoHasLeft() {
        WhoSingsNext x = houseBy("bears 0;takes 1;first 0;");
        x.come(99, 0);
        x.come(0, 1);
        x.come(50, 1);
        x.slip(SONG, 10, 0);
        x.slip(SONG, 20, 1);
        x.slip(SONG, 30, 2);
        due("2: one has left", x.evening(1, 5), 5);
        due("2: its SLIP isn't SUNG", x.evening(12, 2), 1);
        due("2: nothing is by it", x.evening(12, 4), 1);
        due("2: the other one of its GROUP sings", x.evening(123, 2), 2);
        due("2: who has left doesn't come back by that", x.evening(123, 5), 5);
        due("2: who has left, left once", x.evening(13, 1), 1);
        due("2: nor would another day", x.evening(21, 5), 5);
    }

    private static void allLeave() {
        WhoSingsNext x = houseBy("bears -1;takes 1;first 0;");
        for (int p = 0; p < 8; p++) {
            x.come(0, p);
        }
        for (int s = 0; s < 7; s++) {
            x.slip(SONG, 10, s);
        }
        int[] then = {8, 8, 1, 1, 1, 0};
        for (int what = 0; what < 6; what++) {
            due("2: all eight leave by the first, what " + what, x.evening(1234567, what), then[what]);
            due("2: by THE DESK, too, what " + what, x.desk(what), then[what]);
        }
        due("2: THE DESK calls one", x.desk(6), 1);
        due("2: all but one are LEFT BEHIND", x.behind(), 126);
        due("2: most is taken by the first", x.best(0, 3), 1);
        due("2: fewest leave by none", x.best(1, 3), 0);
    }

    /** sung is how many of its own GROUP were SUNG by then. */
    private static void theGroupAsItIsThen() {
        WhoSingsNext x = houseBy("bears sung*9;takes 0;first 0;");
        x.come(99, 0);
        x.come(0, 1);
        x.come(0, 2);
        x.slip(SONG, 90, 0);
        x.slip(SONG, 10, 1);
        x.slip(SONG, 90, 1);
        x.set(6, 0, 60);
        due("1: none of it was SUNG", x.evening(1, 5), 1);
        due("1: one of it was SUNG", x.evening(21, 5), 3);
        due("1: two of it", x.evening(231, 5), 3);
        x.set(3, 0, 8);
        due("1: one, waited 8", x.evening(21, 5), 3);
    }

    private static void eveningOfNone() {
        WhoSingsNext x = houseOf(3, "5");
        x.slip(SONG, 10, 0);
        x.set(5, 0, -7);
        int[] then = {0, 0, 0, -7, 0, 7};
        for (int what = 0; what < 6; what++) {
            due("9: of none, what " + what, x.evening(0, what), then[what]);
        }
        WhoSingsNext y = new WhoSingsNext();
        for (int what = 0; what < 6; what++) {
            due("9: of a new one, what " + what, y.evening(0, what), 0);
        }
    }

    private static void eveningOfSeven() {
        WhoSingsNext x = houseOf(1, "minute");
        for (int s = 0; s < 7; s++) {
            x.slip(SONG, 10 * (s + 1), 0);
        }
        due("9: forth", x.evening(1234567, 0), 1 + 3 + 6 + 10 + 15 + 21 + 28);
        due("9: back", x.evening(7654321, 0), 7 + 13 + 18 + 22 + 25 + 27 + 28);
        due("9: the highest digit is the first", x.evening(71, 0), 7 + 8);
        due("9: the lowest is the last", x.evening(17, 0), 1 + 8);
        due("9: seven", x.evening(7654321, 2), 7);
        due("9: the last alone", x.evening(7, 4), 7);
    }

    private static void eveningsBeginAnew() {
        WhoSingsNext x = houseBy("bears 0;takes minute+mood;first 0;");
        x.come(5, 0);
        x.come(2, 1);
        x.slip(SONG, 30, 0);
        int[] then = {8, 1, 1, 1, 3, 1};
        for (int round = 0; round < 2; round++) {
            for (int what = 0; what < 6; what++) {
                due("2: each begins anew, what " + what, x.evening(1, what), then[what]);
            }
            due("2: another one between", x.evening(0, 5), 3);
        }
        due("12: truly", x.hold(1), 8);
        due("12: but those who left are there again", x.evening(0, 5), 3);
        due("12: minute 0 again", x.evening(0, 4), 0);
        due("12: MOOD as it was then", x.evening(0, 3), 1);
        due("12: so that more is taken", x.hold(1), 10);
        due("12: PATIENCE stays", x.told(1, 0), 2);
    }

    private static void holdAtTheBounds() {
        WhoSingsNext x = houseOf(1, "0");
        x.slip(ALONG, 19, 0);
        x.slip(SLOW, 19, 0);
        x.set(5, 0, 95);
        due("12: held", x.hold(1), 0);
        due("12: MOOD 99", x.count(2), 198);
        x.hold(2);
        due("12: MOOD 91", x.count(2), 190);
        x.set(5, 0, -95);
        x.hold(2);
        due("12: MOOD -99", x.count(2), 0);
        x.hold(0);
        due("12: of none MOOD stays", x.count(2), 0);
        x.set(6, 0, 1);
        x.hold(12);
        due("12: one is SUNG", x.count(2), 10);
    }

    private static void bestOfNone() {
        WhoSingsNext x = new WhoSingsNext();
        for (int round = 0; round < 2; round++) {
            for (int what = 0; what < 4; what++) {
                due("10: no SLIP, best(0, " + what + ")", x.best(0, what), 0);
                due("10: no SLIP, best(1, " + what + ")", x.best(1, what), 0);
            }
            x.come(0, 0);
        }
        x.slip(SLOW, 10, 0);
        due("10: nothing is taken by half of one or two, so none", x.best(0, 3), 1);
        x.set(5, 0, -9);
        due("10: by MOOD nothing, so none", x.best(0, 3), 0);
        due("10: SUNG of none", x.best(0, 2), 0);
        due("10: but fewest leave and most are SUNG by it", x.best(1, 3), 1);
    }

    private static void bestOfSeven() {
        WhoSingsNext x = houseOf(1, "minute");
        for (int s = 0; s < 7; s++) {
            x.slip(SONG, 10 * (s + 1), 0);
        }
        due("10: the longest first", x.best(0, 3), 7654321);
        due("10: TAKEN", x.best(0, 0), 7 + 13 + 18 + 22 + 25 + 27 + 28);
        due("10: LEFT", x.best(0, 1), 0);
        due("10: SUNG", x.best(0, 2), 7);
        due("10: nobody leaves by any, so the first", x.best(1, 3), 1234567);
        due("10: its TAKEN", x.best(1, 0), 84);
        due("10: its LEFT", x.best(1, 1), 0);
        due("10: its SUNG", x.best(1, 2), 7);
    }

    private static void bestOfLikeRows() {
        WhoSingsNext x = houseOf(1, "sort");
        x.slip(SONG, 10, 0);
        x.slip(ALONG, 10, 0);
        x.slip(SONG, 10, 0);
        due("10: a row is ahead of those that go on so, but 12 is ahead of 2", x.best(0, 3), 12);
        due("10: what is taken by 2 alone", x.evening(2, 0), x.best(0, 0));
        x = houseOf(1, "sort");
        x.slip(ALONG, 10, 0);
        x.slip(SONG, 10, 0);
        due("10: 1 is ahead of 12", x.best(0, 3), 1);
        due("10: SUNG 1", x.best(0, 2), 1);
        x = houseOf(1, "1");
        x.slip(SONG, 10, 0);
        x.slip(SONG, 10, 0);
        due("10: 12 and 21 are alike", x.best(0, 3), 12);
        x.set(6, 0, 1);
        due("10: 1 and 2 and both are alike", x.best(0, 3), 1);
        due("10: by fewest, too", x.best(1, 3), 1);
    }

    private static void bestByFewest() {
        WhoSingsNext x = houseBy("bears 0;takes 1;first 0;");
        x.come(9, 0);
        x.come(1, 1);
        x.slip(SONG, 90, 0);
        x.slip(SONG, 10, 0);
        x.slip(SONG, 10, 1);
        due("10: LEFT is ahead of SUNG", x.best(1, 3), 23);
        due("10: LEFT 0", x.best(1, 1), 0);
        due("10: SUNG 2", x.best(1, 2), 2);
        due("10: TAKEN of these", x.best(1, 0), 4);
        due("10: most is taken by all, one leaves", x.best(0, 1), 1);
        due("10: TAKEN of all", x.best(0, 0), 6);
        due("10: SUNG of all", x.best(0, 2), 3);
        due("10: the first that is like", x.best(0, 3), 231);
        x.set(0, 1, 0);
        due("10: one leaves by each but its own", x.best(1, 3), 3);
    }

    /** Each row of all is an EVENING of its own: who sang when, and how often, is of that row alone. */
    private static void bestByWhatWasSung() {
        WhoSingsNext x = houseBy("bears sung*5;takes 1;first 0;");
        x.come(99, 0);
        x.come(0, 1);
        x.slip(SONG, 50, 0);
        x.slip(SONG, 10, 1);
        x.slip(SONG, 10, 1);
        due("10: once sung it bears 5", x.best(1, 3), 213);
        due("10: nobody leaves", x.best(1, 1), 0);
        due("10: all are SUNG", x.best(1, 2), 3);
        x.set(3, 0, 9);
        due("10: twice sung it bears 10", x.best(1, 3), 231);
        x.set(3, 1, 9);
        x.set(3, 2, 9);
        x.set(6, 0, 26);
        due("10: there is no room for the one that is borne", x.best(1, 3), 23);
        x = houseBy("bears 10-sung*9;takes 1;first 0;");
        x.come(0, 0);
        x.come(0, 1);
        x.slip(SONG, 10, 0);
        x.slip(SONG, 10, 0);
        x.slip(SONG, 10, 1);
        due("10: nobody sings twice", x.best(1, 3), 13);
    }

    private static void bestOfEachGroup() {
        for (int group = 0; group < 8; group++) {
            WhoSingsNext x = houseBy("bears sung*9;takes 1;first 0;");
            x.come(4, group);
            x.come(99, (group + 1) % 8);
            x.slip(SONG, 90, 1);
            x.slip(SONG, 10, 0);
            due("10: GROUP " + group + " bears 9 more by its song", x.best(1, 3), 21);
            x = houseBy("bears 0;takes 1;first 0;");
            x.come(4, group);
            x.come(99, (group + 7) % 8);
            x.slip(SONG, 40, 1);
            x.slip(SONG, 40, 1);
            x.slip(SONG, 10, 0);
            due("10: GROUP " + group + " sings between the others", x.best(1, 3), 132);
            due("10: all are SUNG", x.best(1, 2), 3);
        }
    }

    /** By fewest, MOOD is nothing. */
    private static void bestByFewestWhateverMoodIs() {
        for (int mood : new int[] {-99, -1, 0, 1, 99}) {
            WhoSingsNext x = houseBy("bears 0;takes 1;first 0;");
            x.come(99, 0);
            x.come(1, 1);
            x.slip(ALONG, 11, 0);
            x.slip(SLOW, 23, 0);
            x.slip(SONG, 10, 1);
            x.set(5, 0, mood);
            due("10: MOOD " + mood + ", the row", x.best(1, 3), 13);
            due("10: MOOD " + mood + ", LEFT", x.best(1, 1), 0);
            due("10: MOOD " + mood + ", SUNG", x.best(1, 2), 2);
        }
    }

    private static void deskOfNone() {
        WhoSingsNext x = new WhoSingsNext();
        for (int what = 0; what < 7; what++) {
            due("11: nobody, what " + what, x.desk(what), 0);
        }
        x.come(9, 0);
        x.come(9, 0);
        x.set(5, 0, 5);
        int[] then = {0, 0, 0, 5, 0, 3, 0};
        for (int what = 0; what < 7; what++) {
            due("11: no SLIP, what " + what, x.desk(what), then[what]);
        }
        x.slip(SONG, 20, 0);
        x.set(6, 0, 1);
        for (int what = 0; what < 7; what++) {
            due("11: none that would be SUNG, what " + what, x.desk(what), then[what]);
        }
    }

    private static void deskPassesOver() {
        WhoSingsNext x = houseBy("bears 0;takes 1;first sort;");
        x.come(99, 0);
        x.come(3, 1);
        x.slip(SONG, 20, 0);
        x.slip(BOUGHT, 90, 0);
        x.slip(DARING, 40, 0);
        x.slip(ROAD, 10, 1);
        x.set(6, 0, 6);
        due("11: too long at the beginning", x.wait(1), NONE);
        due("11: whose one has left", x.wait(3), NONE);
        due("11: the others", x.desk(6), 31);
        x.set(0, 1, 4);
        due("11: one who stays, but then it is too late for the first", x.desk(6), 34);
        x.set(6, 0, 7);
        due("11: just in time for all three", x.desk(6), 341);
        due("11: the minute then", x.desk(4), 7);
    }

    private static void deskOfLikeOnes() {
        WhoSingsNext x = houseOf(2, "1");
        for (int s = 0; s < 7; s++) {
            x.slip(s % 6, 10, s % 2);
        }
        due("11: of like ones the first", x.desk(6), 1234567);
        x = houseBy("bears 99;takes 1;first (minute=0)*(sort=1)+(minute=1)*(sort=2);");
        x.come(99, 0);
        for (int kind = 0; kind < 3; kind++) {
            x.slip(kind, 10, 0);
        }
        due("11: first is asked again each time", x.desk(6), 231);
        x = houseBy("bears 99;takes 1;first waited*10-sung;");
        x.come(99, 0);
        x.come(99, 1);
        x.slip(SONG, 10, 0);
        x.slip(SONG, 10, 0);
        x.slip(SONG, 10, 1);
        due("11: waited since its GROUP sang", x.desk(6), 132);
    }

    /** waited of first is minutes, not only more or fewer than another's. */
    private static void deskByJustSoMuchWaited() {
        WhoSingsNext x = houseBy("bears 99;takes 3;first (waited=3)*sort-(waited=0)*(minute=3)*99;");
        x.come(99, 0);
        x.come(99, 1);
        x.slip(SONG, 30, 0);
        x.slip(SONG, 10, 1);
        x.slip(ALONG, 10, 1);
        x.slip(SLOW, 10, 0);
        due("1: since the beginning, 3 minutes", x.desk(6), 1324);
        x.set(3, 0, 2);
        due("1: 2 minutes, then 0 at minute 3", x.desk(6), 1243);
        x.set(5, 0, 2);
        due("1: whatever MOOD is", x.desk(6), 1243);
        x.set(3, 0, 3);
        x.set(4, 1, 0);
        due("1: 0 minutes since it sang", x.desk(6), 1324);
    }

    private static void waitOfEach() {
        WhoSingsNext x = houseOf(1, "0");
        x.slip(SONG, 20, 0);
        x.slip(SONG, 90, 0);
        x.slip(SONG, 10, 0);
        x.set(6, 0, 3);
        due("13: the minute 0", x.wait(0), 0);
        due("13: isn't SUNG", x.wait(1), NONE);
        due("13: begins when the one ahead ends", x.wait(2), 2);
        x.set(6, 0, 12);
        due("13: of all of them", x.wait(2), 11);
        x.set(3, 0, 9);
        x.set(6, 0, 99);
        due("13: the last", x.wait(2), 18);
        due("13: the second", x.wait(1), 9);
    }
}

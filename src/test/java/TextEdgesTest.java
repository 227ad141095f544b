import java.util.ArrayList;
import java.util.List;

/** The edges of the tape, its tokens, its faults, of what is open, and of an E's 32 bits. */
public final class TextEdgesTest {
    private static final List<String> TOKENS = List.of("bears", "takes", "first", "or", "and", "not", "minute", "waited",
        "sung", "sort", "bar", "mood", "7", "(", ")", ";", "+", "-", "*", "<", "=");
    private static final String ONE = "minute waited sung sort bar mood 7 ( -", E = ONE + " not";
    private static final String SUM_GOES_ON = "+ - *", NOT_GOES_ON = "< = " + SUM_GOES_ON + " or and";
    private static final String COMPARED_GOES_ON = SUM_GOES_ON + " or and";
    private static final String REST = ";takes 2;first 3;";
    private static final Due DUE = new Due();

    public static void main(String[] args) {
        bytesOfTheTape();
        fullTape();
        emptyTape();
        whatMayStand();
        endsTooEarly();
        everyByte();
        everyByteBetweenTokens();
        numbers();
        words();
        theFirstFault();
        fiveAreOpen();
        closedAgain();
        sixTexts();
        tapeAfterAFault();
        wrapping();
        truth();
        boundOfTakes();
        boundOfBears();
        anyFirst();
        namesWhereTheyAreNothing();
        DUE.end("TextEdgesTest");
    }

    private static void due(String call, long got, long want) {
        DUE.due(call, got, want);
    }

    private static void read(String text, int want) {
        due("7: text() of " + text, Due.read(new WhoSingsNext(), text), want);
    }

    private static void faultAt(String text, int place) {
        read(text, -100 - place);
    }

    private static void bytesOfTheTape() {
        WhoSingsNext x = new WhoSingsNext();
        due("6: byte -1", x.feed(-1), WhoSingsNext.BAD);
        due("6: byte 0", x.feed(0), 1);
        due("6: byte 255", x.feed(255), 2);
        due("6: byte 256", x.feed(256), WhoSingsNext.BAD);
        due("6: two came", x.count(5), 2);
        due("6: the next one is the third", x.feed(128), 3);
    }

    private static void fullTape() {
        WhoSingsNext x = new WhoSingsNext();
        String text = "bears 1" + REST;
        Houses.feed(x, text + " ".repeat(159 - text.length()));
        due("6: 159", x.count(5), 159);
        due("6: the last one", x.feed('\n'), 160);
        due("6: no more", x.feed(';'), WhoSingsNext.FULL);
        due("6: nor then", x.feed(' '), WhoSingsNext.FULL);
        due("7: a text of 160 bytes", x.text(), 1);
        due("6: the first one of an empty tape", x.feed('b'), 1);
        String early = "bears 1;takes 2;first 3";
        faultAt(early + " ".repeat(160 - early.length()), 160);
        faultAt(" ".repeat(160), 160);
        faultAt(" ".repeat(160 - text.length() + 1) + text, 160);
        read(" ".repeat(160 - text.length()) + text, 1);
        faultAt(" ".repeat(159) + "?", 159);
        faultAt(" ".repeat(155) + "bears", 160);
        faultAt(" ".repeat(156) + "bears", 156);
    }

    private static void emptyTape() {
        WhoSingsNext x = new WhoSingsNext();
        due("7: an empty tape ends too early", x.text(), -100);
        due("7: still", x.text(), -100);
        due("7: no text came", x.count(4), 1);
        faultAt(" ", 1);
        faultAt("\n", 1);
        faultAt(" \n \n", 4);
    }

    /** Each token behind what stands ahead: either it is the fault, or the text ends too early behind it. */
    private static void next(String ahead, String may) {
        List<String> fine = List.of(may.split(" "));
        for (String token : TOKENS) {
            String text = ahead + token;
            faultAt(text, fine.contains(token) ? text.length() : ahead.length());
        }
    }

    private static void whatMayStand() {
        next("", "bears");
        String[] parts = {"bears ", "bears 1 ; takes ", "bears 1 ; takes 2 ; first "};
        for (int i = 0; i < 3; i++) {
            String p = parts[i];
            String end = i < 2 ? " ;" : "";
            next(p, E);
            next(p + "not ", E);
            next(p + "not not ", E);
            next(p + "( ", E);
            next(p + "1 or ", E);
            next(p + "1 and ", E);
            for (String ahead : new String[] {"- ", "1 + ", "1 - ", "1 * ", "1 < ", "1 = ", "not 1 < ", "( 1 ) + "}) {
                next(p + ahead, ONE);
            }
            next(p + "( 1 ", NOT_GOES_ON + " )");
            next(p + "( not 1 ", NOT_GOES_ON + " )");
            next(p + "( 1 < 2 ", COMPARED_GOES_ON + " )");
            if (i == 2) {
                continue;
            }
            for (String ahead : new String[] {"1 ", "mood ", "- 1 ", "not 1 ", "( 1 ) ", "1 + 2 ", "1 * 2 ", "1 < 2 or 3 ",
                    "1 = 2 and 3 ", "( 1 < 2 ) ", "not ( 1 = 2 ) "}) {
                next(p + ahead, NOT_GOES_ON + end);
            }
            for (String ahead : new String[] {"1 < 2 ", "1 = 2 ", "1 < 2 + 3 ", "not 1 < 2 ", "1 < ( 2 ) ", "1 = - 2 ",
                    "1 or 2 < 3 ", "( 1 < 2 ) = 3 ", "1 < ( 2 = 3 ) "}) {
                next(p + ahead, COMPARED_GOES_ON + end);
            }
        }
        next("bears 1 ; ", "takes");
        next("bears 1 ; takes 2 ; ", "first");
        for (String token : TOKENS) {
            faultAt("bears 1 ; takes 2 ; first 3 ; " + token, 30);
        }
        for (String token : TOKENS) {
            boolean ends = token.equals(";");
            boolean fine = List.of((NOT_GOES_ON + " ;").split(" ")).contains(token);
            read("bears 1 ; takes 2 ; first 3 " + token, ends ? 1 : -100 - 28 - (fine ? token.length() : 0));
        }
    }

    /** Behind each token of a text: the fault is the text's size, blanks and all. */
    private static void endsTooEarly() {
        String text = "bears ( 1 ) < - 2 and not mood * 3 ; takes 4 + 5 = 6 or 7 ; first 8 - 9 ;";
        for (int i = 0; i < text.length(); i++) {
            if (text.charAt(i) == ' ') {
                faultAt(text.substring(0, i), i);
                faultAt(text.substring(0, i + 1), i + 1);
                faultAt(text.substring(0, i) + "\n\n ", i + 3);
            }
        }
        read(text, 1);
    }

    private static void everyByte() {
        for (int b = 0; b < 256; b++) {
            char c = (char) b;
            boolean blank = b == 32 || b == 10;
            read(c + "bears 1" + REST, blank ? 1 : -100);
            boolean sign = "+-*<=".indexOf(c) >= 0;
            boolean digit = c >= '0' && c <= '9';
            int then = blank || digit ? 1 : sign || c == ';' ? -108 : -107;
            read("bears 1" + c + REST, then);
            read("bears 1" + REST + c, blank ? 1 : -124);
        }
    }

    /** A letter belongs to the word that stands ahead of it, a digit to the number behind it. */
    private static void everyByteBetweenTokens() {
        for (int b = 0; b < 256; b++) {
            char c = (char) b;
            boolean blank = b == 32 || b == 10;
            boolean letter = c >= 'a' && c <= 'z';
            boolean digit = c >= '0' && c <= '9';
            int place = letter ? 0 : c == '(' ? 7 : 5;
            read("bears" + c + "1" + REST, blank || digit || c == '-' ? 1 : -100 - place);
        }
    }

    private static void numbers() {
        for (String number : new String[] {"0", "9", "10", "99", "100", "999", "1000", "9999", "0000", "0009", "00", "000"}) {
            read("bears " + number + REST, 1);
        }
        for (String number : new String[] {"00000", "00001", "10000", "99999", "123456", "4294967296", "99999999999999"}) {
            faultAt("bears " + number + REST, 6);
            faultAt("bears 1 + " + number + REST, 10);
            faultAt("bears 1 " + number + REST, 8);
            faultAt(number, 0);
        }
        faultAt("bears 1" + ";takes 2;first 12345", 22);
        faultAt("bears 1" + ";takes 2;first 1234", 26);
        faultAt("bears 1;takes 12345", 14);
    }

    private static void words() {
        for (String name : new String[] {"minute", "waited", "sung", "sort", "bar", "mood"}) {
            read("bears " + name + REST, 1);
            faultAt("bears " + name + "s" + REST, 6);
            faultAt("bears s" + name + REST, 6);
            faultAt("bears " + name.substring(1) + REST, 6);
            faultAt("bears " + name.substring(0, name.length() - 1) + REST, 6);
            faultAt("bears " + name + name + REST, 6);
            read("bears " + name + "+1" + REST, 1);
            faultAt("bears " + name + "1" + REST, 6 + name.length());
            faultAt("bears " + Character.toUpperCase(name.charAt(0)) + name.substring(1) + REST, 6);
        }
        faultAt("bear 1" + REST, 0);
        faultAt("bearss 1" + REST, 0);
        faultAt("bears 1;take 2;first 3;", 8);
        faultAt("bears 1;takess 2;first 3;", 8);
        faultAt("bears 1;takes 2;firs 3;", 16);
        faultAt("bears 1;takes 2;firsts 3;", 16);
        for (String key : new String[] {"or", "and"}) {
            read("bears 1" + key + " 2" + REST, 1);
            read("bears 1" + key + "2" + REST, 1);
            faultAt("bears 1" + key + "s 2" + REST, 7);
            faultAt("bears 1" + key.substring(1) + " 2" + REST, 7);
            faultAt("bears 1 " + key + "mood" + REST, 8);
        }
        read("bears not1" + REST, 1);
        faultAt("bears nots 1" + REST, 6);
        faultAt("bears no 1" + REST, 6);
        faultAt("bears notnot 1" + REST, 6);
    }

    private static void theFirstFault() {
        faultAt("bears 1 2 ? 12345 x", 8);
        faultAt("bears ? 2 12345", 6);
        faultAt("bears 1 + x + ?", 10);
        faultAt("bears (1;takes 2;first 3;", 8);
        faultAt("bears 1);takes 2;first 3;", 7);
        faultAt("bears 1;takes;first 3;", 13);
        faultAt("bears;takes 2;first 3;", 5);
        faultAt("bears 1;takes 2;first;", 21);
        faultAt("bears 1 takes 2;first 3;", 8);
        faultAt("takes 2;bears 1;first 3;", 0);
        faultAt("bears 1;bears 1;takes 2;first 3;", 8);
        faultAt("bears 1;takes 2;first 3;bears 1;takes 2;first 3;", 24);
        faultAt("bears 1;takes 2;first 3; \n;", 26);
    }

    /** All ways in which five can be open, and the sixth. */
    private static void fiveAreOpen() {
        List<String> ways = new ArrayList<>();
        openMore("", 0, ways);
        for (String way : ways) {
            String ahead = "bears " + way;
            String close = closing(way);
            read(ahead + "1" + close + REST, 1);
            faultAt(ahead + "(1)" + close + REST, ahead.length());
            faultAt(ahead + "- 1" + close + REST, ahead.length());
            faultAt(ahead + "not 1" + close + REST, ahead.length());
        }
        due("7: the ways", ways.size() > 60 ? 1 : 0, 1);
    }

    private static void openMore(String way, int open, List<String> ways) {
        if (open == 5) {
            ways.add(way);
            return;
        }
        openMore(way + "( ", open + 1, ways);
        openMore(way + "- ", open + 1, ways);
        if (!way.endsWith("- ")) {
            openMore(way + "not ", open + 1, ways);
        }
    }

    private static String closing(String way) {
        return ")".repeat(way.length() - way.replace("(", "").length());
    }

    /** ( is open till its ), not and - till what they belong to ends. */
    private static void closedAgain() {
        String[] closed = {"(((((1)))))", "-----1", "----(1)", "-(-(-1))", "(-(-(1)))", "----(mood)"};
        for (String first : closed) {
            for (String sign : new String[] {"+", "-", "*", "<", "=", " or ", " and "}) {
                for (String then : closed) {
                    read("bears " + first + sign + then + REST, 1);
                    faultAt("bears " + first + sign + "-" + "-----1" + REST, 6 + first.length() + sign.length() + 5);
                }
            }
        }
        for (String sign : new String[] {" or ", " and "}) {
            read("bears not not not not not 1" + sign + "not not not not not 2" + REST, 1);
            read("bears not not not not not 1 < 2" + sign + "(((((2)))))" + REST, 1);
        }
        for (String sign : new String[] {" + ", " - ", " * ", " < ", " = "}) {
            faultAt("bears not not not not not 1" + sign + "-2" + REST, 6 + 21 + sign.length());
            faultAt("bears not not not not not 1" + sign + "(2)" + REST, 6 + 21 + sign.length());
            read("bears not not not not 1" + sign + "-2" + REST, 1);
            read("bears not not not not 1" + sign + "(2) * -3" + REST, 1);
        }
        read("bears (not not not not 1) + (not not not not 2)" + REST, 1);
        faultAt("bears (not not not not 1 + (2))" + REST, 27);
        read("bears (((((1))))) ;takes (((((1)))));first (((((1)))));", 1);
        read("bears not not not not not 1;takes not not not not not 1;first -----1;", 1);
    }

    private static void sixTexts() {
        WhoSingsNext x = new WhoSingsNext();
        x.come(9, 0);
        x.slip(0, 10, 0);
        for (int t = 1; t < 6; t++) {
            due("7: a text's number", Due.read(x, "bears 1;takes " + t + "0;first 3;"), t);
            due("24: TEXTS", x.count(4), t + 1);
            due("7: a fault between", Due.read(x, "bears"), t < 5 ? -105 : WhoSingsNext.FULL);
            due("24: TEXTS then", x.count(4), t + 1);
        }
        due("24: the tape stays", x.count(5), 5);
        due("8: force(5)", x.force(5), 0);
        due("8: force(6)", x.force(6), WhoSingsNext.BAD);
        due("8: by TEXT 5", x.evening(1, 0), 50);
        for (int t = 4; t >= 0; t--) {
            due("8: which was", x.force(t), t + 1);
            due("8: by TEXT " + t, x.evening(1, 0), t == 0 ? 3 : 10 * t);
        }
        due("8: itself", x.force(0), 0);
    }

    private static void tapeAfterAFault() {
        WhoSingsNext x = new WhoSingsNext();
        due("7: a fault", Due.read(x, "bears 1;takes 2;first ?;"), -122);
        due("7: the tape is empty", x.count(5), 0);
        due("6: anew", x.feed('b'), 1);
        Houses.feed(x, "ears 1" + REST);
        due("7: a text", x.text(), 1);
        due("7: the tape is empty by it, too", x.text(), -100);
        due("7: a shorter one sees nothing of it", Due.read(x, "bears 1"), -107);
    }

    /** The desk calls the slip of KIND 1 first, if the E is true. */
    private static void isTrue(String e, boolean want) {
        WhoSingsNext x = new WhoSingsNext();
        due(e, Due.read(x, "bears 99;takes 0;first (" + e + ")*sort;"), 1);
        x.force(1);
        x.come(99, 0);
        x.slip(0, 10, 0);
        x.slip(1, 10, 0);
        due("1: " + e, x.desk(6), want ? 21 : 12);
    }

    private static final String LEAST = "(8192*8192*32)", MOST = "(8192*8192*32-1)";

    private static void wrapping() {
        isTrue(LEAST + "<0", true);
        isTrue("0<" + LEAST, false);
        isTrue(MOST + "<0", false);
        isTrue("0<" + MOST, true);
        isTrue(MOST + "+1=" + LEAST, true);
        isTrue(LEAST + "-1=" + MOST, true);
        isTrue("-" + LEAST + "=" + LEAST, true);
        isTrue("0-" + LEAST + "=" + LEAST, true);
        isTrue("-" + MOST + "=" + LEAST + "+1", true);
        isTrue(LEAST + "*2=0", true);
        isTrue(MOST + "*2=-2", true);
        isTrue(LEAST + "*" + LEAST + "=0", true);
        isTrue(MOST + "*" + MOST + "=1", true);
        isTrue(LEAST + "*-1=" + LEAST, true);
        isTrue(LEAST + "+" + LEAST + "=0", true);
        isTrue(LEAST + "<" + MOST, true);
        isTrue(MOST + "<" + LEAST, false);
        isTrue(LEAST + "<" + LEAST, false);
        isTrue(LEAST + "=" + MOST, false);
        isTrue(LEAST + "<1", true);
        isTrue("9999*9999*9999=(9999*9999)*9999", true);
        isTrue("4096*4096*256=0", true);
        isTrue("4096*4096*256*2+5=5", true);
    }

    private static void truth() {
        String[] yes = {"1", "2", "-1", "9999", LEAST, MOST};
        for (String a : yes) {
            isTrue("1=(not not " + a + ")", true);
            isTrue("0=(not " + a + ")", true);
            for (String b : yes) {
                isTrue("1=(" + a + " and " + b + ")", true);
                isTrue("1=(" + a + " or " + b + ")", true);
            }
            isTrue("0=(" + a + " and 0)", true);
            isTrue("0=(0 and " + a + ")", true);
            isTrue("1=(" + a + " or 0)", true);
            isTrue("1=(0 or " + a + ")", true);
        }
        isTrue("0=(0 and 0)", true);
        isTrue("0=(0 or 0)", true);
        isTrue("1=(not 0)", true);
        isTrue("0=(" + LEAST + "*2 or 0)", true);
        isTrue("1=(not " + LEAST + "*2)", true);
        isTrue("1=(5<6)", true);
        isTrue("0=(6<6)", true);
        isTrue("0=(7<6)", true);
        isTrue("1=(6=6)", true);
        isTrue("0=(6=-6)", true);
        isTrue("1=(0=-0)", true);
    }

    private static WhoSingsNext houseBy(String text) {
        WhoSingsNext x = new WhoSingsNext();
        due(text, Due.read(x, text), 1);
        x.force(1);
        return x;
    }

    private static void takes(String e, int want) {
        WhoSingsNext x = houseBy("bears 99;takes " + e + ";first 0;");
        x.come(99, 0);
        x.slip(0, 10, 0);
        due("1: takes " + e, x.evening(1, 0), want);
    }

    private static void boundOfTakes() {
        takes("0", 0);
        takes("1", 1);
        takes("-1", 0);
        takes("98", 98);
        takes("99", 99);
        takes("100", 99);
        takes("9999", 99);
        takes("-9999", 0);
        takes(LEAST, 0);
        takes(MOST, 99);
        takes("4096*4096*256", 0);
        takes("4096*4096*256+98", 98);
    }

    /** Of two of the other group, with PATIENCE 99 and 98, after a song of 9 minutes by one with PATIENCE 99. */
    private static void bears(String e, int there, int ofPatience) {
        WhoSingsNext x = houseBy("bears " + e + ";takes 0;first 0;");
        x.come(99, 0);
        x.come(ofPatience, 1);
        x.slip(0, 90, 0);
        due("1: bears " + e + ", PATIENCE " + ofPatience, x.evening(1, 5), there);
    }

    private static void boundOfBears() {
        bears("0", 3, 9);
        bears("0", 1, 8);
        bears("9", 3, 0);
        bears("8", 1, 0);
        bears("-90", 3, 99);
        bears("-91", 1, 99);
        bears("-98", 1, 99);
        bears("-99", 1, 99);
        // By the bound, -99, the singer, who has waited 0 and has PATIENCE 99, stays; by less it would leave.
        bears("-100", 1, 99);
        bears("-9999", 1, 99);
        bears(LEAST, 1, 99);
        bears("-99 - (waited=0)", 1, 0);
        // By the bound, 99, PATIENCE and bears stay below all that wraps.
        bears("100", 3, 0);
        bears("9999", 3, 99);
        bears(MOST, 3, 99);
        bears(MOST, 3, 0);
        bears(MOST, 3, 1);
        WhoSingsNext x = houseBy("bears -99;takes 0;first 0;");
        x.come(98, 0);
        x.come(99, 0);
        x.slip(0, 10, 0);
        due("1: PATIENCE 98 and bears -99 are less than 0", x.evening(1, 5), 2);
        x = houseBy("bears -98;takes 0;first 0;");
        x.come(98, 0);
        x.come(97, 0);
        x.slip(0, 10, 0);
        due("1: PATIENCE 98 and bears -98 are 0", x.evening(1, 5), 1);
        x = houseBy("bears -100;takes 0;first 0;");
        x.come(98, 0);
        x.come(99, 0);
        x.slip(0, 10, 0);
        due("1: bears -100 is -99", x.evening(1, 5), 2);
    }

    /** The KINDS in the order in which the desk calls them, by what first is of each. */
    private static void order(String first, int want) {
        WhoSingsNext x = houseBy("bears 99;takes 0;first " + first + ";");
        x.come(99, 0);
        x.slip(0, 10, 0);
        x.slip(1, 10, 0);
        x.slip(2, 10, 0);
        due("11: first " + first, x.desk(6), want);
    }

    private static void anyFirst() {
        order(LEAST, 123);
        order(MOST, 123);
        order(LEAST + "+sort", 321);
        order(MOST + "-sort", 123);
        order(MOST + "+sort", 132);
        order(LEAST + "-sort", 231);
        order("(sort=1)*" + LEAST, 132);
        order("(sort=1)*" + MOST, 213);
        order("(sort=2)*" + LEAST + "+(sort=1)*" + MOST, 213);
        order("(sort=0)*" + LEAST + "+(sort=2)", 321);
        order("-1", 123);
        order("-sort", 123);
        order("sort", 321);
        order("100+(sort=2)", 312);
        order("-100-(sort=0)", 231);
    }

    private static void namesWhereTheyAreNothing() {
        WhoSingsNext x = houseBy("bears 0;takes waited*7+sung*5+3;first 0;");
        x.come(9, 0);
        x.slip(0, 90, 0);
        x.slip(0, 90, 0);
        due("1: waited and sung of takes are 0", x.evening(12, 0), 6);
        for (int kind = 0; kind < 6; kind++) {
            x = houseBy("bears sort*99;takes 10+sort;first 0;");
            x.come(9, 0);
            x.come(8, 1);
            x.slip(kind, 91, 0);
            int[] drinks = {2, 1, 2, 2, 3, 5};
            due("1: sort of bears is 0, KIND " + kind, x.evening(1, 5), 1);
            due("1: sort of takes is its KIND " + kind, x.evening(1, 0), drinks[kind] * (10 + kind));
        }
    }
}

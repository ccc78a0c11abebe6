/** Section 1 and promises 1 to 7, sentence by sentence where they name a bound. */
public final class BoundsOfTextTest extends Asked {
    public static void main(String[] args) {
        emptyAtFirst();
        numbersOfX();
        numbersOfXWhereTheyAreRead();
        numbers();
        targets();
        lines();
        classesOfWhatIsMade();
        classesOfCopies();
        classesOfSigns();
        classesOfCallsAndHalves();
        classesOfJumpsAndOuts();
        wordsAsLettersStandTogether();
        digitsAsTheyStandTogether();
        blanksAndOtherSigns();
        endOfText();
        whatCantStand();
        firstFaultByPlace();
        fortyFirstLine();
        classBeforeNumber();
        linesThatAreNot();
        registersTold();
        clobberedTold();
        tapeFed();
        tapeEnded();
        codeTold();
        faultAsked();
        inputTold();
        endOfTest();
    }

    /** A sound text: how many LINES, and no FAULT. */
    private static RegisterColours sound(String text, int lines) {
        RegisterColours x = new RegisterColours();
        due("code() of " + text, tell(x, text), lines);
        due("LINES of " + text, x.look(0), lines);
        due("fault(0) of " + text, x.fault(0), 0);
        due("fault(1) of " + text, x.fault(1), NONE);
        return x;
    }

    /** A text with a FAULT: what and where; all else stays, but the TAPE, which is empty. */
    private static void fault(String text, int what, int place) {
        RegisterColours x = new RegisterColours();
        tell(x, "v3=7;");
        x.allocate();
        due("code() of " + text, tell(x, text), NONE);
        due("fault(0) of " + text, x.fault(0), what);
        due("fault(1) of " + text, x.fault(1), place);
        due("the TAPE behind " + text, x.end(1), false);
        due("THE CODE behind " + text, x.step(0, false, 4), 7);
        due("what ALLOCATE left behind " + text, x.look(10), 1);
    }

    // ---- THE CODE ----

    private static void emptyAtFirst() {
        sentence("THE CODE (empty at first)");
        RegisterColours x = new RegisterColours();
        row("look(", looks(x), 0, 0, 4, 2, 1, 0, 0, 0, 0, 0, 0);
        due("step", x.step(0, false, 0), NONE);
        due("live", x.live(0, 8), NONE);
        row("run(0, ", runs(x, 0), 0, 0, 0, 0);
        row("graph(", graphs(x), 1, 0, 0, 0);
        due("allocate()", x.allocate(), 1);
        row("left(", lefts(x), 1, 0, 0, 0, 0, 0, 0, 0, 0, 0, 0, 0);
        row("run(1, ", runs(x, 1), 0, 0, 0, 0);
        due("proved()", x.proved(), 1);
        sound("", 0);
        sound(" \n\n  ", 0);
    }

    private static void numbersOfX() {
        sentence("X: v 0 .. 23 (class A), w 0 .. 7 (class B), d 0 .. 3 (class D, pairs)");
        String[] texts = {"v#=1;", "w#=1;", "d#=d0;"};
        int[] most = {23, 7, 3};
        int[] first = {8, 32, 40};
        for (int i = 0; i < 3; i++) {
            for (int n = 0; n <= most[i]; n++) {
                due("VALUE", sound(texts[i].replace("#", "" + n), 1).step(0, false, 1), first[i] + n);
            }
            due("VALUE", sound(texts[i].replace("#", "000" + most[i] % 10), 1).step(0, false, 1), first[i] + most[i] % 10);
            for (int n : new int[] {most[i] + 1, 99, 100, 9999}) {
                fault(texts[i].replace("#", "" + n), 2, 1);
            }
            fault(texts[i].replace("#", "00000"), 1, 1);
            fault(texts[i].replace("#", ""), 1, 1);
            fault(texts[i].replace("#", "-1"), 1, 1);
        }
    }

    private static void numbersOfXWhereTheyAreRead() {
        sentence("FAULTS: 2 (at the NUMBER) one beyond its bounds");
        String[] texts = {"v0=v#;", "v0=v#+v1;", "v0=v#-v1;", "v0=v1*v#;", "w0=w#+w1;", "w0=w1-w#;", "w0=w#*w1;", "d0=v#*v1;",
            "d0=v1*v#;", "v0=call v#;", "v0=low d#;", "v0=high d#;", "if v#<v1 goto 0;", "if v1<v# goto 0;", "if w#<w1 goto 0;",
            "if w1<w# goto 0;", "out v#;", "out w#;", "w0=v#;", "v0=w#;", "w0=w#;", "d0=d#;", "v#=in;", "w#=in;", "v#=call v0;",
            "v#=low d0;", "d#=v0*v0;"};
        for (String text : texts) {
            int place = text.indexOf('#');
            int most = switch (text.charAt(place - 1)) {
                case 'v' -> 23;
                case 'w' -> 7;
                default -> 3;
            };
            sound(text.replace("#", "" + most), 1);
            sound(text.replace("#", "0"), 1);
            fault(text.replace("#", "" + (most + 1)), 2, place);
            fault(text.replace("#", " \n " + (most + 1)), 2, place + 3);
        }
    }

    private static void numbers() {
        sentence("N: 0 .. 9999");
        String[][] table = {{"0", "0"}, {"9999", "9999"}, {"0000", "0"}, {"0007", "7"}, {"10", "10"}, {"1000", "1000"}};
        for (String[] t : table) {
            due("N of v", sound("v0=" + t[0] + ";", 1).step(0, false, 4), Integer.parseInt(t[1]));
            due("N of w", sound("w0=" + t[0] + ";", 1).step(0, false, 4), Integer.parseInt(t[1]));
        }
        for (String digits : new String[] {"10000", "00000", "99999", "2147483648", "9".repeat(390)}) {
            fault("v0=" + digits + ";", 1, 3);
            fault("w0=" + digits + ";", 1, 3);
        }
        fault("v0=-1;", 1, 3);
    }

    private static void targets() {
        sentence("behind goto 0 .. 40, a LINE 0 .. how many there are (that one: the end)");
        for (int n = 1; n <= 40; n++) {
            String rest = "out v0;".repeat(n - 1);
            due("to the end", sound("goto " + n + ";" + rest, n).step(0, false, 4), n);
            due("to the last", sound("goto " + (n - 1) + ";" + rest, n).step(0, false, 4), n - 1);
            due("to the first", sound("goto 0;" + rest, n).step(0, false, 4), 0);
            due("if, to the end", sound("if w0<w1 goto " + n + ";" + rest, n).step(0, false, 4), n);
            fault("goto " + (n + 1) + ";" + rest, n == 40 ? 2 : 5, 5);
            fault("if v0<v0 goto " + (n + 1) + ";" + rest, n == 40 ? 2 : 5, 14);
        }
        fault("goto 41;", 2, 5);
        fault("goto 9999;", 2, 5);
        fault("goto 10000;", 1, 5);
        due("0040", sound("goto 0040;" + "out v0;".repeat(39), 40).step(0, false, 4), 40);
    }

    private static void lines() {
        sentence("40 LINES at most");
        for (String line : new String[] {"v0=1;", "goto 40;", "d0=d1;", "w7=w0;", "out v23;"}) {
            sound(line.repeat(40), 40);
            sound(line.repeat(40) + " \n ", 40);
            fault(line.repeat(41), 3, 40 * line.length());
        }
        due("STEPS", sound("v0=call v1;".repeat(36), 36).look(1), 108);
    }

    // ---- the classes ----

    private static void classesOfWhatIsMade() {
        sentence("N, in: into v, w");
        sound("v0=1;w0=1;v0=in;w0=in;", 4);
        fault("d0=1;", 1, 3);
        fault("d0=9999;", 1, 3);
        fault("d0=in;", 1, 3);
        fault("d0=99999;", 1, 3);
    }

    private static void classesOfCopies() {
        sentence("X alone: v, w into v, w (alike: a MOVE; unlike: it is brought over), d into d (a MOVE)");
        String[] moves = {"v0=v1;", "w0=w1;", "d0=d1;", "v0=v0;"};
        for (String text : moves) {
            due("MOVES of " + text, sound(text, 1).look(8), 1);
        }
        due("brought over", sound("v0=w0;w1=v1;", 2).look(8), 0);
        fault("v0=d0;", 4, 3);
        fault("w0=d0;", 4, 3);
        fault("d0=w0;", 4, 3);
        // A v may begin a product there, so it is the ';' that can't stand.
        fault("d0=v0;", 1, 5);
    }

    private static void classesOfSigns() {
        sentence("X + X, X - X: all three v, or all three w. X * X: all three v, all three w, or two v into d");
        for (char made : "vwd".toCharArray()) {
            for (char one : "vwd".toCharArray()) {
                for (char two : "vwd".toCharArray()) {
                    for (char sign : "+-*".toCharArray()) {
                        signs(made, one, two, sign);
                    }
                }
            }
        }
    }

    private static void signs(char made, char one, char two, char sign) {
        String text = made + "0=" + one + "1" + sign + two + "2;";
        boolean product = made == 'd' && one == 'v' && sign == '*';
        if (one == 'd' && made != 'd' || one == 'w' && made == 'd') {
            fault(text, 4, 3);
        } else if (!product && (made == 'd' || one != made)) {
            fault(text, 1, 5);
        } else if (two != one) {
            fault(text, 4, 6);
        } else {
            sound(text, 1);
        }
    }

    private static void classesOfCallsAndHalves() {
        sentence("call: v into v. low, high: of d into v");
        for (char one : "vwd".toCharArray()) {
            String x = one + "3;";
            for (String word : new String[] {"call ", "low ", "high "}) {
                char may = word.equals("call ") ? 'v' : 'd';
                if (one == may) {
                    sound("v0=" + word + x, 1);
                } else {
                    fault("v0=" + word + x, 4, 3 + word.length());
                }
                fault("w0=" + word + x, 1, 3);
                fault("d0=" + word + x, 1, 3);
            }
        }
    }

    private static void classesOfJumpsAndOuts() {
        sentence("if: two v, or two w. out: v, w");
        for (char one : "vwd".toCharArray()) {
            for (char two : "vwd".toCharArray()) {
                String text = "if " + one + "0<" + two + "1 goto 0;";
                if (one == 'd') {
                    fault(text, 4, 3);
                } else if (two != one) {
                    fault(text, 4, 6);
                } else {
                    sound(text, 1);
                }
            }
        }
        sound("out v0;out w0;", 2);
        fault("out d0;", 4, 4);
    }

    // ---- TOKENS ----

    private static void wordsAsLettersStandTogether() {
        sentence("TOKENS: letters (a .. z, A .. Z) as many as stand together are the words told here (v, w, d, too) or none");
        String[] none = {"V0=1;", "vv0=1;", "vw0=1;", "outv0;", "Out v0;", "OUT v0;", "ou v0;", "outt v0;", "ifv0<v1 goto 0;", "go to 0;",
            "gotoo 0;", "x0=1;", "a0=1;", "z0=1;", "Z0=1;", "r0=1;", "slot 0;", "e0=1;"};
        for (String text : none) {
            fault(text, 1, 0);
        }
        String[] behind = {"v0=IN;", "v0=inn;", "v0=i;", "v0=callv1;", "v0=lowd0;", "v0=highd0;", "v0=hi d0;", "v0=Low d0;", "v0=r0;", "v0=if;",
            "v0=goto;", "v0=out;", "v0=x;"};
        for (String text : behind) {
            fault(text, 1, 3);
        }
        for (char c = 'A'; c <= 'z'; c++) {
            boolean letter = c <= 'Z' || c >= 'a';
            // A letter more makes another word of it, which is none; any other sign stands for itself behind it.
            fault("v0=in" + c + ";", 1, letter ? 3 : 5);
            fault("out" + c + " v0;", 1, letter ? 0 : 3);
        }
        // A digit parts words as a blank does.
        sound("if v0<v1goto 0;", 1);
        sound("goto0;", 1);
        sound("if v0<v1goto0;out v0;v0=in;", 3);
    }

    private static void digitsAsTheyStandTogether() {
        sentence("digits as many as stand together NUMBERS of 1 to 4 digits or none");
        for (int digits = 1; digits <= 4; digits++) {
            sound("v0=" + "7".repeat(digits) + ";", 1);
            sound("v" + "0".repeat(digits) + "=7;", 1);
            sound("goto " + "0".repeat(digits) + ";", 1);
        }
        fault("v0=77777;", 1, 3);
        fault("v00000=7;", 1, 1);
        fault("goto 00000;", 1, 5);
        fault("v0=7 7;", 1, 5);
        fault("v0 0=7;", 1, 3);
        fault("v0=7\n7;", 1, 5);
        fault("goto 0 0;", 1, 7);
    }

    private static void blanksAndOtherSigns() {
        sentence("Blanks (32, 10) between");
        String[] tokens = {"v", "1", "=", "v", "2", "*", "v", "3", ";", "if", "w", "0", "<", "w", "1", "goto", "2", ";", "out", "v", "1", ";"};
        for (String blank : new String[] {" ", "\n", " \n", "\n\n  "}) {
            String text = blank + String.join(blank, tokens) + blank;
            due("the jump's goal", sound(text, 3).step(1, false, 4), 2);
        }
        for (int sign = 0; sign < 256; sign++) {
            char c = (char) sign;
            boolean blank = c == 32 || c == 10;
            if (blank || c >= '0' && c <= '9') {
                sound("v0=1" + c + ";", 1);
            } else {
                fault("v0=1" + c + ";", 1, c == ';' ? 5 : 4);
            }
            if (blank) {
                sound(c + "v0=1;", 1);
            } else {
                fault(c + "v0=1;", 1, 0);
            }
        }
    }

    // ---- FAULTS ----

    private static final String[] SHAPES = {"v 1 = 5 ;", "w 1 = in ;", "v 1 = w 2 ;", "d 1 = d 2 ;", "v 1 = v 2 + v 3 ;", "w 1 = w 2 - w 3 ;",
        "d 1 = v 2 * v 3 ;", "v 1 = call v 2 ;", "v 1 = low d 2 ;", "v 1 = high d 3 ;", "if v 1 < v 2 goto 0 ;", "if w 1 < w 2 goto 1 ;", "goto 0 ;",
        "out v 1 ;", "out w 1 ;"};

    private static void endOfText() {
        sentence("FAULTS: 1 what can't stand there (the end: the text's length)");
        for (String shape : SHAPES) {
            sound(shape, 1);
            for (int at = shape.indexOf(' '); at >= 0; at = shape.indexOf(' ', at + 1)) {
                String begun = shape.substring(0, at);
                fault(begun, 1, begun.length());
                fault(begun + "  \n", 1, begun.length() + 3);
                fault("out v0;\n" + begun, 1, begun.length() + 8);
            }
        }
        for (char c : ";=<+-*?7\0".toCharArray()) {
            fault("v" + ("" + c).repeat(399), 1, 1);
            fault(("" + c).repeat(400), 1, 0);
        }
        fault("=;".repeat(200), 1, 0);
        fault("v0".repeat(200), 1, 2);
        String full = "out v0;".repeat(20) + " ".repeat(259) + "v";
        fault(full, 1, 400);
        sound(" ".repeat(395) + "v0=1;", 1);
    }

    private static void whatCantStand() {
        sentence("FAULTS: 1 what can't stand there");
        String[] never = {"?", "99999", "vv", ".", "\t", "\u00ff", "\0", ">", "/", ":", "@", "[", "`", "{"};
        for (String shape : SHAPES) {
            String[] tokens = shape.split(" ");
            StringBuilder begun = new StringBuilder();
            for (String token : tokens) {
                for (String wrong : never) {
                    fault(begun + wrong + " " + token, 1, begun.length());
                }
                begun.append(token).append(' ');
            }
            fault(shape + " ;", 1, shape.length() + 1);
        }
        // Where something is missing, it is the ';' that can't stand.
        for (String text : new String[] {"", "v", "v0", "v0=", "w0=", "d0=", "d0=d", "v0=v1+", "w0=w1-", "d0=v1*", "v0=call", "v0=call v", "v0=low",
            "v0=high", "if", "if v", "if v0", "if v0<", "if v0<v", "if v0<v1", "if v0<v1 goto", "goto", "out", "out w"}) {
            fault(text + ";", 1, text.length());
        }
        fault("v0=1;;", 1, 5);
        fault("5=v0;", 1, 0);
        fault("v0<v1;", 1, 2);
        fault("v0=v1<v2;", 1, 5);
        fault("v0=v1=v2;", 1, 5);
        fault("v0=v1+5;", 1, 6);
        fault("v0=v1+in;", 1, 6);
        fault("v0=5+v1;", 1, 4);
        fault("v0=in+v1;", 1, 5);
        fault("v0=call v1+v2;", 1, 10);
        fault("v0=v1+v2+v3;", 1, 8);
        fault("v0=call call v1;", 1, 8);
        fault("v0=call 5;", 1, 8);
        fault("v0=low 5;", 1, 7);
        fault("v0=high in;", 1, 8);
        fault("out 5;", 1, 4);
        fault("out in;", 1, 4);
        fault("if 5<v1 goto 0;", 1, 3);
        fault("if v1<5 goto 0;", 1, 6);
        fault("if v1<v2 out v1;", 1, 9);
        fault("goto v1;", 1, 5);
    }

    private static void firstFaultByPlace() {
        sentence("FAULTS, the first by its place, at one place the least");
        fault("v24=d0;", 2, 1);
        fault("d0=v24;", 2, 4);
        fault("v0=w8+w0;", 2, 4);
        fault("v0=1;out d0;v24=1;", 4, 9);
        fault("v24=1;out d0;", 2, 1);
        fault("v0=d0;v24=1;?", 4, 3);
        fault("goto 41;v24=1;", 2, 5);
        fault("?goto 41;", 1, 0);
        // The NUMBER is beyond goto's bounds and tells a LINE that there is not: 2 is the lesser.
        fault("goto 41;out v0;", 2, 5);
        // Five digits are no NUMBER at all, so 1 and not 2.
        fault("goto 00041;", 1, 5);
        fault("v00024=1;", 1, 1);
    }

    private static void fortyFirstLine() {
        sentence("3 (at its first token, if a LINE can begin so) the 41st LINE");
        String forty = "v0=1;".repeat(40);
        for (String begins : new String[] {"v", "w", "d", "if", "goto", "out", "v99", "d?", "out d0;", "if if", "goto goto"}) {
            fault(forty + begins, 3, 200);
            fault(forty + "\n  " + begins, 3, 203);
        }
        for (String not : new String[] {"in", "call", "low", "high", "5", "99999", ";", "=", "<", "+", "-", "*", "x", "vv", "?", "V"}) {
            fault(forty + not, 1, 200);
            fault(forty + " \n" + not, 1, 202);
        }
        fault("v0=1;".repeat(39) + "v0=d0;out v0;", 4, 198);
        fault("v0=1;".repeat(39) + "v0=1 out v0;", 1, 200);
        fault("goto 40;" + "v0=1;".repeat(39) + "goto 40;", 3, 203);
        sound("goto 40;" + "v0=1;".repeat(39), 40);
    }

    private static void classBeforeNumber() {
        sentence("4 (at its letter) an X of a class that can't stand there (its NUMBER not asked yet)");
        String[] texts = {"v0=d#;", "w0=d#;", "d0=w#;", "v0=v1+w#;", "v0=v1*d#;", "w0=w1-v#;", "d0=v1*w#;", "v0=call w#;", "v0=call d#;",
            "v0=low v#;", "v0=high w#;", "out d#;", "if d#<d0 goto 0;", "if v0<w# goto 0;", "if w0<v# goto 0;", "if w0<d# goto 0;"};
        for (String text : texts) {
            int letter = text.indexOf('#') - 1;
            for (String number : new String[] {"0", "24", "9999", "99999", "", "?", "=", " 0", "\n99"}) {
                fault(text.replace("#", number), 4, letter);
            }
            fault(text.substring(0, letter + 1), 4, letter);
        }
    }

    private static void linesThatAreNot() {
        sentence("5 (at the NUMBER behind goto) a LINE that there is not (asked if there is no other FAULT at all; the first by its place)");
        fault("goto 2;", 5, 5);
        fault("goto 40;", 5, 5);
        fault("goto   2 ;", 5, 7);
        fault("if v0<v1 goto 3;out v0;", 5, 14);
        fault("goto 2;goto 3;goto 40;goto 5;", 5, 19);
        fault("goto 4;goto 5;goto 6;", 5, 5);
        fault("goto 3;goto 2;goto 9;", 5, 19);
        fault("goto 9;out d0;", 4, 11);
        fault("goto 9;v24=1;", 2, 8);
        fault("goto 9;x", 1, 7);
        fault("goto 9", 1, 6);
        fault("goto 9;out v0", 1, 13);
        fault("goto 9;goto 41;", 2, 12);
        // A call is one LINE, though it is three STEPS.
        fault("v0=call v1;goto 3;", 5, 16);
        due("the end", sound("v0=call v1;goto 2;", 2).step(3, false, 4), 4);
    }

    // ---- REGISTERS ----

    private static void registersTold() {
        sentence("K of class A (4 at first; 2 .. 8 can be told); M of class B (2 at first; 1 .. 4)");
        int[][] bounds = {{0, 2, 8, 2, 4}, {1, 1, 4, 3, 2}};
        for (int[] b : bounds) {
            RegisterColours x = new RegisterColours();
            due("at first", x.look(b[3]), b[4]);
            for (int v = b[1]; v <= b[2]; v++) {
                due("set(" + b[0] + ", " + v + ")", x.set(b[0], v), true);
                due("look", x.look(b[3]), v);
                for (int not : new int[] {b[1] - 1, b[2] + 1, 0, -1, -v, 256 + v, Integer.MIN_VALUE, Integer.MAX_VALUE}) {
                    due("set(" + b[0] + ", " + not + ")", x.set(b[0], not), false);
                    due("look", x.look(b[3]), v);
                }
            }
        }
        sentence("set: false if one can't be, or another what");
        RegisterColours x = new RegisterColours();
        for (int what : new int[] {-1, 3, 4, 256, Integer.MIN_VALUE, Integer.MAX_VALUE}) {
            for (int v = 0; v <= 9; v++) {
                due("set(" + what + ", " + v + ")", x.set(what, v), false);
            }
        }
        row("look(", looks(x), 0, 0, 4, 2, 1);
    }

    private static void clobberedTold() {
        sentence("CLOBBERED: from r0 on; 1 at first; 1 .. K; K told below it: K");
        due("at first", new RegisterColours().look(4), 1);
        for (int k = 2; k <= 8; k++) {
            for (int c = 1; c <= k; c++) {
                for (int then = 2; then <= 8; then++) {
                    RegisterColours x = new RegisterColours();
                    x.set(0, k);
                    due("CLOBBERED told", x.set(2, c), true);
                    due("above K", x.set(2, k + 1), false);
                    due("0", x.set(2, 0), false);
                    due("-1", x.set(2, -1), false);
                    due("CLOBBERED", x.look(4), c);
                    due("K told", x.set(0, then), true);
                    due("CLOBBERED", x.look(4), Math.min(c, then));
                    due("K as it was", x.set(0, k), true);
                    due("it stays what it came to be", x.look(4), Math.min(c, then));
                }
            }
        }
        RegisterColours x = new RegisterColours();
        x.set(2, 4);
        due("K refused", x.set(0, 1), false);
        due("CLOBBERED", x.look(4), 4);
    }

    // ---- promises 3 to 7 ----

    private static void tapeFed() {
        sentence("feed: twenty bytes come behind the TAPE, of each number the highest first: how many it has");
        RegisterColours x = new RegisterColours();
        // "v1=1", "234;", "out ", "v1; ", then 0x80 and 0xff at the ends of the last one.
        due("feed", x.feed(0x76313d31, 0x3233343b, 0x6f757420, 0x76313b20, 0x80202020), 20);
        due("feed", x.feed(0x202020ff, 0, 0, 0, 0), 40);
        due("end(20)", x.end(20), true);
        due("code()", x.code(), NONE);
        due("the byte 128", x.fault(1), 16);
        x.feed(0x76313d31, 0x3233343b, 0x6f757420, 0x76313b20, 0x202020ff);
        due("code()", x.code(), NONE);
        due("the byte 255", x.fault(1), 19);
        x.feed(0x76313d31, 0x3233343b, 0x6f757420, 0x76313b20, 0x20202020);
        due("code()", x.code(), 2);
        due("N", x.step(0, false, 4), 1234);
        sentence("feed: NONE, and nothing comes, if there would be more than 400");
        x = new RegisterColours();
        String text = "v0=1;" + " ".repeat(390) + "out w";
        for (int i = 0; i < 20; i++) {
            int[] f = Lot.fives(text).get(i);
            due("feed", x.feed(f[0], f[1], f[2], f[3], f[4]), 20 * i + 20);
        }
        due("feed beyond", x.feed(0x3f3f3f3f, 0, 0, 0, 0), NONE);
        due("end(401)", x.end(401), false);
        due("code()", x.code(), NONE);
        due("the end", x.fault(1), 400);
        due("FAULT", x.fault(0), 1);
        due("feed", x.feed(0x20202020, 0x20202020, 0x20202020, 0x20202020, 0x20202020), 20);
        for (int n = 399; n >= 381; n -= 3) {
            feed(x, " ".repeat(n));
            due("feed at " + n, x.feed(0x3f3f3f3f, 0, 0, 0, 0), NONE);
            due("nothing came", x.end(n + 1), false);
            due("code()", x.code(), 0);
        }
        feed(x, " ".repeat(380));
        due("feed at 380", x.feed(0x3f202020, 0, 0, 0, 0), 400);
        due("code()", x.code(), NONE);
        due("place", x.fault(1), 380);
    }

    private static void tapeEnded() {
        sentence("end: the TAPE has its first n bytes alone: true; false, changing nothing, if it has not so many, or n is below 0");
        RegisterColours x = new RegisterColours();
        due("end(0) of none", x.end(0), true);
        due("end(1) of none", x.end(1), false);
        for (int n = 0; n <= 20; n++) {
            feed(x, "out v1;out v2;out w3");
            for (int not : new int[] {-1, 21, 400, -20, Integer.MIN_VALUE, Integer.MAX_VALUE}) {
                due("end(" + not + ")", x.end(not), false);
            }
            due("all are there", x.end(20), true);
            due("end(" + n + ")", x.end(n), true);
            due("end(" + (n + 1) + ")", x.end(n + 1), false);
            int lines = n / 7;
            due("code() of " + n, x.code(), n % 7 == 0 ? lines : NONE);
        }
        feed(x, "out v1;out v2;");
        due("end(7)", x.end(7), true);
        // What was cut off does not come back.
        due("feed", x.feed(0x20202020, 0x20202020, 0x20202020, 0x20202020, 0x20202020), 27);
        due("code()", x.code(), 1);
    }

    private static void codeTold() {
        sentence("code: the TAPE, empty then (with a FAULT too), is THE CODE: how many LINES. NONE: a FAULT (it stays as it was)");
        RegisterColours x = with(3, 2, 2, "v0=5;v1=call v0;w0=in;out v1;");
        x.allocate();
        x.input(3, true);
        x.paint(2, 2);
        String before = everything(x).replaceFirst("^\\d+ \\d+ -?\\d+ ", "");
        for (String text : new String[] {"?", "v0=1;v1", "v0=1;v24=1;", "v0=1;out d0;", "v0=1;".repeat(41), "v0=1;goto 9;"}) {
            due("code() of " + text, tell(x, text), NONE);
            due("the TAPE", taped(x), 0);
            due("all as it was", everything(x).replaceFirst("^\\d+ \\d+ -?\\d+ ", ""), before);
        }
        due("code() of nothing", x.code(), 0);
        row("look(", looks(x), 0, 0, 3, 2, 2, 1, 0, 0, 0, 1, 0);
    }

    private static void faultAsked() {
        sentence("fault: of the latest code() what 0 the FAULT (0 without one), 1 its place (NONE). NONE for another what");
        RegisterColours x = new RegisterColours();
        String[] texts = {"v0=1;", "v24=1;", "", "out d0;", "goto 3;", "v0=1;", "   ?"};
        int[] faults = {0, 2, 0, 4, 5, 0, 1};
        int[] places = {NONE, 1, NONE, 4, 5, NONE, 3};
        for (int i = 0; i < texts.length; i++) {
            tell(x, texts[i]);
            due("fault(0)", x.fault(0), faults[i]);
            due("fault(1)", x.fault(1), places[i]);
            feed(x, "x");
            due("only code() changes it", x.fault(0), faults[i]);
            for (int what : new int[] {-1, 2, 3, 256, Integer.MIN_VALUE, Integer.MAX_VALUE}) {
                due("fault(" + what + ")", x.fault(what), NONE);
            }
        }
    }

    private static void inputTold() {
        sentence("input: a number of THE INPUT (any), told (true); all are gone (false; v not asked): how many; NONE if there are 16");
        RegisterColours x = new RegisterColours();
        tell(x, "v0=in;out v0;".repeat(17));
        int sum = 0;
        due("none to go", x.input(5, false), 0);
        for (int i = 0; i < 16; i++) {
            int v = i == 0 ? Integer.MIN_VALUE : i == 1 ? Integer.MAX_VALUE : i == 2 ? NONE : 1000003 * i;
            sum = 31 * sum + v;
            due("input", x.input(v, true), i + 1);
            due("numbers", x.look(5), i + 1);
        }
        due("the 17th", x.input(77, true), NONE);
        due("the 17th", x.input(NONE, true), NONE);
        due("still 16", x.look(5), 16);
        due("16, then 0 behind its end", x.run(0, 3), 31 * sum);
        due("all are gone", x.input(Integer.MIN_VALUE, false), 0);
        due("numbers", x.look(5), 0);
        due("0 alone", x.run(0, 3), 0);
        due("told again", x.input(9, true), 1);
        due("only that one", x.run(0, 3), ninesThen(16));
    }

    private static int ninesThen(int zeros) {
        int number = 9;
        for (int i = 0; i < zeros; i++) {
            number *= 31;
        }
        return number;
    }
}

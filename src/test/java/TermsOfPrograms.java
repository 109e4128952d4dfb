/** The sentences of the Terms on programs. */
final class TermsOfPrograms {
    private static final String LETTERS = "jfmxrp";
    private static final String DIGITS = "0123456789";
    /** Jobs 0, 1 and 2 on the servers 0, 1 and 2; orders for them are possible. */
    private static final String START = "3*addServer() add(10, 1, 0) add(20, 2, 1) add(30, 4, 2)";

    private TermsOfPrograms() {
    }

    static void all() {
        textOfHundred();
        orders();
        eachSign();
        spaces();
        numbers();
        orderOfReading();
        failsAtSign();
        failsAtOrder();
        placeOfFailure();
        nothingStays();
    }

    private static void textOfHundred() {
        Sentence.ofTerms("14 16", text());
        String orders = "p1;".repeat(33);
        Sentence.row("addServer() type(" + orders + " )=100 run()=33 count(14)=0");
        Sentence.row("addServer() type(" + orders + ")=99 run()=33");
        Sentence.row("addServer() type(" + orders + "p)=100 append(49)=FULL run()=-1100 count(14)=100");
        Sentence.row("addServer() type(" + "p1;".repeat(32) + "p01;)=100 append(59)=FULL run()=-1098");
        Sentence.row("addServer() type(" + " ".repeat(97) + "p1;)=100 run()=1");
        Sentence.row("type(" + " ".repeat(100) + ")=100 run()=0 count(14)=0");
        Sentence.row("type(" + " ".repeat(99) + "p)=100 run()=-1100");
    }

    private static String text() {
        return "A text of at most 100 characters can be run as a program: orders (possibly none), each of which ends with"
                + " \";\", a letter and then numbers: \"j\" SIZE PRICE SERVER (add), \"f\" JOB (finish), \"m\" JOB SERVER"
                + " (move), \"x\" JOB JOB (exchange), \"r\" JOB JOB JOB (ring), \"p\" STEPS (even).";
    }

    private static void orders() {
        Sentence.ofTerms("16", text());
        Sentence.row("run()=0 count(13)=1");
        Sentence.row(START + " type(j7 8 2;) run()=1 job(3, 0)=7 job(3, 1)=8 job(3, 2)=2");
        Sentence.row(START + " type(f1;) run()=1 job(1, 2)=NONE job(0, 2)=0");
        Sentence.row(START + " type(m1 2;) run()=1 job(1, 2)=2 count(12)=1 count(10)=498");
        Sentence.row(START + " type(x1 2;) run()=1 job(1, 2)=2 job(2, 2)=1 count(12)=2 count(10)=494");
        Sentence.row(START + " type(r0 1 2;) run()=1 job(0, 2)=1 job(1, 2)=2 job(2, 2)=0 count(12)=3 count(10)=493");
        Sentence.row(START + " type(r0 2 1;) run()=1 job(0, 2)=2 job(1, 2)=0 job(2, 2)=1");
        Sentence.row("3*addServer() 6*add(10, 1, 0) type(p2;) run()=1 server(0, 1)=40 server(1, 1)=20 count(12)=2");
        Sentence.row("3*addServer() 6*add(10, 1, 0) type(p30;) run()=1 count(9)=1 count(12)=5");
        // Each order wants its own count of numbers, no more and no fewer.
        for (String fewer : new String[] {"j;", "j1;", "j1 2;", "f;", "m;", "m0;", "x;", "x0;", "r;", "r0;", "r0 1;", "p;"}) {
            fails(fewer.length() - 1, fewer);
        }
        for (String more : new String[] {"j1 2 0 0", "f0 0", "m0 1 0", "x0 1 0", "r0 1 2 0", "p1 0"}) {
            fails(more.length() - 1, more + ";");
        }
        fails(2, "f0");
        fails(2, "f0f1;");
    }

    private static void fails(int place, String text) {
        failsOn(place, START, text);
    }

    /** A text that fails at a place, with all that a refused call must leave as it is. */
    private static void failsOn(int place, String start, String text) {
        Sentence.refused(-1000 - place, start + " type(" + text + ")", "run()");
    }

    /** Each sign behind a text is allowed there or not, and ends an order or not. */
    private static void eachSign() {
        Sentence.ofTerms("16", signRule());
        for (String between : new String[] {"", " ", "   "}) {
            signs(between, LETTERS, " ", 0);
        }
        signs("p1;", LETTERS, " ", 1);
        signs("f1 ; ", LETTERS, " ", 1);
        signs("p1;p1;", LETTERS, " ", 2);
        for (String letter : new String[] {"j", "f", "m", "x", "r", "p", "j ", "p  ", " m"}) {
            signs(letter, " " + DIGITS, "", 0);
        }
        // The last number of an order may go on, or the order may end; the others cannot be the last one.
        signs("p1", " " + DIGITS, ";", 1);
        signs("f0", " ", ";", 1);
        signs("f1 ", " ", ";", 1);
        signs("m1", " " + DIGITS, "", 0);
        signs("m0", " ", "", 0);
        signs("m0 ", " " + DIGITS, "", 0);
        signs("m0 1", " " + DIGITS, ";", 1);
        signs("m1 0", " ", ";", 1);
        signs("m0 1 ", " ", ";", 1);
        signs("x0 1", " " + DIGITS, ";", 1);
        signs("x1 0 ", " ", ";", 1);
        signs("j1 2", " " + DIGITS, "", 0);
        signs("j1 2 ", " " + DIGITS, "", 0);
        signs("j1 2 0", " ", ";", 1);
        signs("j1 2 1", " " + DIGITS, ";", 1);
        signs("r0 1", " " + DIGITS, "", 0);
        signs("r0 1 2", " " + DIGITS, ";", 1);
        signs("r2 1 0  ", " ", ";", 1);
        signs("j1", " " + DIGITS, "", 0);
        signs("j10", " " + DIGITS, "", 0);
        signs("j100", " " + DIGITS, "", 0);
        signs("j1000", " ", "", 0);
        signs("j0", " ", "", 0);
    }

    /** Signs that go on, signs that end an order or stand between two, and how many orders there are then. */
    private static void signs(String before, String goingOn, String ending, int orders) {
        for (int sign = 1; sign <= 255; sign++) {
            Told told = Told.of(START + (before.isEmpty() ? "" : " type(" + before + ")") + " append(" + sign + ")");
            int want = -1000 - before.length();
            if (goingOn.indexOf(sign) >= 0) {
                want--;
            } else if (ending.indexOf(sign) >= 0) {
                want = orders;
            }
            Due.due(told + " run()", told.answer("run()"), want);
        }
    }

    private static void spaces() {
        Sentence.ofTerms("16", "Spaces (code 32) may stand before, between and after letters, numbers and \";\".");
        for (String text : new String[] {"m0 1;", " m0 1;", "m 0 1;", "m0  1;", "m0 1 ;", "m0 1; ", "   m   0   1   ;   "}) {
            Sentence.row(START + " type(" + text + ") run()=1 job(0, 2)=1");
        }
        Sentence.row(START + " type( f 1 ;  j 5  6  0 ; p 1 ; ) run()=3 count(2)=4 job(3, 0)=5 job(3, 1)=6 job(3, 2)=0");
        // No other white space, and none of the codes beside 32.
        for (int sign : new int[] {9, 10, 11, 12, 13, 31, 33, 133, 160}) {
            Sentence.refused(-1000, START + " append(" + sign + ") type(m0 1;)", "run()");
            Sentence.refused(-1001, START + " type(m) append(" + sign + ") type(0 1;)", "run()");
            Sentence.refused(-1002, START + " type(m0) append(" + sign + ") type(1;)", "run()");
            Sentence.refused(-1004, START + " type(m0 1) append(" + sign + ") type(;)", "run()");
            Sentence.refused(-1005, START + " type(m0 1;) append(" + sign + ")", "run()");
        }
        // A space ends a number.
        fails(3, "p1 0;");
        Sentence.row(START + " type(p10;) run()=1");
    }

    private static void numbers() {
        Sentence.ofTerms("16", "A number is a run of digits, of 1 to 4 digits, the first of several not 0; at least one"
                + " space stands between two numbers.");
        Sentence.row("addServer() type(j9 0 0;j10 10 0;j100 100 0;j1000 0 0;) run()=4 job(0, 0)=9 job(1, 0)=10 job(1, 1)=10"
                + " job(2, 0)=100 job(2, 1)=100 job(3, 0)=1000 job(3, 1)=0");
        Sentence.row("addServer() type(j234 56 0;j987 65 0;) run()=2 job(0, 0)=234 job(0, 1)=56 job(1, 0)=987 job(1, 1)=65");
        // 9999 is a number, but no size; of 10000 the last digit is one too many.
        failsOn(0, "addServer()", "j9999 0 0;");
        failsOn(0, "addServer()", "j1 9999 0;");
        failsOn(0, "addServer()", "j1 0 9999;");
        failsOn(5, "addServer()", "j10000 0 0;");
        failsOn(7, "addServer()", "j1 10000 0;");
        failsOn(9, "addServer()", "j1 0 10000;");
        failsOn(5, "addServer()", "j100000 0 0;");
        // Behind a first 0 there is no digit.
        failsOn(2, "addServer()", "j01 0 0;");
        failsOn(4, "addServer()", "j1 00 0;");
        failsOn(6, "addServer()", "j1 0 00;");
        failsOn(2, "addServer()", "j0000 0 0;");
        Sentence.row("2*addServer() type(j101 0 0;j1 0 1;) run()=2 job(0, 0)=101 job(1, 2)=1");
        // Without a space there is but one number.
        fails(3, "m12;");
        Sentence.row(START + " type(m1 2;) run()=1");
        fails(1, "m-1 2;");
        fails(1, "m+1 2;");
    }

    private static void orderOfReading() {
        Sentence.ofTerms("16", "The orders are read and run one by one, each as its \";\" is read.");
        // Each one meets what the one before has made.
        Sentence.row("2*addServer() type(j5 1 0;m0 1;m0 0;x0 1;) run()=-1017 count(2)=0");
        Sentence.row("2*addServer() type(j5 1 0;j6 1 1;x0 1;f0;m1 1;) run()=5 job(0, 2)=NONE job(1, 2)=1 job(1, 3)=2"
                + " count(12)=3 count(10)=497");
        failsOn(7, "2*addServer()", "j5 1 0;m1 1;j6 1 1;");
        // An order that fails is met before a sign behind its ";", and behind a sign before it.
        fails(0, "f9;?");
        fails(0, "f9;f");
        fails(2, "f9?;");
        fails(3, "f9 9;");
        fails(2, "f9");
        fails(5, "f0;f9?;");
    }

    private static String signRule() {
        return "A program fails at the first character that is not allowed where it stands (also a digit too many, be it"
                + " one behind a 0), and at the first order whose call returns an error code (the place is then that of its"
                + " letter).";
    }

    private static void failsAtSign() {
        Sentence.ofTerms("16", signRule());
        fails(0, ";");
        fails(0, "1");
        fails(0, "P1;");
        fails(3, "p1;;");
        fails(4, "p1; ;");
        fails(1, "pp1;");
        fails(2, "p1p1;");
        fails(3, "p1;?!");
        fails(5, "p1000?;");
        // A digit too many, also behind a 0.
        fails(5, "p10000;");
        fails(2, "p00;");
        fails(2, "p010000;");
        fails(3, "f 09;");
    }

    private static void failsAtOrder() {
        Sentence.ofTerms("16", signRule());
        fails(0, "j0 0 0;");
        fails(0, "j1001 0 0;");
        fails(0, "j1 101 0;");
        fails(0, "j1 0 3;");
        failsOn(1, START + " close(0)", " j1 0 0;");
        failsOn(0, "addServer() 24*add(1, 1, 0)", "j1 0 0;");
        failsOn(8, "addServer() 23*add(1, 1, 0)", "j1 0 0; j1 0 0;");
        fails(2, "  f3 ;");
        fails(4, "f1; f1;");
        fails(0, "m0 3;");
        fails(0, "m0 0;");
        fails(0, "m3 0;");
        fails(0, "x0 3;");
        fails(0, "x0 0;");
        fails(0, "r0 1 3;");
        fails(0, "r0 1 0;");
        fails(0, "p0;");
        fails(0, "p31;");
        fails(6, "p1;p1;p31;");
        // The answers 0 and NONE of what is done are no errors: a plan without a step, a server without a load.
        Sentence.row("2*addServer() type(p1;j1 0 0;f0;p30;) run()=4");
    }

    private static void placeOfFailure() {
        Sentence.ofTerms("16", "The place of a failure is the offset (from 0) of this character, or the length of the text if"
                + " it ends where something is missing.");
        fails(0, "?");
        fails(1, " ?");
        fails(4, "p1; ?");
        failsOn(99, "", " ".repeat(99) + "?");
        for (String text : new String[] {"j", "j ", "j1", "j1 ", "j1 2", "j1 2 ", "j1 2 0", "j1 2 0 ", "f", "f0", "m0", "m0 1",
            "x0 1", "r0 1", "r0 1 2", "p", "p1", " p1  ", "p1;p", "p1; p1", "j1 2 0; f0 ;m1 2"}) {
            fails(text.length(), text);
        }
        failsOn(100, "", " ".repeat(99) + "p");
        // Nothing is missing behind a ";" and behind spaces.
        Sentence.row(START + " type(p1;) run()=1 type(p1;  ) run()=1 type(  ) run()=0 run()=0");
    }

    private static void nothingStays() {
        Sentence.ofTerms("16", "If a program fails, nothing that it has done stays.");
        String[] done = {"j5 5 1;", "f0;", "m0 1;", "x0 1;", "r0 1 2;", "p1;", "j90 0 0;j80 0 0;p30;"};
        for (String orders : done) {
            Sentence.row(START + " type(" + orders + ") run()");
            fails(orders.length(), orders + "?");
            fails(orders.length(), orders + "f9;");
            fails(orders.length() + 1, orders + "p");
        }
        failsOn(18, START + " setBudget(20) setFactor(100)", "j5 5 1;m0 1;f1;p9;?");
        Sentence.row("type(f0;) run()=-1000 count(13)=0 undo()=ILLEGAL count(14)=3");
    }
}

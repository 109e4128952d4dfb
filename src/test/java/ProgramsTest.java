/** Promises 14 to 16: append, clearText, run. */
public final class ProgramsTest {
    public static void main(String[] args) {
        append();
        clearText();
        runOrders();
        runIsOneAction();
        spaces();
        numbers();
        wrongSigns();
        missingAtTheEnd();
        failingOrders();
        failuresLeaveNothing();
        longTexts();
        Due.end();
    }

    private static void append() {
        EvenLoads x = new EvenLoads();
        for (int sign : new int[] {0, 256, -1, Integer.MIN_VALUE, Integer.MAX_VALUE}) {
            Due.due("14 append", x.append(sign), Due.INVALID);
        }
        Due.due("14 least", x.append(1), 1);
        Due.due("14 most", x.append(255), 2);
        for (int length = 3; length <= 100; length++) {
            Due.due("14 append", x.append(' '), length);
        }
        Due.due("14 full", x.append(' '), Due.FULL);
        Due.due("14 range before room", x.append(0), Due.INVALID);
        Due.due("14 range before room", x.append(256), Due.INVALID);
        Due.due("14 count(14)", x.count(14), 100);
        Due.due("14 no action", x.count(13), 0);
    }

    private static void clearText() {
        EvenLoads x = Due.servers(1);
        Due.due("15 empty", x.clearText(), 0);
        Due.type(x, "zzz");
        Due.due("15 clearText()", x.clearText(), 3);
        Due.due("15 count(14)", x.count(14), 0);
        Due.due("15 no action", x.count(13), 1);
        Due.due("15 twice", x.clearText(), 0);
        Due.type(x, "j2 3 0;");
        Due.due("15 nothing of the old text", x.run(), 1);
    }

    private static void runOrders() {
        EvenLoads x = Due.servers(3);
        Due.due("16 jobs", Due.runText(x, "j10 1 0;j20 2 1;j30 4 2;"), 3);
        Due.due("16 the text is empty", x.count(14), 0);
        Due.due("16 jobs", x.count(2), 3);
        Due.due("16 size", x.job(1, 0), 20);
        Due.due("16 price", x.job(1, 1), 2);
        Due.due("16 server", x.job(1, 2), 1);
        Due.due("16 move", Due.runText(x, "m0 2;"), 1);
        Due.due("16 server", x.job(0, 2), 2);
        Due.due("16 exchange", Due.runText(x, "x1 2;"), 1);
        Due.due("16 server", x.job(1, 2), 2);
        Due.due("16 server", x.job(2, 2), 1);
        Due.due("16 and back", Due.runText(x, "m0 0;"), 1);
        Due.due("16 ring", Due.runText(x, "r0 1 2;"), 1);
        Due.due("16 server", x.job(0, 2), 2);
        Due.due("16 server", x.job(1, 2), 1);
        Due.due("16 server", x.job(2, 2), 0);
        Due.due("16 finish", Due.runText(x, "f2;"), 1);
        Due.due("16 finished", x.job(2, 2), Due.NONE);
        Due.due("16 moves", x.count(12), 7);
        EvenLoads y = Due.servers(2);
        Due.due("16 even", Due.runText(y, "j8 1 0;j8 1 0;p30;"), 3);
        Due.due("16 even", y.server(1, 1), 8);
        Due.due("16 even without steps", Due.runText(y, "p1;p30;"), 2);
    }

    private static void runIsOneAction() {
        EvenLoads x = Due.servers(2);
        String before = Due.picture(x);
        Due.due("16 run", Due.runText(x, "j1 1 0;j2 2 0;m0 1;f1;j3 0 1;x0 3;"), -1029);
        Due.same("16 nothing stays", Due.picture(x), before);
        Due.due("16 no action", x.count(13), 2);
        Due.due("16 run", Due.runText(x, "j1 1 0;j2 2 0;m0 1;f1;j3 0 1;j4 0 1;j5 0 0;"), 7);
        Due.due("16 one action", x.count(13), 3);
        x.undo();
        Due.same("16 undone as one", Due.picture(x), before);
        Due.due("16 states", x.count(13), 2);
        Due.due("16 without orders", x.run(), 0);
        Due.due("16 is an action", x.count(13), 3);
        Due.due("16 spaces alone", Due.runText(x, "   "), 0);
        Due.due("16 is an action", x.count(13), 4);
        Due.due("16 the text is empty", x.count(14), 0);
    }

    private static void spaces() {
        EvenLoads x = Due.servers(2);
        Due.due("16 spaces", Due.runText(x, "  j  5   6  0  ;  m 0  1 ; "), 2);
        Due.due("16 size", x.job(0, 0), 5);
        Due.due("16 price", x.job(0, 1), 6);
        Due.due("16 server", x.job(0, 2), 1);
        Due.due("16 no other white", Due.runText(x, "p\t1;"), -1001);
        Due.due("16 no other white", Due.runText(x, "\np1;"), -1000);
        Due.due("16 no other white", Due.runText(x, "p1;" + (char) 160), -1003);
        Due.due("16 a space in a number", Due.runText(x, "p1 0;"), -1003);
    }

    private static void numbers() {
        EvenLoads x = Due.servers(1);
        Due.due("16 four digits", Due.runText(x, "j1000 0 0;"), 1);
        Due.due("16 size", x.job(0, 0), 1000);
        Due.due("16 out of range", Due.runText(x, "j9999 0 0;"), -1000);
        Due.due("16 five digits", Due.runText(x, "j10000 0 0;"), -1005);
        Due.due("16 five digits", Due.runText(x, "j1 10000 0;"), -1007);
        Due.due("16 behind a 0", Due.runText(x, "j01 0 0;"), -1002);
        Due.due("16 behind a 0", Due.runText(x, "j1 00 0;"), -1004);
        Due.due("16 behind a 0", Due.runText(x, "j1 0 00;"), -1006);
        Due.due("16 a 0 inside", Due.runText(x, "j101 0 0;"), 1);
        Due.due("16 size", x.job(1, 0), 101);
        Due.due("16 no sign", Due.runText(x, "j-1 0 0;"), -1001);
        Due.due("16 no sign", Due.runText(x, "j+1 0 0;"), -1001);
        Due.due("16 two digits", Due.runText(x, "p30;"), 1);
    }

    private static void wrongSigns() {
        EvenLoads x = Due.servers(3);
        Due.runText(x, "j1 1 0;j2 2 1;j3 3 2;");
        String[] texts = {
            ";", " ;", "1", "a", "J1 1 0;", "jj", "p;", "p1", "p1 1;", "p1p", "p1;;", "f;", "f0 1;",
            "m0;", "m 0 ;", "m0 1 2;", "m0,1;", "x0;", "x0 1 2;", "r0 1;", "r0 1 2 3;", "j1 1;",
            "j1 1 0 ;5", "p1;q", "p1:", "p/", "m0 m", "o0;", "a1;", "c1;", "p" + (char) 255, "k",
        };
        int[] places = {
            0, 1, 0, 0, 0, 1, 1, 2, 3, 2, 3, 1, 3,
            2, 4, 5, 2, 2, 5, 4, 7, 4,
            8, 3, 2, 1, 3, 0, 0, 0, 1, 0,
        };
        Due.due("16 rows", texts.length, places.length);
        String before = Due.picture(x);
        for (int i = 0; i < texts.length; i++) {
            Due.due("16 run of " + texts[i], Due.runText(x, texts[i]), -1000 - places[i]);
            Due.due("16 the text is kept", x.clearText(), texts[i].length());
        }
        Due.same("16 nothing changed", Due.picture(x), before);
    }

    private static void missingAtTheEnd() {
        EvenLoads x = Due.servers(2);
        String[] texts = {"j", "j ", "j1", "j1 ", "j1 2", "j1 2 ", "j1 2 0", "j1 2 0 ", "p1;p", "p1;p1"};
        for (String text : texts) {
            Due.due("16 run of " + text, Due.runText(x, text), -1000 - text.length());
        }
        Due.due("16 the text is kept", x.append(';'), 6);
        Due.due("16 and can go on", x.run(), 2);
    }

    private static void failingOrders() {
        EvenLoads x = Due.servers(2);
        Due.due("16 no such job", Due.runText(x, " f0;"), -1001);
        Due.due("16 the order is first", Due.runText(x, "  f 0 ;?"), -1002);
        Due.due("16 the sign is first", Due.runText(x, "f?;"), -1001);
        Due.due("16 size", Due.runText(x, "j0 0 0;"), -1000);
        Due.due("16 price", Due.runText(x, "j1 101 0;"), -1000);
        Due.due("16 server", Due.runText(x, "j1 1 2;"), -1000);
        Due.due("16 steps", Due.runText(x, "p0;"), -1000);
        Due.due("16 steps", Due.runText(x, "p1; p31;"), -1004);
        Due.due("16 the same server", Due.runText(x, "j1 1 0;m0 0;"), -1007);
        Due.due("16 the same job", Due.runText(x, "j1 1 0;x0 0;"), -1007);
        Due.due("16 the same jobs", Due.runText(x, "j1 1 0;r0 0 0;"), -1007);
        Due.due("16 twice", Due.runText(x, "j1 1 0; f0; f0;"), -1012);
        x.close(1);
        Due.due("16 closed", Due.runText(x, "j1 1 1;"), -1000);
        x.open(1);
        x.setBudget(1);
        Due.due("16 budget", Due.runText(x, "j1 1 0;m0 1;m0 0;"), -1012);
    }

    private static void failuresLeaveNothing() {
        EvenLoads x = Due.servers(3);
        Due.runText(x, "j10 1 0;j20 2 0;j30 3 1;");
        x.setFactor(100);
        String before = Due.picture(x);
        String start = "j5 5 2;p30;m0 2;f1;x0 2;";
        Due.due("16 it runs", Due.runText(x, start + "?"), -1000 - start.length());
        Due.same("16 nothing stays", Due.picture(x), before);
        Due.due("16 no action", x.count(13), 5);
        Due.due("16 the text is kept", x.count(14), start.length() + 1);
        Due.due("16 and fails again", x.run(), -1000 - start.length());
        x.undo();
        Due.due("16 the state before is that before setFactor", x.count(11), 120);
    }

    private static void longTexts() {
        EvenLoads x = Due.servers(1);
        StringBuilder text = new StringBuilder();
        for (int i = 0; i < 33; i++) {
            text.append("p1;");
        }
        Due.due("16 33 orders", Due.runText(x, text + " "), 33);
        Due.due("16 one too long", Due.runText(x, text + "p"), -1100);
        EvenLoads y = Due.servers(1);
        String jobs = "j1 0 0;".repeat(14);
        Due.due("16 14 jobs", Due.runText(y, jobs), 14);
        Due.due("16 no room for the 11th", Due.runText(y, jobs), -1070);
        Due.due("16 14 jobs stay", y.count(2), 14);
    }
}

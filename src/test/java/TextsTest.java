/** Promises 28 to 31: the pad and its orders. */
public final class TextsTest {
    public static void main(String[] args) {
        say();
        wipe();
        fault();
        carryOut();
        Script.end();
    }

    private static void say() {
        Script.run("28", "say(32) = BAD_VALUE; say(127) = BAD_VALUE; say(0) = BAD_VALUE; say(-1) = BAD_VALUE;"
            + "say(LEAST) = BAD_VALUE; say(MOST) = BAD_VALUE; say(33) = 1; say(126) = 2; count(7) = 2");
        Script full = new Script("28 full");
        for (int i = 1; i <= 60; i++) {
            full.then("say(111) = " + i);
        }
        full.then("say(111) = TOO_MANY; say(32) = BAD_VALUE; count(7) = 60; wipe() = 60; say(111) = 1");
    }

    private static void wipe() {
        new Script("29").then("wipe() = 0").write("o0,x").then("wipe() = 4; count(7) = 0; wipe() = 0; fault() = 0")
            .write("o3").then("fault() = NONE");
    }

    private static void correct(String text) {
        new Script("30 " + text).write(text).then("fault() = NONE; count(7) = " + text.length());
    }

    private static void wrongAt(int fault, String text) {
        new Script("30 " + text).write(text)
            .then("fault() = " + fault + "; carryOut() = BAD_TEXT; count(7) = " + text.length());
    }

    private static void fault() {
        for (char letter : "odsl".toCharArray()) {
            for (int train = 0; train < 12; train++) {
                correct("" + letter + train);
            }
            wrongAt(2, letter + "12");
            wrongAt(2, letter + "00");
            wrongAt(2, letter + "20");
            wrongAt(3, letter + "110");
            wrongAt(1, letter + "+");
            wrongAt(2, letter + "0+");
            wrongAt(1, "" + letter);
        }
        for (char letter : "yncaue".toCharArray()) {
            for (int section = 0; section < 5; section++) {
                correct("" + letter + section + "+");
                correct("" + letter + section + "-");
            }
            wrongAt(1, letter + "5");
            wrongAt(1, "" + letter);
            wrongAt(2, letter + "1");
            wrongAt(2, letter + "1,");
            wrongAt(2, letter + "10+");
            wrongAt(3, letter + "1++");
            wrongAt(1, letter + "-1");
        }
        for (int ticks : new int[] {1, 9, 10, 19, 20, 99}) {
            correct("t" + ticks);
        }
        ticksAndLists();
        for (char sign = 33; sign < 127; sign++) {
            if ("odslyncaueut".indexOf(sign) < 0) {
                wrongAt(0, "" + sign);
                wrongAt(3, "o1," + sign + "1");
            }
        }
    }

    private static void ticksAndLists() {
        wrongAt(1, "t0");
        wrongAt(1, "t");
        wrongAt(3, "t100");
        wrongAt(2, "t1+");
        wrongAt(1, "t,");
        wrongAt(0, "");
        wrongAt(0, ",");
        wrongAt(3, "o1,");
        wrongAt(3, "o1,,");
        wrongAt(4, "t10,");
        wrongAt(4, "o10,O1");
        wrongAt(5, "o1,y0");
        wrongAt(7, "o1,y0+,");
        wrongAt(3, "o1,xo");
        correct("o1,o11,t1,t99,y4-,e0+");
        correct("t12,".repeat(14) + "o11");
        correct("o0,".repeat(19) + "t10");
        wrongAt(60, "o0,".repeat(20));
        wrongAt(60, "t12,".repeat(14) + "o11,");
        wrongAt(60, "o0,".repeat(19) + "t1,");
        wrongAt(60, "o0,".repeat(19) + "o1,");
        wrongAt(59, "o0,".repeat(19) + "o1x");
    }

    private static void carryOut() {
        new Script("31 all letters").then("setUp(3, 0) = 0; appear(1, 0) = 0; carryOut() = BAD_TEXT")
            .write("o0,n0+,o0,c0+,o0,y0+,d0,t5,a0+,u0+").then("carryOut() = 10; count(7) = 0; count(0) = 5; train(0, 3) = 1;"
            + "signal(1, 4) = 1; signal(3, 4) = 35; signal(5, 4) = 4; signal(6, 4) = 2; signal(7, 4) = 21")
            .write("s0,s0,o0,y1+,d0,t4,t1,a1+,l0").then("carryOut() = 9; train(0, 2) = GONE; train(0, 7) = 10");
        new Script("31 direction 1").then("setUp(2, 0) = 0; appear(1, 1) = 0").write("o0,y0-,d0,t99,a0-,u0-,l0")
            .then("carryOut() = 7; count(2) = 1; count(0) = 99");
        new Script("31 both directions").then("setUp(2, 0) = 0; appear(1, 1) = 0; appear(1, 0) = 1")
            .write("o0,o1,y0-,n0+,d0,o1,y0+,c0+").then("carryOut() = 8; signal(3, 2) = 0; signal(6, 2) = 0; signal(7, 2) = 0");
        new Script("31 engine").then("appear(1, 0) = 0").write("o0,y0+,d0").then("carryOut() = 3; divide(0) = 0")
            .write("t5,a0+,e0+,t10,u0+,e0+,t1").then("carryOut() = 5; count(0) = 15; rung(22, 0) = 1; rung(21, 0) = 1");
        new Script("31 until one fails").then("appear(1, 0) = 0").write("o0,o0,y0+").then("carryOut() = 1; count(7) = 0;"
            + "count(9) = 1; block(0, 0, 0) = NORMAL; count(4) = 1")
            .write("y0-,y0+").then("carryOut() = 0; count(7) = 0; count(9) = 1")
            .write("y4+").then("carryOut() = 0").write("o11").then("carryOut() = 0; carryOut() = BAD_TEXT");
        new Script("31 a text with a fault does nothing").then("appear(1, 0) = 0").write("o0,y0+,").then(
            "carryOut() = BAD_TEXT; count(7) = 7; count(9) = 0; say(100) = 8; say(48) = 9; carryOut() = 3;"
            + "train(0, 2) = RUNNING");
        Script eleven = new Script("31 trains of two digits").then("setUp(2, 0) = 0; setTime(0, 1) = 5");
        for (int i = 0; i < 11; i++) {
            eleven.then("appear(1, 0) = " + i + "; work(2) = 1");
        }
        eleven.then("pass(1) = 23; out(0, 0) = 21; appear(2, 0) = 11").write("o11,y0+,d11").then("carryOut() = 3;"
            + "train(11, 2) = RUNNING; train(1, 2) = GONE");
        new Script("31 the longest list").write("t1,".repeat(19) + "t10").then("carryOut() = 20; count(0) = 29");
    }
}

/** Promises 1 to 7: the line and what is told of it. */
public final class LineTest {
    public static void main(String[] args) {
        newObject();
        setUp();
        setTime();
        setLoops();
        moveTokens();
        section();
        block();
        Script.end();
    }

    private static void newObject() {
        Script.run("1 counts", "count(0) = 0; count(1) = 0; count(2) = 0; count(3) = 0; count(4) = 0; count(5) = 0;"
            + "count(6) = 4; count(7) = 0; count(8) = 0; count(9) = 0; fault() = 0; restore(0) = NOT_POSSIBLE;"
            + "restore(1) = NOT_POSSIBLE; signal(0, 0) = NONE; train(0, 0) = NO_SUCH");
        for (int s = 0; s < 3; s++) {
            Script.run("1 section " + s, fill("section(#, 0) = 0; section(#, 1) = 5; section(#, 2) = 0;"
                + "section(#, 3) = 0; section(#, 4) = 0; block(#, 0, 0) = NORMAL; block(#, 1, 0) = NORMAL;"
                + "block(#, 0, 1) = NONE; block(#, 1, 2) = NONE; block(#, 0, 3) = 0; block(#, 1, 4) = 0", s));
        }
        for (int box = 0; box < 4; box++) {
            Script.run("1 box " + box, fill("setLoops(#, 0, 1) = 1; setLoops(#, 1, 1) = 1", box));
        }
    }

    private static void setUp() {
        Script.run("2 range", "setUp(1, 0) = BAD_VALUE; setUp(7, 0) = BAD_VALUE; setUp(0, 0) = BAD_VALUE;"
            + "setUp(-2, 0) = BAD_VALUE; setUp(33, 0) = BAD_VALUE; setUp(LEAST, 1) = BAD_VALUE;"
            + "setUp(4, -1) = BAD_VALUE; setUp(4, LEAST) = BAD_VALUE; setUp(4, 8) = BAD_VALUE; setUp(2, 2) = BAD_VALUE;"
            + "setUp(6, 32) = BAD_VALUE; setUp(6, MOST) = BAD_VALUE; count(6) = 4");
        Script.run("2 least and most", "setUp(2, 1) = 0; count(6) = 2; section(0, 0) = 1; section(1, 0) = NO_SUCH;"
            + "setUp(6, 31) = 0; count(6) = 6; section(4, 0) = 1; section(4, 2) = 5; section(4, 3) = 5;"
            + "section(5, 0) = NO_SUCH; setUp(6, 10) = 0; section(0, 0) = 0; section(1, 0) = 1; section(2, 0) = 0;"
            + "section(3, 0) = 1; section(4, 0) = 0; section(4, 2) = 0; setUp(3, 0) = 0; setUp(3, 3) = 0");
        new Script("2 as at first").then("appear(1, 0) = 0; appear(1, 1) = 1; offer(0) = 4; answer(0, 0, yes) = 4;"
            + "depart(0) = 5; divide(0) = 0; offer(1) = 4; obstruct(1, 0) = 0; setTime(1, 9) = 5; setLoops(2, 1, 3) = 1;"
            + "pass(7) = 7; admit(0, 0) = 0; assist(0, 0) = 10; save(1) = 7")
            .write("o1")
            .then("setUp(4, 0) = 2; count(0) = 0; count(1) = 0; count(2) = 0; count(3) = 0; count(4) = 0; count(5) = 0;"
            + "count(7) = 2; count(8) = 0; count(9) = 0; section(1, 1) = 5; setLoops(2, 1, 1) = 1; block(0, 0, 0) = 0;"
            + "block(0, 0, 2) = NONE; block(0, 0, 4) = 0; block(2, 1, 1) = NONE; signal(0, 0) = NONE; rung(4, -1) = 0;"
            + "train(0, 0) = NO_SUCH; fault() = NONE; appear(5, 0) = 0; train(0, 0) = 5; train(0, 5) = 1;"
            + "train(0, 6) = 0; restore(1) = 7; count(1) = 2; restore(0) = NOT_POSSIBLE; setUp(2, 0) = 2");
        Script.run("2 train that was running", "appear(5, 0) = 0; offer(0) = 41; answer(0, 0, yes) = 41; depart(0) = 9;"
            + "setUp(3, 0) = 1; appear(1, 1) = 0; train(0, 2) = ON_LINE; train(0, 3) = 2; train(0, 4) = 0");
        Script.run("2 tokens", "setUp(2, 1) = 0; moveTokens(0, 3) = 2; setUp(2, 1) = 0; section(0, 2) = 5;"
            + "section(0, 3) = 5; appear(1, 0) = 0; offer(0) = 4; answer(0, 0, yes) = 4; section(0, 4) = 1;"
            + "setUp(2, 1) = 1; section(0, 4) = 0; section(0, 2) = 5");
    }

    private static void setTime() {
        Script.run("3", "setTime(0, 1) = 5; setTime(0, 30) = 1; setTime(0, 7) = 30; section(0, 1) = 7;"
            + "section(1, 1) = 5; setTime(2, 8) = 5; setTime(-1, 5) = NO_SUCH; setTime(3, 5) = NO_SUCH;"
            + "setTime(3, 0) = NO_SUCH; setTime(LEAST, 5) = NO_SUCH; setTime(MOST, 5) = NO_SUCH;"
            + "setTime(0, 0) = BAD_VALUE; setTime(0, 31) = BAD_VALUE; setTime(0, -5) = BAD_VALUE; section(0, 1) = 7");
        Script.run("3 running trains", "appear(2, 0) = 0; offer(0) = 31; answer(0, 0, yes) = 31; setTime(0, 9) = 5;"
            + "depart(0) = 10; setTime(0, 2) = 9; train(0, 4) = 10; pass(10) = 10; admit(0, 0) = 0");
        Script.run("3 running engine", "appear(1, 0) = 0; offer(0) = 4; answer(0, 0, yes) = 4; depart(0) = 5;"
            + "divide(0) = 0; pass(5) = 5; admit(0, 0) = 0; assist(0, 0) = 10; setTime(0, 1) = 5; block(0, 0, 4) = 10");
    }

    private static void setLoops() {
        Script.run("4", "setLoops(0, 0, 3) = 1; setLoops(0, 0, 0) = 3; setLoops(0, 0, 2) = 0; setLoops(0, 1, 1) = 1;"
            + "setLoops(3, 1, 2) = 1; setLoops(-1, 0, 1) = NO_SUCH; setLoops(4, 0, 1) = NO_SUCH;"
            + "setLoops(0, -1, 1) = NO_SUCH; setLoops(0, 2, 1) = NO_SUCH; setLoops(4, 2, 9) = NO_SUCH;"
            + "setLoops(0, 0, -1) = BAD_VALUE; setLoops(0, 0, 4) = BAD_VALUE; setLoops(MOST, 0, 1) = NO_SUCH;"
            + "setLoops(0, LEAST, 1) = NO_SUCH; setLoops(0, 0, 2) = 2");
        Script.run("4 trains in loops", "setLoops(0, 0, 3) = 1; appear(1, 0) = 0; shunt(0) = IN_LOOP; appear(1, 0) = 1;"
            + "shunt(1) = IN_LOOP; appear(1, 0) = 2; setLoops(0, 0, 1) = NOT_POSSIBLE; setLoops(0, 0, 0) = NOT_POSSIBLE;"
            + "setLoops(0, 0, 4) = BAD_VALUE; setLoops(0, 0, 2) = 3; setLoops(0, 1, 0) = 1; setLoops(1, 0, 0) = 1;"
            + "shunt(2) = NOT_POSSIBLE");
    }

    private static void moveTokens() {
        Script.run("5", "setUp(4, 5) = 0; moveTokens(0, 2) = 3; section(0, 2) = 3; section(0, 3) = 7;"
            + "moveTokens(0, -4) = 7; section(0, 3) = 3; moveTokens(0, 0) = 7; moveTokens(0, 7) = 0;"
            + "moveTokens(0, -10) = 10; moveTokens(0, 10) = 0; moveTokens(0, 1) = NOT_POSSIBLE;"
            + "moveTokens(2, -6) = NOT_POSSIBLE; moveTokens(2, 6) = NOT_POSSIBLE; moveTokens(2, -5) = 10;"
            + "moveTokens(1, 0) = NOT_POSSIBLE; moveTokens(1, 11) = BAD_VALUE; moveTokens(0, -11) = BAD_VALUE;"
            + "moveTokens(0, LEAST) = BAD_VALUE; moveTokens(3, 0) = NO_SUCH; moveTokens(-1, 11) = NO_SUCH");
        Script.run("5 with a token out", "setUp(2, 1) = 0; appear(1, 0) = 0; offer(0) = 4; answer(0, 0, yes) = 4;"
            + "moveTokens(0, -5) = 9; moveTokens(0, -1) = NOT_POSSIBLE; moveTokens(0, 10) = NOT_POSSIBLE;"
            + "moveTokens(0, 9) = 0; cancel(0, 0) = 35; section(0, 2) = 1; section(0, 3) = 9");
    }

    private static void section() {
        Script.run("6", "setUp(3, 2) = 0; setTime(1, 12) = 5; section(0, 0) = 0; section(0, 2) = 0; section(0, 3) = 0;"
            + "section(0, 4) = 0; section(1, 0) = 1; section(1, 1) = 12; section(1, 2) = 5; section(1, 3) = 5;"
            + "section(1, 4) = 0; section(1, 5) = BAD_VALUE; section(1, -1) = BAD_VALUE; section(2, 0) = NO_SUCH;"
            + "section(-1, 9) = NO_SUCH; section(LEAST, 0) = NO_SUCH; section(0, MOST) = BAD_VALUE");
        Script.run("6 token of the higher box", "setUp(3, 2) = 0; appear(3, 1) = 0; offer(0) = 5;"
            + "answer(1, 1, yes) = 5; section(1, 2) = 5; section(1, 3) = 4; section(1, 4) = 1; depart(0) = 7;"
            + "section(1, 4) = 1; pass(7) = 7; admit(1, 1) = 0; section(1, 4) = 1; out(1, 1) = 21; section(1, 4) = 0;"
            + "section(1, 2) = 6; section(1, 3) = 4");
        Script.run("6 no token of a double one", "appear(1, 0) = 0; offer(0) = 4; answer(0, 0, yes) = 4;"
            + "section(0, 4) = 0; section(0, 2) = 0; depart(0) = 5; pass(5) = 5; admit(0, 0) = 0; out(0, 0) = 21;"
            + "section(0, 3) = 0");
    }

    private static void block() {
        Script.run("7", "block(3, 0, 0) = NO_SUCH; block(-1, 0, 0) = NO_SUCH; block(0, 2, 0) = NO_SUCH;"
            + "block(0, -1, 9) = NO_SUCH; block(0, 0, 5) = BAD_VALUE; block(0, 0, -1) = BAD_VALUE;"
            + "block(MOST, 0, 0) = NO_SUCH; block(0, LEAST, 0) = NO_SUCH; appear(1, 0) = 0; shunt(0) = IN_LOOP;"
            + "appear(4, 0) = 1; offer(1) = 32; block(0, 0, 0) = NORMAL; block(0, 0, 1) = 1; block(0, 0, 2) = NONE;"
            + "answer(0, 0, yes) = 32; block(0, 0, 0) = CLEAR; block(0, 0, 1) = NONE; block(0, 0, 2) = 1; depart(1) = 8;"
            + "block(0, 0, 0) = OCCUPIED; block(0, 0, 2) = 1; block(0, 1, 0) = NORMAL; block(1, 0, 0) = NORMAL;"
            + "block(0, 0, 3) = 0; divide(1) = 0; block(0, 0, 3) = 1; block(0, 0, 4) = 0; pass(8) = 8;"
            + "admit(0, 0) = 1; block(0, 0, 0) = OCCUPIED; block(0, 0, 2) = 1; assist(0, 0) = 10; block(0, 0, 4) = 10;"
            + "pass(4) = 12; block(0, 0, 4) = 6; block(0, 0, 3) = 1; pass(6) = 18; block(0, 0, 3) = 0;"
            + "block(0, 0, 4) = 0; block(0, 0, 0) = OCCUPIED; out(0, 0) = 21; block(0, 0, 0) = NORMAL;"
            + "block(0, 0, 2) = NONE; obstruct(2, 1) = NORMAL; block(2, 1, 0) = OBSTRUCTED; block(2, 1, 2) = NONE");
    }

    private static String fill(String calls, int number) {
        return calls.replace("#", Integer.toString(number));
    }
}

/** Promises 13 to 24: bells, blocks, time and the register. */
public final class WorkingTest {
    private static final String RUN = "answer(0, 0, yes) = 4; depart(0) = 5; pass(5) = 5;";

    public static void main(String[] args) {
        offer();
        answer();
        cancel();
        depart();
        admit();
        out();
        assist();
        obstruct();
        lift();
        pass();
        signal();
        rung();
        Script.end();
    }

    /** That the latest signal of a run has these properties. */
    private static String rang(int number, int time, int section, int direction, int box, int code) {
        int[] properties = {time, section, direction, box, code};
        StringBuilder calls = new StringBuilder("count(4) = " + (number + 1) + ";");
        for (int what = 0; what < 5; what++) {
            calls.append("signal(" + number + ", " + what + ") = " + properties[what] + ";");
        }
        return calls.toString();
    }

    private static void offer() {
        int[] codes = {4, 31, 5, 32, 41};
        for (int kind = 1; kind <= 5; kind++) {
            int code = codes[kind - 1];
            Script.run("13 class " + kind, "pass(2) = 2; appear(" + kind + ", 0) = 0; offer(0) = " + code + ";"
                + rang(0, 2, 0, 0, 0, code) + "answer(0, 0, yes) = " + code + ";" + rang(1, 2, 0, 0, 1, code));
            Script.run("13 back, class " + kind, "appear(" + kind + ", 1) = 0; offer(0) = " + code + ";"
                + rang(0, 0, 2, 1, 3, code) + "answer(2, 1, yes) = " + code + ";" + rang(1, 0, 2, 1, 2, code));
        }
        Script.run("13 errors", "offer(0) = NO_SUCH; offer(-1) = NO_SUCH; offer(MOST) = NO_SUCH; appear(1, 0) = 0;"
            + "offer(1) = NO_SUCH; offer(0) = 4; offer(0) = NOT_POSSIBLE; answer(0, 0, yes) = 4; offer(0) = NOT_POSSIBLE;"
            + "depart(0) = 5; offer(0) = NOT_POSSIBLE; appear(1, 0) = 1; offer(1) = NOT_POSSIBLE; pass(5) = 5;"
            + "admit(0, 0) = 0; offer(1) = NOT_POSSIBLE; out(0, 0) = 21; offer(1) = 4; answer(0, 0, no) = 1;"
            + "obstruct(0, 0) = NORMAL; offer(1) = NOT_POSSIBLE; lift(0, 0) = 13; shunt(1) = IN_LOOP;"
            + "offer(1) = NOT_POSSIBLE; offer(0) = 4; block(1, 0, 1) = 0; work(10) = 0; train(0, 3) = 2;"
            + "work(1) = 1; offer(0) = NOT_POSSIBLE");
        Script.run("13 last box", "setUp(2, 0) = 0; appear(1, 0) = 0; offer(0) = 4;" + RUN + "admit(0, 0) = 0;"
            + "out(0, 0) = 21; offer(0) = NOT_POSSIBLE; leave(0) = 5; offer(0) = NOT_POSSIBLE");
        Script.run("13 both ways in a single section", "setUp(2, 1) = 0; appear(1, 0) = 0; appear(2, 1) = 1; offer(0) = 4;"
            + "offer(1) = 31; count(9) = 2");
    }

    private static void answer() {
        Script.run("14", "answer(0, 0, yes) = NOT_POSSIBLE; answer(0, 0, no) = NOT_POSSIBLE; answer(3, 0, yes) = NO_SUCH;"
            + "answer(-1, 0, no) = NO_SUCH; answer(0, 2, yes) = NO_SUCH; answer(0, -1, yes) = NO_SUCH; appear(3, 0) = 0;"
            + "offer(0) = 5; answer(0, 1, yes) = NOT_POSSIBLE; answer(0, 0, no) = 1; block(0, 0, 0) = NORMAL;"
            + "block(0, 0, 1) = NONE; block(0, 0, 2) = NONE;" + rang(1, 0, 0, 0, 1, 1)
            + "offer(0) = 5; answer(0, 0, yes) = 5; answer(0, 0, yes) = NOT_POSSIBLE; answer(0, 0, no) = NOT_POSSIBLE");
        Script.run("14 running line ahead", "setUp(3, 0) = 0; appear(1, 0) = 0; offer(0) = 4;" + RUN + "admit(0, 0) = 0;"
            + "out(0, 0) = 21; appear(2, 0) = 1; offer(1) = 31; answer(0, 0, yes) = NOT_POSSIBLE; block(0, 0, 1) = 1;"
            + "shunt(0) = IN_LOOP; answer(0, 0, yes) = 31");
        Script.run("14 line of the other direction", "setUp(2, 0) = 0; appear(1, 1) = 0; appear(1, 0) = 1; offer(1) = 4;"
            + "answer(0, 0, yes) = 4; offer(0) = 4; answer(0, 1, yes) = 4");
        Script.run("14 single section", "setUp(2, 1) = 0; appear(1, 0) = 0; appear(1, 1) = 1; offer(0) = 4; offer(1) = 4;"
            + "answer(0, 0, yes) = 4; section(0, 2) = 4; section(0, 3) = 5; section(0, 4) = 1;"
            + "answer(0, 1, yes) = NOT_POSSIBLE; depart(0) = 5; answer(0, 1, yes) = NOT_POSSIBLE; pass(5) = 5;"
            + "admit(0, 0) = 0; answer(0, 1, yes) = NOT_POSSIBLE; out(0, 0) = 21; section(0, 3) = 6;"
            + "answer(0, 1, yes) = 4; section(0, 3) = 5; section(0, 2) = 4");
        Script.run("14 no token at the rear box", "setUp(2, 1) = 0; appear(1, 0) = 0; appear(1, 1) = 1; offer(0) = 4;"
            + "offer(1) = 4; moveTokens(0, 5) = 0; answer(0, 0, yes) = NOT_POSSIBLE; answer(0, 1, yes) = 4; cancel(0, 1) = 35;"
            + "moveTokens(0, -10) = 10; offer(1) = 4; answer(0, 1, yes) = NOT_POSSIBLE; moveTokens(0, 1) = 9;"
            + "answer(0, 1, yes) = 4; section(0, 3) = 0");
        Script.run("14 other block obstructed", "setUp(2, 1) = 0; appear(1, 0) = 0; offer(0) = 4; obstruct(0, 1) = NORMAL;"
            + "answer(0, 0, yes) = NOT_POSSIBLE; lift(0, 1) = 13; answer(0, 0, yes) = 4; obstruct(0, 1) = NORMAL;"
            + "depart(0) = 5");
        Script.run("14 double section obstructed the other way", "appear(1, 0) = 0; offer(0) = 4; obstruct(0, 1) = NORMAL;"
            + "answer(0, 0, yes) = 4");
        Script.run("14 token of another section", "setUp(3, 3) = 0; appear(1, 0) = 0; appear(1, 1) = 1; offer(0) = 4;"
            + "offer(1) = 4; answer(0, 0, yes) = 4; answer(1, 1, yes) = 4; section(0, 2) = 4; section(1, 3) = 4");
    }

    private static void cancel() {
        Script.run("15", "cancel(0, 0) = NOT_POSSIBLE; cancel(3, 0) = NO_SUCH; cancel(-1, 0) = NO_SUCH;"
            + "cancel(0, 2) = NO_SUCH; cancel(0, -1) = NO_SUCH; appear(1, 1) = 0; offer(0) = 4; pass(1) = 1;"
            + "cancel(2, 0) = NOT_POSSIBLE; cancel(2, 1) = 35;" + rang(1, 1, 2, 1, 3, 35)
            + "block(2, 1, 1) = NONE; cancel(2, 1) = NOT_POSSIBLE; offer(0) = 4; answer(2, 1, yes) = 4; cancel(2, 1) = 35;"
            + "block(2, 1, 0) = NORMAL; block(2, 1, 2) = NONE; depart(0) = NOT_POSSIBLE; offer(0) = 4;"
            + "answer(2, 1, yes) = 4; depart(0) = 5; cancel(2, 1) = NOT_POSSIBLE; obstruct(0, 0) = NORMAL;"
            + "cancel(0, 0) = NOT_POSSIBLE");
        Script.run("15 token", "setUp(2, 1) = 0; appear(1, 1) = 0; offer(0) = 4; cancel(0, 1) = 35; section(0, 3) = 5;"
            + "offer(0) = 4; answer(0, 1, yes) = 4; section(0, 3) = 4; cancel(0, 1) = 35; section(0, 3) = 5;"
            + "section(0, 2) = 5; section(0, 4) = 0");
        Script.run("15 offer while the other way has the token", "setUp(2, 1) = 0; appear(1, 1) = 0; appear(1, 0) = 1;"
            + "offer(0) = 4; answer(0, 1, yes) = 4; offer(1) = 4; cancel(0, 0) = 35; section(0, 4) = 1;"
            + "section(0, 2) = 5; section(0, 3) = 4");
    }

    private static void depart() {
        Script.run("16", "depart(0) = NO_SUCH; depart(-1) = NO_SUCH; appear(5, 0) = 0; depart(0) = NOT_POSSIBLE;"
            + "offer(0) = 41; depart(0) = NOT_POSSIBLE; answer(0, 0, yes) = 41; setTime(0, 30) = 5; pass(3) = 3;"
            + "depart(0) = 34;" + rang(2, 3, 0, 0, 0, 2) + "train(0, 2) = RUNNING; train(0, 3) = 0; train(0, 4) = 34;"
            + "block(0, 0, 0) = OCCUPIED; block(0, 0, 2) = 0; depart(0) = NOT_POSSIBLE; depart(1) = NO_SUCH;"
            + "appear(1, 0) = 1; depart(1) = NOT_POSSIBLE");
        Script.run("16 direction 1", "setTime(2, 1) = 5; appear(1, 1) = 0; offer(0) = 4; answer(2, 1, yes) = 4; depart(0) = 1;"
            + rang(2, 0, 2, 1, 3, 2) + "pass(1) = 1; admit(2, 1) = 0; offer(0) = 4; answer(1, 1, yes) = 4; depart(0) = 5;"
            + rang(5, 1, 1, 1, 2, 2) + "train(0, 3) = 1");
    }

    private static void admit() {
        Script.run("17", "admit(0, 0) = NOT_POSSIBLE; admit(3, 0) = NO_SUCH; admit(-1, 0) = NO_SUCH; admit(0, 2) = NO_SUCH;"
            + "admit(0, -1) = NO_SUCH; appear(1, 0) = 0; offer(0) = 4; answer(0, 0, yes) = 4; admit(0, 0) = NOT_POSSIBLE;"
            + "depart(0) = 5; pass(4) = 4; admit(0, 0) = NOT_POSSIBLE; pass(1) = 5; admit(0, 1) = NOT_POSSIBLE;"
            + "admit(1, 0) = NOT_POSSIBLE; admit(0, 0) = 0; train(0, 2) = ON_LINE; train(0, 3) = 1; train(0, 4) = 0;"
            + "block(0, 0, 0) = OCCUPIED; count(4) = 3; admit(0, 0) = NOT_POSSIBLE");
        Script.run("17 direction 1", "appear(4, 1) = 0; offer(0) = 32; answer(2, 1, yes) = 32; depart(0) = 8; pass(7) = 7;"
            + "admit(2, 1) = NOT_POSSIBLE; pass(9) = 16; admit(2, 1) = 0; train(0, 3) = 2");
        Script.run("17 both ways", "setUp(2, 0) = 0; appear(1, 0) = 0; appear(1, 1) = 1; offer(0) = 4; offer(1) = 4;"
            + "answer(0, 0, yes) = 4; answer(0, 1, yes) = 4; depart(0) = 5; depart(1) = 5; pass(5) = 5; admit(0, 1) = 1;"
            + "admit(0, 0) = 0");
    }

    private static void out() {
        Script.run("18", "out(0, 0) = NOT_POSSIBLE; out(3, 0) = NO_SUCH; out(-1, 0) = NO_SUCH; out(0, 2) = NO_SUCH;"
            + "out(0, -1) = NO_SUCH; appear(1, 0) = 0; offer(0) = 4; out(0, 0) = NOT_POSSIBLE; answer(0, 0, yes) = 4;"
            + "out(0, 0) = NOT_POSSIBLE; depart(0) = 5; out(0, 0) = NOT_POSSIBLE; pass(5) = 5; out(0, 0) = NOT_POSSIBLE;"
            + "admit(0, 0) = 0; pass(2) = 7; out(0, 0) = 21;" + rang(3, 7, 0, 0, 1, 21)
            + "block(0, 0, 0) = NORMAL; out(0, 0) = NOT_POSSIBLE; obstruct(0, 0) = NORMAL; out(0, 0) = NOT_POSSIBLE");
        Script.run("18 when the train is in the next section", "appear(1, 0) = 0; offer(0) = 4;" + RUN + "admit(0, 0) = 0;"
            + "offer(0) = 4; answer(1, 0, yes) = 4; depart(0) = 5; out(1, 0) = NOT_POSSIBLE; out(0, 0) = 21;"
            + "block(1, 0, 0) = OCCUPIED");
        Script.run("18 part", "appear(1, 0) = 0; offer(0) = 4;" + RUN + "divide(0) = 0; admit(0, 0) = 0;"
            + "out(0, 0) = NOT_POSSIBLE; assist(0, 0) = 10; pass(9) = 14; out(0, 0) = NOT_POSSIBLE; pass(1) = 15;"
            + "out(0, 0) = 21");
        Script.run("18 token", "setUp(2, 1) = 0; appear(1, 0) = 0; offer(0) = 4;" + RUN + "admit(0, 0) = 0;"
            + "section(0, 2) = 4; section(0, 3) = 5; out(0, 0) = 21; section(0, 2) = 4; section(0, 3) = 6;"
            + "section(0, 4) = 0; leave(0) = 5; appear(1, 1) = 1; offer(1) = 4; answer(0, 1, yes) = 4; depart(1) = 5;"
            + "pass(5) = 10; admit(0, 1) = 1; out(0, 1) = 21;" + rang(7, 10, 0, 1, 0, 21)
            + "section(0, 2) = 5; section(0, 3) = 5");
    }

    private static void assist() {
        Script.run("19", "assist(0, 0) = NOT_POSSIBLE; assist(3, 0) = NO_SUCH; assist(-1, 0) = NO_SUCH;"
            + "assist(0, 2) = NO_SUCH; assist(0, -1) = NO_SUCH; appear(2, 0) = 0; offer(0) = 31; answer(0, 0, yes) = 31;"
            + "depart(0) = 6; assist(0, 0) = NOT_POSSIBLE; divide(0) = 0; assist(0, 0) = NOT_POSSIBLE; pass(6) = 6;"
            + "assist(0, 0) = NOT_POSSIBLE; admit(0, 0) = 0; assist(0, 1) = NOT_POSSIBLE; setTime(0, 4) = 5;"
            + "assist(0, 0) = 8;" + rang(3, 6, 0, 0, 0, 22) + "assist(0, 0) = NOT_POSSIBLE; block(0, 0, 4) = 8;"
            + "pass(7) = 13; assist(0, 0) = NOT_POSSIBLE; block(0, 0, 3) = 1; block(0, 0, 4) = 1; pass(1) = 14;"
            + "block(0, 0, 3) = 0; block(0, 0, 4) = 0; assist(0, 0) = NOT_POSSIBLE; out(0, 0) = 21");
        Script.run("19 when the train is in the next section", "appear(1, 0) = 0; offer(0) = 4;" + RUN + "divide(0) = 0;"
            + "admit(0, 0) = 0; offer(0) = 4; answer(1, 0, yes) = 4; depart(0) = 5; assist(1, 0) = NOT_POSSIBLE;"
            + "assist(0, 0) = 10; pass(100) = 105; block(0, 0, 3) = 0; block(0, 0, 4) = 0");
        Script.run("19 direction 1, gone", "setUp(2, 1) = 0; appear(1, 1) = 0; offer(0) = 4; answer(0, 1, yes) = 4;"
            + "depart(0) = 5; divide(0) = 0; pass(5) = 5; admit(0, 1) = 0; leave(0) = 5; out(0, 1) = NOT_POSSIBLE;"
            + "assist(0, 1) = 10;" + rang(3, 5, 0, 1, 1, 22) + "pass(10) = 15; out(0, 1) = 21; section(0, 2) = 6");
    }

    private static void obstruct() {
        Script.run("20", "obstruct(3, 0) = NO_SUCH; obstruct(-1, 0) = NO_SUCH; obstruct(0, 2) = NO_SUCH;"
            + "obstruct(0, -1) = NO_SUCH; pass(1) = 1; obstruct(0, 0) = NORMAL;" + rang(0, 1, 0, 0, 1, 6)
            + "block(0, 0, 0) = OBSTRUCTED; block(0, 1, 0) = NORMAL; obstruct(0, 0) = NOT_POSSIBLE; obstruct(2, 1) = NORMAL;"
            + rang(1, 1, 2, 1, 2, 6) + "count(5) = 2");
        Script.run("20 offer", "appear(1, 0) = 0; offer(0) = 4; obstruct(0, 0) = NORMAL; block(0, 0, 1) = NONE;"
            + "count(9) = 0; answer(0, 0, yes) = NOT_POSSIBLE; answer(0, 0, no) = NOT_POSSIBLE; lift(0, 0) = 13;"
            + "answer(0, 0, yes) = NOT_POSSIBLE; offer(0) = 4; answer(0, 0, yes) = 4; obstruct(0, 0) = CLEAR;"
            + "block(0, 0, 2) = NONE; depart(0) = NOT_POSSIBLE; lift(0, 0) = 13; depart(0) = NOT_POSSIBLE; offer(0) = 4;"
            + "answer(0, 0, yes) = 4; depart(0) = 5; obstruct(0, 0) = NOT_POSSIBLE; pass(5) = 5; admit(0, 0) = 0;"
            + "obstruct(0, 0) = NOT_POSSIBLE; out(0, 0) = 21; obstruct(0, 0) = NORMAL");
        Script.run("20 token", "setUp(2, 1) = 0; appear(1, 1) = 0; offer(0) = 4; answer(0, 1, yes) = 4; section(0, 3) = 4;"
            + "obstruct(0, 0) = NORMAL; section(0, 4) = 1; section(0, 2) = 5; obstruct(0, 1) = CLEAR; section(0, 3) = 5;"
            + "section(0, 4) = 0; section(0, 2) = 5; count(5) = 2");
    }

    private static void lift() {
        Script.run("21", "lift(0, 0) = NOT_POSSIBLE; lift(3, 0) = NO_SUCH; lift(-1, 0) = NO_SUCH; lift(0, 2) = NO_SUCH;"
            + "lift(0, -1) = NO_SUCH; obstruct(1, 1) = NORMAL; lift(1, 0) = NOT_POSSIBLE; pass(4) = 4; lift(1, 1) = 13;"
            + rang(1, 4, 1, 1, 1, 13) + "block(1, 1, 0) = NORMAL; lift(1, 1) = NOT_POSSIBLE; appear(1, 0) = 0;"
            + "offer(0) = 4; answer(0, 0, yes) = 4; lift(0, 0) = NOT_POSSIBLE; depart(0) = 5; lift(0, 0) = NOT_POSSIBLE");
    }

    private static void pass() {
        Script.run("22", "pass(0) = BAD_VALUE; pass(-1) = BAD_VALUE; pass(1001) = BAD_VALUE; pass(LEAST) = BAD_VALUE;"
            + "pass(MOST) = BAD_VALUE; pass(1) = 1; pass(1000) = 1001; appear(3, 0) = 0; offer(0) = 5;"
            + "answer(0, 0, yes) = 5; pass(3) = 1004; depart(0) = 7; pass(3) = 1007; train(0, 4) = 4; pass(1000) = 2007;"
            + "train(0, 4) = 0; count(0) = 2007");
        Script late = new Script("22 latest time").until(999000);
        late.then("appear(1, 0) = 0; work(1) = 0; pass(1000) = NOT_POSSIBLE; pass(1001) = BAD_VALUE; pass(998) = 999999;"
            + "pass(2) = NOT_POSSIBLE; work(2) = NOT_POSSIBLE; work(301) = BAD_VALUE; forecast(0, 500) = 11;"
            + "capacity(1, 0, 22) = 2; save(0) = 999999")
            .write("t1,t1")
            .then("carryOut() = 1; count(0) = 1000000; pass(1) = NOT_POSSIBLE; work(1) = NOT_POSSIBLE; count(7) = 0;"
            + "forecast(0, 11) = 11; restore(0) = 999999; work(1) = 0; count(0) = 1000000; setUp(4, 0) = 1; pass(1000) = 1000");
    }

    private static void signal() {
        Script.run("23", "signal(0, -1) = BAD_VALUE; signal(0, 5) = BAD_VALUE; signal(-1, 5) = BAD_VALUE;"
            + "signal(0, MOST) = BAD_VALUE; signal(-1, 0) = NONE; signal(LEAST, 0) = NONE; signal(MOST, 0) = NONE;"
            + "signal(0, 0) = NONE; obstruct(1, 0) = NORMAL; signal(0, 4) = 6; signal(1, 4) = NONE");
        Script full = new Script("23 sixty").then("pass(7) = 7; obstruct(1, 1) = 0; pass(1) = 8");
        full.times(29, "lift(1, 1) = 13; obstruct(1, 1) = 0").then("lift(1, 1) = 13; count(4) = 60; signal(0, 0) = 7;"
            + "signal(0, 4) = 6; signal(0, 3) = 1; signal(59, 4) = 13; signal(60, 4) = NONE; obstruct(2, 0) = NORMAL;"
            + "signal(0, 0) = NONE; signal(1, 4) = 13; signal(60, 1) = 2; signal(60, 3) = 3; signal(60, 0) = 8;"
            + "signal(61, 0) = NONE; count(4) = 61; lift(2, 0) = 13; signal(1, 4) = NONE; signal(2, 4) = 6;"
            + "signal(61, 2) = 0");
        full.times(40, "obstruct(0, 1) = 0; lift(0, 1) = 13").then("count(4) = 142; signal(81, 4) = NONE;"
            + "signal(82, 4) = 6; signal(141, 4) = 13; signal(141, 3) = 0; signal(0, 0) = NONE");
    }

    private static void rung() {
        Script.run("24", "rung(4, -1) = 0; rung(4, 0) = 0; rung(4, 3) = NO_SUCH; rung(4, -2) = NO_SUCH;"
            + "rung(4, LEAST) = NO_SUCH; rung(4, MOST) = NO_SUCH; rung(0, -1) = 0; rung(LEAST, -1) = 0; appear(1, 0) = 0;"
            + "appear(1, 1) = 1; offer(0) = 4; offer(1) = 4; answer(0, 0, yes) = 4; rung(4, -1) = 3; rung(4, 0) = 2;"
            + "rung(4, 1) = 0; rung(4, 2) = 1; rung(0, -1) = 0; rung(0, 0) = 0; rung(2, 0) = 0; depart(0) = 5;"
            + "rung(2, 0) = 1; rung(2, -1) = 1; rung(31, -1) = 0");
        new Script("24 only what is kept").then("appear(1, 0) = 0; offer(0) = 4; answer(0, 0, yes) = 4")
            .times(29, "obstruct(1, 0) = 0; lift(1, 0) = 13").then("rung(4, -1) = 2; rung(6, -1) = 29;"
            + "obstruct(1, 0) = 0; rung(4, -1) = 1; lift(1, 0) = 13; rung(4, 0) = 0; rung(6, 1) = 30; rung(13, 1) = 30;"
            + "obstruct(2, 0) = 0; rung(6, 1) = 29; rung(6, -1) = 30; rung(6, 2) = 1; count(4) = 63");
    }
}

/** Promises 25 to 27: automatic working, forecasts and capacity. */
public final class AutomaticTest {
    public static void main(String[] args) {
        work();
        order();
        forecast();
        capacity();
        Script.end();
    }

    private static void work() {
        Script.run("25 range", "work(0) = BAD_VALUE; work(-1) = BAD_VALUE; work(301) = BAD_VALUE; work(LEAST) = BAD_VALUE;"
            + "work(MOST) = BAD_VALUE; work(1) = 0; work(300) = 0; count(0) = 301");
        Script.run("25 one train", "appear(1, 0) = 0; work(1) = 0; train(0, 2) = RUNNING; train(0, 4) = 4; count(4) = 3;"
            + "signal(0, 0) = 0; work(4) = 0; train(0, 4) = 0; train(0, 2) = RUNNING; work(1) = 0; train(0, 3) = 1;"
            + "train(0, 2) = RUNNING; block(0, 0, 0) = OCCUPIED; count(4) = 6; work(1) = 0; block(0, 0, 0) = NORMAL;"
            + "signal(6, 4) = 21; signal(6, 0) = 6; work(8) = 0; work(1) = 1; train(0, 7) = 15; block(2, 0, 0) = OCCUPIED;"
            + "work(1) = 0; count(5) = 0; count(4) = 12");
        Script.run("25 refusals", "setLoops(1, 0, 2) = 1; appear(1, 0) = 0; appear(2, 1) = 1; work(6) = 0;"
            + "obstruct(2, 0) = 0; appear(1, 0) = 2; work(30) = 1; train(0, 3) = 2; train(2, 3) = 1; rung(1, 1) = 25;"
            + "rung(1, 2) = 0; lift(2, 0) = 13; work(40) = 2; count(2) = 3");
        Script.run("25 trains in loops stay", "appear(1, 0) = 0; shunt(0) = IN_LOOP; work(100) = 0; train(0, 2) = IN_LOOP;"
            + "count(4) = 0; shunt(0) = ON_LINE; work(100) = 1");
        Script.run("25 what was done by hand goes on", "appear(1, 0) = 0; offer(0) = 4; work(1) = 0; count(4) = 3;"
            + "appear(1, 0) = 1; pass(20) = 21; work(1) = 0; train(0, 3) = 1; train(1, 2) = ON_LINE; work(1) = 0;"
            + "train(1, 2) = RUNNING");
        Script.run("25 divided", "setUp(2, 1) = 0; appear(1, 0) = 0; work(1) = 0; divide(0) = 0; work(5) = 1;"
            + "count(0) = 6; block(0, 0, 3) = 1; block(0, 0, 4) = 0; work(1) = 0; block(0, 0, 4) = 9; work(8) = 0;"
            + "block(0, 0, 3) = 1; work(1) = 0; block(0, 0, 3) = 0; block(0, 0, 0) = OCCUPIED; work(1) = 0;"
            + "block(0, 0, 0) = NORMAL; section(0, 3) = 6; signal(3, 4) = 22; signal(3, 0) = 6; signal(4, 4) = 21;"
            + "signal(4, 0) = 16");
        Script.run("25 obstructed at first", "setUp(2, 0) = 0; obstruct(0, 0) = 0; appear(1, 0) = 0; work(10) = 0;"
            + "count(4) = 1; lift(0, 0) = 13; work(5) = 0; work(1) = 1");
        Script.run("25 single section", "setUp(2, 1) = 0; appear(1, 1) = 0; appear(1, 0) = 1; work(1) = 0;"
            + "train(1, 2) = RUNNING; train(0, 2) = ON_LINE; rung(1, 0) = 1; work(4) = 0; work(1) = 1; rung(1, 0) = 6;"
            + "work(1) = 0; train(0, 2) = RUNNING; work(5) = 1; section(0, 2) = 4; section(0, 3) = 5; work(1) = 0;"
            + "section(0, 2) = 5; section(0, 3) = 5");
    }

    /** The order of the steps and of what is gone through in each, as the register tells it. */
    private static void order() {
        Script.run("25 order of offers and answers", "setUp(3, 0) = 0; appear(2, 1) = 0; appear(1, 0) = 1; work(1) = 0;"
            + "signal(0, 4) = 31; signal(0, 1) = 1; signal(1, 4) = 4; signal(1, 1) = 0; signal(2, 4) = 4; signal(2, 1) = 0;"
            + "signal(3, 4) = 31; signal(3, 1) = 1; signal(4, 1) = 1; signal(4, 4) = 2; signal(5, 1) = 0; signal(5, 4) = 2");
        Script.run("25 direction 0 before 1", "setUp(2, 0) = 0; appear(1, 1) = 0; appear(2, 0) = 1; work(1) = 0;"
            + "signal(2, 2) = 0; signal(2, 4) = 31; signal(3, 2) = 1; signal(3, 4) = 4; work(6) = 2; count(4) = 7;"
            + "signal(6, 2) = 1; signal(6, 4) = 21; work(1) = 0; signal(7, 2) = 0; signal(7, 4) = 21");
        Script.run("25 outs before engines", "setUp(2, 0) = 0; appear(1, 1) = 0; appear(1, 0) = 1; work(1) = 0;"
            + "divide(1) = 0; work(6) = 2; signal(6, 4) = 21; signal(6, 2) = 1; signal(7, 4) = 22; signal(7, 2) = 0");
    }

    private static void forecast() {
        Script.run("26 errors", "forecast(0, 1) = NO_SUCH; forecast(0, 0) = NO_SUCH; forecast(-1, 1) = NO_SUCH;"
            + "appear(1, 0) = 0; forecast(1, 1) = NO_SUCH; forecast(0, 0) = BAD_VALUE; forecast(0, 501) = BAD_VALUE;"
            + "forecast(0, LEAST) = BAD_VALUE; work(16) = 1; forecast(0, 0) = BAD_VALUE; forecast(0, 501) = BAD_VALUE;"
            + "forecast(0, 1) = 0");
        Script.run("26", "appear(1, 0) = 0; appear(5, 1) = 1; forecast(0, 500) = 16; forecast(0, 16) = 16;"
            + "forecast(0, 15) = NONE; forecast(0, 1) = NONE; forecast(1, 100) = 28; count(0) = 0; count(4) = 0;"
            + "train(0, 2) = ON_LINE; work(3) = 0; forecast(0, 20) = 13; forecast(1, 25) = 25; obstruct(2, 0) = 0;"
            + "forecast(0, 500) = NONE; lift(2, 0) = 13; setTime(2, 30) = 5; forecast(0, 500) = 38;"
            + "shunt(0) = NOT_POSSIBLE; work(38) = 2; train(0, 2) = GONE; forecast(0, 1) = 0");
        Script.run("26 in a loop", "appear(1, 0) = 0; shunt(0) = IN_LOOP; forecast(0, 500) = NONE");
        Script.run("26 no tokens", "setUp(2, 1) = 0; moveTokens(0, 5) = 0; appear(1, 0) = 0; appear(1, 1) = 1;"
            + "forecast(1, 500) = 6; forecast(0, 500) = 12; section(0, 2) = 0");
        Script.run("26 slots stay", "appear(1, 0) = 0; save(0) = 0; work(2) = 0; save(1) = 2; forecast(0, 99) = 14;"
            + "capacity(1, 1, 99) = 14; restore(0) = 0; train(0, 2) = ON_LINE; restore(1) = 2; train(0, 4) = 3");
    }

    private static void capacity() {
        Script.run("27 range", "capacity(0, 0, 1) = BAD_VALUE; capacity(6, 0, 1) = BAD_VALUE; capacity(1, -1, 1) = BAD_VALUE;"
            + "capacity(1, 2, 1) = BAD_VALUE; capacity(1, 0, 0) = BAD_VALUE; capacity(1, 0, 301) = BAD_VALUE;"
            + "capacity(LEAST, 0, 1) = BAD_VALUE; capacity(1, MOST, 1) = BAD_VALUE; capacity(1, 0, LEAST) = BAD_VALUE");
        Script.run("27", "capacity(1, 0, 1) = 0; capacity(1, 0, 15) = 0; capacity(1, 0, 16) = 1; capacity(1, 0, 21) = 1;"
            + "capacity(1, 0, 22) = 2; capacity(1, 0, 300) = 48; capacity(5, 1, 100) = 8; count(1) = 0; count(0) = 0;"
            + "count(4) = 0; count(5) = 0");
        Script.run("27 most trains", "setUp(2, 0) = 0; setTime(0, 1) = 5; capacity(1, 0, 300) = 150; capacity(1, 1, 300) = 150;"
            + "setUp(6, 0) = 0; capacity(1, 0, 300) = 46; setTime(2, 30) = 5; capacity(1, 0, 300) = 9;"
            + "capacity(1, 1, 300) = 9");
        Script.run("27 on a line of its own", "appear(1, 0) = 0; work(1) = 0; divide(0) = 0; capacity(1, 0, 22) = 2;"
            + "obstruct(1, 0) = 0; obstruct(0, 1) = 0; work(7) = 0; block(0, 0, 4) = 8; setLoops(0, 0, 0) = 1;"
            + "capacity(1, 0, 22) = 2; capacity(1, 1, 22) = 2; train(0, 2) = ON_LINE; train(0, 3) = 1;"
            + "block(1, 0, 0) = OBSTRUCTED; block(0, 0, 4) = 8; count(0) = 8; count(1) = 1; count(8) = 1; appear(1, 0) = 1;"
            + "offer(1) = NOT_POSSIBLE; capacity(1, 0, 22) = 2; train(1, 2) = ON_LINE");
        Script.run("27 tokens", "setUp(3, 2) = 0; capacity(1, 0, 300) = 5; capacity(1, 1, 300) = 5; moveTokens(1, -2) = 7;"
            + "capacity(1, 0, 300) = 7; capacity(1, 1, 300) = 3; appear(1, 0) = 0; work(6) = 0; section(1, 4) = 1;"
            + "section(1, 2) = 6; capacity(1, 0, 300) = 6; capacity(1, 1, 300) = 3; section(1, 4) = 1; section(1, 2) = 6;"
            + "moveTokens(1, 6) = 0; capacity(1, 0, 300) = 0; capacity(1, 1, 300) = 9");
        Script.run("27 token out of the first section", "setUp(2, 1) = 0; appear(1, 0) = 0; offer(0) = 4;"
            + "answer(0, 0, yes) = 4; capacity(1, 0, 300) = 4; capacity(1, 1, 300) = 5; section(0, 4) = 1");
        Script.run("27 classes", "setUp(2, 0) = 0; capacity(1, 0, 6) = 1; capacity(2, 0, 6) = 0; capacity(2, 0, 7) = 1;"
            + "capacity(5, 0, 9) = 0; capacity(5, 0, 10) = 1; setTime(0, 30) = 5; capacity(5, 0, 34) = 0;"
            + "capacity(5, 0, 35) = 1");
    }
}

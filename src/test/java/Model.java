import java.util.ArrayList;
import java.util.List;
import java.util.function.Predicate;
import java.util.regex.Matcher;
import java.util.regex.Pattern;

/**
 * A second reading of the document, written to be compared with it sentence by sentence, not to be quick or to
 * keep to LANGUAGE.md. It holds as little as it can: whether a token is out, for instance, follows from the blocks.
 */
final class Model {
    private static final Pattern ORDERS = orders();
    private static final int[] CODES = {4, 31, 5, 32, 41};

    private State now = new State(4, 0);
    private final State[] slots = new State[2];
    private String pad = "";

    private static Pattern orders() {
        String order = "([odsl](1[01]|[0-9])|[yncaue][0-4][+-]|t[1-9][0-9]?)";
        return Pattern.compile(order + "(," + order + ")*");
    }

    private static final class Train {
        int number, kind, direction, where, place, left, appeared;
        int gone = -6;
        boolean whole = true;

        Train copy() {
            Train t = new Train();
            t.number = number; t.kind = kind; t.direction = direction; t.where = where; t.place = place;
            t.left = left; t.appeared = appeared; t.gone = gone; t.whole = whole;
            return t;
        }

        boolean isOnLineOf(int box, int line) {
            return where == 0 && place == box && direction == line;
        }
    }

    private static final class Block {
        int state;
        int offer = -6;
        int owner = -6;
        boolean part;
        int engine;

        Block copy() {
            Block b = new Block();
            b.state = state; b.offer = offer; b.owner = owner; b.part = part; b.engine = engine;
            return b;
        }

        boolean hasToken() {
            return state == 1 || state == 2;
        }
    }

    private static final class State {
        final int boxes;
        final int singles;
        int time;
        boolean isUnlimited;
        int[] times = {5, 5, 5, 5, 5};
        int[][] tokens = {{5, 5}, {5, 5}, {5, 5}, {5, 5}, {5, 5}};
        int[][] loops = {{1, 1}, {1, 1}, {1, 1}, {1, 1}, {1, 1}, {1, 1}};
        Block[][] blocks = new Block[5][2];
        List<Train> trains = new ArrayList<>();
        List<int[]> signals = new ArrayList<>();

        State(int boxes, int singles) {
            this.boxes = boxes;
            this.singles = singles;
            for (Block[] pair : blocks) {
                pair[0] = new Block();
                pair[1] = new Block();
            }
        }

        /** The same line without its trains and blocks. */
        State empty() {
            State s = new State(boxes, singles);
            for (int i = 0; i < 5; i++) {
                s.times[i] = times[i];
                s.tokens[i] = tokens[i].clone();
            }
            for (int i = 0; i < 6; i++) {
                s.loops[i] = loops[i].clone();
            }
            return s;
        }

        State copy() {
            State s = empty();
            s.time = time;
            for (int i = 0; i < 10; i++) {
                s.blocks[i / 2][i % 2] = blocks[i / 2][i % 2].copy();
            }
            for (Train t : trains) {
                s.trains.add(t.copy());
            }
            s.signals.addAll(signals);
            return s;
        }

        boolean hasSection(int section) {
            return section >= 0 && section <= boxes - 2;
        }

        boolean hasBlock(int section, int direction) {
            return hasSection(section) && (direction == 0 || direction == 1);
        }

        boolean hasTrain(int train) {
            return train >= 0 && train < trains.size();
        }

        boolean isSingle(int section) {
            return (singles & 1 << section) != 0;
        }

        boolean isTokenOut(int section) {
            return isSingle(section) && (blocks[section][0].hasToken() || blocks[section][1].hasToken());
        }

        int rear(int section, int direction) {
            return direction == 0 ? section : section + 1;
        }

        int ahead(int section, int direction) {
            return direction == 0 ? section + 1 : section;
        }

        int next(Train t) {
            for (int section = 0; section < boxes - 1; section++) {
                if (t.where == 0 && rear(section, t.direction) == t.place) {
                    return section;
                }
            }
            return -1;
        }

        boolean isFree(int box, int direction) {
            return trains.stream().noneMatch(t -> t.isOnLineOf(box, direction));
        }

        int inLoops(int box, int direction) {
            return (int) trains.stream().filter(t -> t.where == 1 && t.place == box && t.direction == direction).count();
        }

        boolean isInside(int section, int direction) {
            return trains.stream().anyMatch(t -> t.where == 2 && t.place == section && t.direction == direction);
        }

        void move(int section, int box, int tokens) {
            if (isSingle(section)) {
                this.tokens[section][box - section] += tokens;
            }
        }

        int ring(int section, int direction, int box, int code) {
            signals.add(new int[] {time, section, direction, box, code});
            return code;
        }
    }

    int setUp(int boxes, int singles) {
        if (boxes < 2 || boxes > 6 || singles < 0 || singles > (1 << boxes - 1) - 1) return -2;
        int trains = now.trains.size();
        now = new State(boxes, singles);
        return trains;
    }

    int setTime(int section, int ticks) {
        if (!now.hasSection(section)) return -1;
        if (ticks < 1 || ticks > 30) return -2;
        int previous = now.times[section];
        now.times[section] = ticks;
        return previous;
    }

    int setLoops(int box, int direction, int loops) {
        if (box < 0 || box >= now.boxes || direction < 0 || direction > 1) return -1;
        if (loops < 0 || loops > 3) return -2;
        if (now.inLoops(box, direction) > loops) return -5;
        int previous = now.loops[box][direction];
        now.loops[box][direction] = loops;
        return previous;
    }

    int moveTokens(int section, int tokens) {
        if (!now.hasSection(section)) return -1;
        if (tokens < -10 || tokens > 10) return -2;
        int lower = now.tokens[section][0] - tokens;
        int higher = now.tokens[section][1] + tokens;
        if (!now.isSingle(section) || lower < 0 || higher < 0) return -5;
        now.tokens[section] = new int[] {lower, higher};
        return lower;
    }

    int section(int section, int what) {
        if (!now.hasSection(section)) return -1;
        if (what < 0 || what > 4) return -2;
        boolean single = now.isSingle(section);
        int[] all = {single ? 1 : 0, now.times[section], single ? now.tokens[section][0] : 0,
            single ? now.tokens[section][1] : 0, now.isTokenOut(section) ? 1 : 0};
        return all[what];
    }

    int block(int section, int direction, int what) {
        if (!now.hasBlock(section, direction)) return -1;
        if (what < 0 || what > 4) return -2;
        Block b = now.blocks[section][direction];
        return new int[] {b.state, b.offer, b.owner, b.part ? 1 : 0, b.engine}[what];
    }

    int appear(int kind, int direction) {
        if (kind < 1 || kind > 5 || direction < 0 || direction > 1) return -2;
        if (now.trains.size() >= 12 && !now.isUnlimited) return -4;
        int first = direction == 0 ? 0 : now.boxes - 1;
        if (!now.isFree(first, direction)) return -5;
        Train t = new Train();
        t.number = now.trains.size();
        t.kind = kind;
        t.direction = direction;
        t.place = first;
        t.appeared = now.time;
        now.trains.add(t);
        return t.number;
    }

    int train(int train, int what) {
        if (!now.hasTrain(train)) return -1;
        if (what < 0 || what > 7) return -2;
        Train t = now.trains.get(train);
        boolean gone = t.where == 3;
        return new int[] {t.kind, t.direction, t.where, gone ? -6 : t.place, t.where == 2 ? t.left : 0, t.whole ? 1 : 0,
            t.appeared, gone ? t.gone : -6}[what];
    }

    int shunt(int train) {
        if (!now.hasTrain(train)) return -1;
        Train t = now.trains.get(train);
        if (t.where == 2 || t.where == 3) return -5;
        for (Block[] pair : now.blocks) {
            for (Block b : pair) {
                if (b.offer == train || b.state == 1 && b.owner == train) return -5;
            }
        }
        if (t.where == 0) {
            if (now.inLoops(t.place, t.direction) >= now.loops[t.place][t.direction]) return -5;
            t.where = 1;
            return 1;
        }
        if (!now.isFree(t.place, t.direction)) return -5;
        for (int section = 0; section < now.boxes - 1; section++) {
            int state = now.blocks[section][t.direction].state;
            if (now.ahead(section, t.direction) == t.place && state != 0 && state != 3) return -5;
        }
        t.where = 0;
        return 0;
    }

    int leave(int train) {
        if (!now.hasTrain(train)) return -1;
        Train t = now.trains.get(train);
        if (!t.isOnLineOf(t.direction == 0 ? now.boxes - 1 : 0, t.direction)) return -5;
        t.where = 3;
        t.gone = now.time;
        return now.time - t.appeared;
    }

    int divide(int train) {
        if (!now.hasTrain(train)) return -1;
        Train t = now.trains.get(train);
        if (t.where != 2 || !t.whole) return -5;
        t.whole = false;
        now.blocks[t.place][t.direction].part = true;
        return t.place;
    }

    int offer(int train) {
        if (!now.hasTrain(train)) return -1;
        Train t = now.trains.get(train);
        int section = now.next(t);
        if (section < 0) return -5;
        Block b = now.blocks[section][t.direction];
        if (b.state != 0 || b.offer != -6) return -5;
        b.offer = train;
        return now.ring(section, t.direction, now.rear(section, t.direction), CODES[t.kind - 1]);
    }

    int answer(int section, int direction, boolean yes) {
        if (!now.hasBlock(section, direction)) return -1;
        Block b = now.blocks[section][direction];
        if (b.offer == -6) return -5;
        int rear = now.rear(section, direction);
        int ahead = now.ahead(section, direction);
        if (!yes) {
            b.offer = -6;
            return now.ring(section, direction, ahead, 1);
        }
        if (!now.isFree(ahead, direction)) return -5;
        if (now.isSingle(section)) {
            if (now.blocks[section][1 - direction].state != 0) return -5;
            if (now.isTokenOut(section) || now.tokens[section][rear - section] == 0) return -5;
        }
        now.move(section, rear, -1);
        b.state = 1;
        b.owner = b.offer;
        b.offer = -6;
        return now.ring(section, direction, ahead, CODES[now.trains.get(b.owner).kind - 1]);
    }

    int cancel(int section, int direction) {
        if (!now.hasBlock(section, direction)) return -1;
        Block b = now.blocks[section][direction];
        if (b.offer == -6 && b.state != 1) return -5;
        if (b.state == 1) now.move(section, now.rear(section, direction), 1);
        now.blocks[section][direction] = new Block();
        return now.ring(section, direction, now.rear(section, direction), 35);
    }

    int depart(int train) {
        if (!now.hasTrain(train)) return -1;
        Train t = now.trains.get(train);
        int section = now.next(t);
        if (section < 0) return -5;
        Block b = now.blocks[section][t.direction];
        if (b.state != 1 || b.owner != train) return -5;
        now.ring(section, t.direction, t.place, 2);
        b.state = 2;
        t.where = 2;
        t.place = section;
        t.left = now.times[section] + t.kind - 1;
        return t.left;
    }

    int admit(int section, int direction) {
        if (!now.hasBlock(section, direction)) return -1;
        int ahead = now.ahead(section, direction);
        for (Train t : now.trains) {
            boolean isThere = t.where == 2 && t.place == section && t.direction == direction && t.left == 0;
            if (isThere && now.isFree(ahead, direction)) {
                t.where = 0;
                t.place = ahead;
                return t.number;
            }
        }
        return -5;
    }

    int out(int section, int direction) {
        if (!now.hasBlock(section, direction)) return -1;
        Block b = now.blocks[section][direction];
        if (b.state != 2 || now.isInside(section, direction) || b.part) return -5;
        now.move(section, now.ahead(section, direction), 1);
        now.blocks[section][direction] = new Block();
        return now.ring(section, direction, now.ahead(section, direction), 21);
    }

    int assist(int section, int direction) {
        if (!now.hasBlock(section, direction)) return -1;
        Block b = now.blocks[section][direction];
        if (!b.part || now.isInside(section, direction) || b.engine > 0) return -5;
        b.engine = now.times[section] * 2;
        now.ring(section, direction, now.rear(section, direction), 22);
        return b.engine;
    }

    int obstruct(int section, int direction) {
        if (!now.hasBlock(section, direction)) return -1;
        Block b = now.blocks[section][direction];
        if (b.state == 2 || b.state == 3) return -5;
        if (b.state == 1) now.move(section, now.rear(section, direction), 1);
        now.blocks[section][direction] = new Block();
        now.blocks[section][direction].state = 3;
        now.ring(section, direction, now.ahead(section, direction), 6);
        return b.state;
    }

    int lift(int section, int direction) {
        if (!now.hasBlock(section, direction)) return -1;
        Block b = now.blocks[section][direction];
        if (b.state != 3) return -5;
        b.state = 0;
        return now.ring(section, direction, now.ahead(section, direction), 13);
    }

    int pass(int ticks) {
        if (ticks < 1 || ticks > 1000) return -2;
        if (now.time + ticks > 1000000 && !now.isUnlimited) return -5;
        for (int i = 0; i < ticks; i++) {
            passOne();
        }
        return now.time;
    }

    private void passOne() {
        for (Train t : now.trains) {
            if (t.where == 2 && t.left > 0) t.left--;
        }
        for (Block[] pair : now.blocks) {
            for (Block b : pair) {
                if (b.engine > 0 && --b.engine == 0) b.part = false;
            }
        }
        now.time++;
    }

    int signal(int signal, int what) {
        if (what < 0 || what > 4) return -2;
        int all = now.signals.size();
        return signal < 0 || signal >= all || signal < all - 60 ? -6 : now.signals.get(signal)[what];
    }

    int rung(int code, int section) {
        if (section != -1 && !now.hasSection(section)) return -1;
        int all = now.signals.size();
        Predicate<int[]> isAsked = s -> s[4] == code && (section == -1 || s[1] == section);
        return (int) now.signals.subList(Math.max(0, all - 60), all).stream().filter(isAsked).count();
    }

    private int gone() {
        return (int) now.trains.stream().filter(t -> t.where == 3).count();
    }

    private void tick() {
        int ways = 2 * (now.boxes - 1);
        for (int i = 0; i < ways; i++) out(i / 2, i % 2);
        for (int i = 0; i < ways; i++) assist(i / 2, i % 2);
        for (int i = 0; i < ways; i++) admit(i / 2, i % 2);
        for (int i = 0; i < now.trains.size(); i++) leave(i);
        for (int i = 0; i < now.trains.size(); i++) offer(i);
        for (int i = 0; i < ways; i++) {
            if (answer(i / 2, i % 2, true) < 0) answer(i / 2, i % 2, false);
        }
        for (int i = 0; i < now.trains.size(); i++) depart(i);
        pass(1);
    }

    int work(int ticks) {
        if (ticks < 1 || ticks > 300) return -2;
        if (now.time + ticks > 1000000) return -5;
        int before = gone();
        for (int i = 0; i < ticks; i++) tick();
        return gone() - before;
    }

    int forecast(int train, int most) {
        if (!now.hasTrain(train)) return -1;
        if (most < 1 || most > 500) return -2;
        Model trial = new Model();
        trial.now = now.copy();
        trial.now.isUnlimited = true;
        for (int ticks = 0; ticks <= most; ticks++) {
            if (trial.now.trains.get(train).where == 3) return ticks;
            trial.tick();
        }
        return -6;
    }

    int capacity(int kind, int direction, int ticks) {
        if (kind < 1 || kind > 5 || direction < 0 || direction > 1 || ticks < 1 || ticks > 300) return -2;
        Model trial = new Model();
        trial.now = now.empty();
        trial.now.isUnlimited = true;
        for (int i = 0; i < ticks; i++) {
            trial.appear(kind, direction);
            trial.tick();
        }
        return trial.gone();
    }

    int say(int character) {
        if (character < 33 || character > 126) return -2;
        if (pad.length() == 60) return -4;
        pad += (char) character;
        return pad.length();
    }

    int wipe() {
        int length = pad.length();
        pad = "";
        return length;
    }

    int fault() {
        for (int i = 1; i <= pad.length(); i++) {
            Matcher matcher = ORDERS.matcher(pad.substring(0, i));
            // A text that ends too early, but well, has been read to its end.
            if (!matcher.matches() && !matcher.hitEnd()) return i - 1;
        }
        return ORDERS.matcher(pad).matches() ? -6 : pad.length();
    }

    int carryOut() {
        if (!ORDERS.matcher(pad).matches()) return -3;
        String[] orders = pad.split(",");
        pad = "";
        int done = 0;
        while (done < orders.length && obey(orders[done]) >= 0) done++;
        return done;
    }

    private int obey(String order) {
        boolean sided = "yncaue".indexOf(order.charAt(0)) >= 0;
        int number = Integer.parseInt(order.substring(1, sided ? 2 : order.length()));
        int direction = order.endsWith("-") ? 1 : 0;
        switch (order.charAt(0)) {
            case 'o': return offer(number);
            case 'd': return depart(number);
            case 's': return shunt(number);
            case 'l': return leave(number);
            case 'y': return answer(number, direction, true);
            case 'n': return answer(number, direction, false);
            case 'c': return cancel(number, direction);
            case 'a': return admit(number, direction);
            case 'u': return out(number, direction);
            case 'e': return assist(number, direction);
            default: return pass(number);
        }
    }

    int count(int what) {
        int used = 0, parts = 0, offers = 0;
        for (Block[] pair : now.blocks) {
            for (Block b : pair) {
                used += b.state == 0 ? 0 : 1;
                parts += b.part ? 1 : 0;
                offers += b.offer == -6 ? 0 : 1;
            }
        }
        int running = (int) now.trains.stream().filter(t -> t.where == 2).count();
        int[] all = {now.time, now.trains.size(), gone(), running, now.signals.size(), used, now.boxes, pad.length(),
            parts, offers};
        return what < 0 || what >= all.length ? -2 : all[what];
    }

    int save(int slot) {
        if (slot != 0 && slot != 1) return -2;
        slots[slot] = now.copy();
        return now.time;
    }

    int restore(int slot) {
        if (slot != 0 && slot != 1) return -2;
        if (slots[slot] == null) return -5;
        now = slots[slot].copy();
        return now.time;
    }
}

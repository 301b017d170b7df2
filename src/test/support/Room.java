import java.util.Arrays;

/**
 * A PaperRoom that remembers its last call, so that a fault can name it, and counts its calls:
 * the document promises nothing of a call beyond the 512th, so no test may rest on one.
 */
final class Room {
    static final int MOST_CALLS = 512;
    static final int LAST_RIGHTS = 1000000;

    private static volatile String lastName = "no call yet";
    private static volatile long[] lastNumbers = {};

    private final PaperRoom room = new PaperRoom();
    private int calls = 0;

    static String lastCall() {
        return lastName + Arrays.toString(lastNumbers).replace('[', '(').replace(']', ')');
    }

    int left() {
        return MOST_CALLS - calls;
    }

    private void note(String name, long... numbers) {
        lastName = name;
        lastNumbers = numbers;
        calls++;
        if (calls > MOST_CALLS) {
            throw new IllegalStateException("the test goes beyond " + MOST_CALLS + " calls");
        }
    }

    // ---- the calls

    int type(long v, int n) {
        note("type", v, n);
        return room.type(v, n);
    }

    int clear() {
        note("clear");
        return room.clear();
    }

    int paper(int kind, int folder, int tick) {
        note("paper", kind, folder, tick);
        return room.paper(kind, folder, tick);
    }

    int version(int paper) {
        note("version", paper);
        return room.version(paper);
    }

    int blacken(int paper, int version, int from, int to) {
        note("blacken", paper, version, from, to);
        return room.blacken(paper, version, from, to);
    }

    int withdraw(int paper) {
        note("withdraw", paper);
        return room.withdraw(paper);
    }

    int rights(int group, int folder, int from, int before) {
        note("rights", group, folder, from, before);
        return room.rights(group, folder, from, before);
    }

    int tick(int n) {
        note("tick", n);
        return room.tick(n);
    }

    int about(int paper, int what) {
        note("about", paper, what);
        return room.about(paper, what);
    }

    int may(int bidder, int paper) {
        note("may", bidder, paper);
        return room.may(bidder, paper);
    }

    int read(int bidder, int paper, int version) {
        note("read", bidder, paper, version);
        return room.read(bidder, paper, version);
    }

    int at(int bidder, int i) {
        note("at", bidder, i);
        return room.at(bidder, i);
    }

    int search(int bidder) {
        note("search", bidder);
        return room.search(bidder);
    }

    int named(int paper, int version) {
        note("named", paper, version);
        return room.named(paper, version);
    }

    int log(int i, int what) {
        note("log", i, what);
        return room.log(i, what);
    }

    long chain(int i) {
        note("chain", i);
        return room.chain(i);
    }

    int times(int bidder, int paper, int version) {
        note("times", bidder, paper, version);
        return room.times(bidder, paper, version);
    }

    int ask(int bidder, int paper, int topic) {
        note("ask", bidder, paper, topic);
        return room.ask(bidder, paper, topic);
    }

    int answer(int question, int v, boolean all) {
        note("answer", question, v, all ? 1 : 0);
        return room.answer(question, v, all);
    }

    int hear(int bidder, int question) {
        note("hear", bidder, question);
        return room.hear(bidder, question);
    }

    int question(int question, int what) {
        note("question", question, what);
        return room.question(question, what);
    }

    int count(int what) {
        note("count", what);
        return room.count(what);
    }

    long trace() {
        note("trace");
        return room.trace();
    }

    // ---- several calls at once

    /** Types a text in pieces of up to 8 bytes; answers what the last type() did. */
    int write(String text) {
        int answered = 0;
        for (int from = 0; from < text.length(); from += 8) {
            String piece = text.substring(from, Math.min(from + 8, text.length()));
            long v = 0;
            for (int i = 0; i < piece.length(); i++) {
                v = v << 8 | piece.charAt(i);
            }
            answered = type(v, piece.length());
        }
        return answered;
    }

    int rewrite(String text) {
        clear();
        return write(text);
    }

    int add(int kind, int folder, int tick, String text) {
        rewrite(text);
        return paper(kind, folder, tick);
    }

    int revise(int paper, String text) {
        rewrite(text);
        return version(paper);
    }

    int find(int bidder, String words) {
        rewrite(words);
        return search(bidder);
    }

    int name(int paper, int version, String start) {
        rewrite(start);
        return named(paper, version);
    }

    /** All groups may look into all folders, at any time that a test can reach. */
    Room open() {
        for (int group = 0; group < 3; group++) {
            for (int folder = 0; folder < 4; folder++) {
                rights(group, folder, 0, LAST_RIGHTS);
            }
        }
        return this;
    }

    /** What the bidder read latest, byte by byte; at() must end it with NONE, as it does here. */
    String view(int bidder) {
        StringBuilder text = new StringBuilder();
        for (int i = 0; i < 90; i++) {
            int b = at(bidder, i);
            if (b == Bounds.NONE) {
                break;
            }
            text.append((char) b);
        }
        return text.toString();
    }

    void readTimes(int times, int bidder, int paper, int version) {
        for (int i = 0; i < times; i++) {
            read(bidder, paper, version);
        }
    }
}

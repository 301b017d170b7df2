import java.util.function.Consumer;
import java.util.function.ToLongFunction;

/** Runs a test for each sentence of the document and tells which sentence does not hold. */
final class Bounds {
    /** Written out, not taken from the class: a changed constant must be seen. */
    static final int BAD = -1, STATE = -2, FULL = -3, NO = -4, NONE = -9;
    static final int LOWEST = Integer.MIN_VALUE, HIGHEST = Integer.MAX_VALUE;

    private static final int MOST_TOLD = 40;

    private static String place = "";
    private static String sentence = "";
    private static int sentences = 0;
    private static int checks = 0;
    private static int faults = 0;

    private Bounds() { }

    /** The part of the document that the next sentences are from. */
    static void from(String part) {
        Watch.start();
        place = part;
    }

    static void sentence(String words, Runnable test) {
        sentence = words;
        sentences++;
        int checksBefore = checks;
        try {
            test.run();
        } catch (RuntimeException | StackOverflowError thrown) {
            fault(Room.lastCall() + " ended with " + thrown);
        }
        if (checks == checksBefore) {
            fault("its test tests nothing");
        }
    }

    static void end() {
        System.out.println(faults == 0 ? sentences + " sentences hold" : faults + " answers are not as due");
        if (faults != 0 || sentences == 0) {
            System.exit(1);
        }
    }

    private static void fault(String told) {
        faults++;
        if (faults <= MOST_TOLD) {
            System.out.println(place + ", \"" + sentence + "\": " + told);
        }
    }

    /** The answer of the call that was made last. */
    static void is(long got, long want) {
        checks++;
        if (got != want) {
            fault(Room.lastCall() + " answered " + got + ", due is " + want);
        }
    }

    static void isNot(long got, long refusal) {
        checks++;
        if (got == refusal) {
            fault(Room.lastCall() + " answered " + got + ", which is not due");
        }
    }

    static void isText(String got, String want) {
        checks++;
        if (!got.equals(want)) {
            fault("after " + Room.lastCall() + " the text is <" + got + ">, due is <" + want + ">");
        }
    }

    /** The bidder reads exactly this: its length, its bytes, and NONE behind the last of them. */
    static void sees(Room room, int bidder, int paper, int version, String want) {
        is(room.read(bidder, paper, version), want.length());
        isText(room.view(bidder), want);
    }

    /** Numbers on both sides of first .. last, some of them alike in their lowest bits. */
    static int[] outside(int first, int last) {
        return new int[] {
            LOWEST, first - 65536, first - 256, first - 1, last + 1, last + 256, last + 65536, HIGHEST,
        };
    }

    /**
     * The call answers as due, and nothing has changed: whatever is asked or done later is answered
     * as in a twin room that was never given the call. The twin's trace() stands in for the call, so
     * that both have the same number of calls left.
     */
    static void changesNothing(Consumer<Room> scene, ToLongFunction<Room> call, long want) {
        for (Later later : Later.ALL) {
            Room twin = new Room();
            scene.accept(twin);
            twin.trace();
            Later.Answers answers = new Later.Answers();
            later.on(twin, answers::keep);

            Room room = new Room();
            scene.accept(room);
            long got = call.applyAsLong(room);
            String refused = Room.lastCall();
            is(got, want);
            later.on(room, answer -> answers.hold(answer, twins -> fault("after " + refused + ", "
                    + Room.lastCall() + " answered " + answer + ", without that call " + twins)));
        }
    }

    /** The same for each number on both sides of first .. last. */
    static void badOutside(Consumer<Room> scene, int first, int last, Numbered call) {
        for (int number : outside(first, last)) {
            changesNothing(scene, room -> call.on(room, number), BAD);
        }
    }

    interface Numbered {
        long on(Room room, int number);
    }
}

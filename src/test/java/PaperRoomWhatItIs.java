import java.util.function.Consumer;
import java.util.function.ToLongFunction;

/**
 * The document's first part, "What it is": a test for each thing that the room is said to be, and
 * for the number of calls that an object is used for. The example of README.md stands here, too.
 */
public final class PaperRoomWhatItIs {
    private static final int BAD = Bounds.BAD, STATE = Bounds.STATE, FULL = Bounds.FULL, NO = Bounds.NO;

    public static void main(String[] args) {
        Bounds.from("What it is");
        Bounds.sentence("texts in versions", PaperRoomWhatItIs::textsInVersions);
        Bounds.sentence("that bidders of groups may see for a time, folder by folder", PaperRoomWhatItIs::seenForATime);
        Bounds.sentence("spans blackened for good", PaperRoomWhatItIs::blackForGood);
        Bounds.sentence("copies with spaces of their own that name who had them", PaperRoomWhatItIs::copiesName);
        Bounds.sentence("papers held back", PaperRoomWhatItIs::heldBack);
        Bounds.sentence("or withdrawn", PaperRoomWhatItIs::withdrawnForGood);
        Bounds.sentence("a search that tells only what may be seen", PaperRoomWhatItIs::searchTellsWhatIsSeen);
        Bounds.sentence("questions joined, answered once", PaperRoomWhatItIs::joinedAndAnsweredOnce);
        Bounds.sentence("a log, each entry chained to the one before", PaperRoomWhatItIs::chained);
        Bounds.sentence("512 calls: the last of them, whichever it is", PaperRoomWhatItIs::lastCall);
        Bounds.sentence("512 calls: the last of them, refused", PaperRoomWhatItIs::lastCallRefused);
        Bounds.sentence("512 calls that change something", PaperRoomWhatItIs::callsThatChange);
        Bounds.sentence("512 calls of one kind with one answer", PaperRoomWhatItIs::callsOfOneAnswer);
        Bounds.sentence("512 calls of an object: others are not touched", PaperRoomWhatItIs::objectsStandAlone);
        Bounds.from("README.md");
        Bounds.sentence("the example", PaperRoomWhatItIs::example);
        Bounds.end();
    }

    // ---- what the room is

    private static void textsInVersions() {
        Room room = new Room().open();
        for (int kind = 0; kind < 3; kind++) {
            room.add(kind, kind, 0, "first");
            room.revise(kind, "second");
            room.revise(kind, "first");
            Bounds.sees(room, 0, kind, 0, "first");
            Bounds.sees(room, 0, kind, 1, "second");
            Bounds.sees(room, 0, kind, 2, "first");
        }
    }

    /** Each group has a time of its own for each folder; all of them are walked through at once. */
    private static void seenForATime() {
        Room room = new Room();
        for (int folder = 0; folder < 4; folder++) {
            room.add(folder % 3, folder, 0, "x");
            for (int group = 0; group < 3; group++) {
                room.rights(group, folder, startOf(group, folder), startOf(group, folder) + 2);
            }
        }
        for (int now = 0; now < 16; now++) {
            for (int bidder = 0; bidder < 6; bidder++) {
                for (int folder = 0; folder < 4; folder++) {
                    int since = now - startOf(bidder % 3, folder);
                    Bounds.is(room.may(bidder, folder), since == 0 || since == 1 ? 1 : 0);
                }
            }
            room.tick(1);
        }
    }

    private static int startOf(int group, int folder) {
        return 4 * group + folder + 1;
    }

    /** Nothing that is done later shows a byte again that was black. */
    private static void blackForGood() {
        for (int kind = 0; kind < 3; kind++) {
            Room room = new Room().open();
            room.add(kind, 0, 0, "secret!");
            Bounds.is(room.blacken(0, 0, 0, 6), 6);
            Bounds.sees(room, 0, 0, 0, "######!");
            Bounds.is(room.blacken(0, 0, 0, 0), BAD);
            Bounds.is(room.blacken(0, 0, 6, 7), 7);
            Bounds.is(room.blacken(0, 0, 2, 3), 7);
            room.revise(0, "secret!");
            room.revise(0, "another");
            Bounds.is(room.blacken(0, 2, 0, 1), 1);
            room.tick(1000);
            room.rights(0, 0, 0, 0);
            room.open();
            room.rewrite("secret!");
            room.paper(kind, 0, 0);
            for (int bidder = 0; bidder < 6; bidder++) {
                Bounds.sees(room, bidder, 0, 0, "#######");
            }
            room.withdraw(0);
            Bounds.is(room.blacken(0, 0, 0, 1), 7);
        }
    }

    /** A copy is typed back as it was read: it names the one who had it, and nobody else. */
    private static void copiesName() {
        String[] texts = {"a b c d", " to be or not to be", "x y# z t", "#  # ~ #"};
        for (String text : texts) {
            for (int bidder = 0; bidder < 6; bidder++) {
                Room room = new Room().open();
                room.add(2, 1, 0, text);
                room.read(bidder, 0, 0);
                String copy = room.view(bidder);
                Bounds.is(room.name(0, 0, copy), 1 << bidder);
            }
        }
    }

    private static void heldBack() {
        Room room = new Room().open();
        room.add(1, 0, 4, "held");
        room.add(0, 0, 4, "told");
        for (int now = 0; now < 6; now++) {
            for (int bidder = 0; bidder < 6; bidder++) {
                Bounds.is(room.read(bidder, 0, 0), now < 4 ? NO : 4);
                Bounds.is(room.read(bidder, 1, 0), 4);
            }
            room.tick(1);
        }
    }

    /** No right, no time and no later call brings back what was withdrawn. */
    private static void withdrawnForGood() {
        for (int kind = 0; kind < 3; kind++) {
            Room room = new Room().open();
            room.add(kind, 0, 0, "gone");
            room.ask(0, 0, 0);
            room.answer(0, 5, true);
            room.withdraw(0);
            for (int step = 0; step < 3; step++) {
                room.open();
                room.rewrite("gone");
                for (int bidder = 0; bidder < 6; bidder++) {
                    Bounds.is(room.may(bidder, 0), 0);
                    Bounds.is(room.read(bidder, 0, 0), NO);
                    Bounds.is(room.ask(bidder, 0, 0), NO);
                    Bounds.is(room.hear(bidder, 0), NO);
                    Bounds.is(room.search(bidder), 0);
                }
                Bounds.is(room.version(0), STATE);
                Bounds.is(room.withdraw(0), STATE);
                Bounds.is(room.about(0, 3), 1);
                room.tick(step == 0 ? 1 : 1000);
            }
        }
    }

    /** What may not be read is not found either, and what may be read is, word for word. */
    private static void searchTellsWhatIsSeen() {
        for (int now = 0; now < 8; now++) {
            Room room = new Room();
            room.add(0, 0, 0, "word");
            room.add(1, 1, 5, "a word");
            room.add(2, 2, 0, "word too");
            room.add(0, 3, 0, "the word");
            room.rights(0, 0, 2, 4);
            room.rights(0, 1, 3, 7);
            room.rights(1, 2, 1, 6);
            room.rights(2, 3, 0, 9);
            room.blacken(3, 0, 0, 1);
            if (now > 0) {
                room.tick(now);
            }
            room.write("word");
            for (int bidder = 0; bidder < 6; bidder++) {
                int seen = 0;
                for (int paper = 0; paper < 4; paper++) {
                    seen += room.read(bidder, paper, 0) > 0 ? 1 : 0;
                }
                Bounds.is(room.search(bidder), seen);
            }
        }
    }

    private static void joinedAndAnsweredOnce() {
        Room room = new Room().open();
        room.add(0, 0, 0, "x");
        for (int bidder = 0; bidder < 6; bidder++) {
            Bounds.is(room.ask(bidder, 0, 7), 0);
        }
        Bounds.is(room.count(5), 1);
        Bounds.is(room.answer(0, 321, false), 6);
        Bounds.is(room.answer(0, 322, false), STATE);
        for (int bidder = 0; bidder < 6; bidder++) {
            Bounds.is(room.hear(bidder, 0), 321);
        }
        Bounds.is(room.tick(1), 1);
        Bounds.is(room.ask(0, 0, 7), 0);
        Bounds.is(room.answer(0, 323, true), STATE);
        Bounds.is(room.hear(0, 0), 321);
    }

    private static void chained() {
        Room room = new Room().open();
        room.add(0, 0, 0, "x");
        room.add(2, 1, 0, "y");
        long before = 7;
        for (int i = 0; i < 12; i++) {
            room.read(i % 6, i % 2, 0);
            long told = 1000L * room.log(i, 0) + 100L * room.log(i, 1) + 10L * room.log(i, 2) + room.log(i, 3);
            Bounds.is(room.chain(i), 31 * before + told);
            before = room.chain(i);
            room.tick(1 + i);
        }
    }

    // ---- an object is used for at most 512 calls

    private static void fillUp(Room room) {
        while (room.left() > 1) {
            room.count(0);
        }
    }

    private static void atLast(Consumer<Room> scene, ToLongFunction<Room> call, long want) {
        Room room = new Room();
        scene.accept(room);
        fillUp(room);
        Bounds.is(call.applyAsLong(room), want);
        Bounds.is(room.left(), 0);
    }

    private static void lastCall() {
        Consumer<Room> busy = Scenes::busy;
        atLast(busy, r -> r.type('x', 1), 6);
        atLast(busy, Room::clear, 5);
        atLast(busy, r -> r.paper(1, 3, 7), 4);
        atLast(busy, r -> r.version(2), 2);
        atLast(busy, r -> r.blacken(0, 0, 3, 6), 4);
        atLast(busy, r -> r.withdraw(1), 1);
        atLast(busy, r -> r.rights(2, 3, 1000000, 0), 1);
        atLast(busy, r -> r.tick(1000), 1003);
        atLast(busy, r -> r.about(1, 4), 5);
        atLast(busy, r -> r.may(4, 0), 1);
        atLast(busy, r -> r.read(3, 2, 0), 9);
        atLast(busy, r -> r.at(1, 7), 'd');
        atLast(busy.andThen(r -> r.rewrite("again")), r -> r.search(4), 1);
        atLast(busy.andThen(r -> r.rewrite("e  f")), r -> r.named(2, 1), 42);
        atLast(busy, r -> r.log(2, 1), 5);
        atLast(busy, r -> r.chain(0), 3217);
        atLast(busy, r -> r.times(5, 2, 1), 1);
        atLast(busy, r -> r.ask(4, 0, 9), 3);
        atLast(busy, r -> r.answer(1, 999, true), 1);
        atLast(busy, r -> r.hear(3, 0), 77);
        atLast(busy, r -> r.question(0, 2), 9);
        atLast(busy, r -> r.count(3), 3);
        atLast(busy, Room::trace, 1);
    }

    private static void lastCallRefused() {
        atLast(Scenes::busy, r -> r.type(31, 1), BAD);
        atLast(Scenes::busy, r -> r.read(2, 0, 0), NO);
        atLast(Scenes::busy, r -> r.hear(1, 0), NO);
        atLast(Scenes::busy, r -> r.ask(0, 0, 3), STATE);
        atLast(Scenes::busy, r -> r.at(0, 12), Bounds.NONE);
        atLast(Scenes::busyWithoutDraft, r -> r.search(0), STATE);
        atLast(Scenes::fullOfPapers, r -> r.paper(0, 0, 0), FULL);
        atLast(Scenes::fullOfVersions, r -> r.version(0), FULL);
        atLast(Scenes::fullOfQuestions, r -> r.ask(0, 3, 0), FULL);
        atLast(Scenes::fullOfEntries, r -> r.log(200, 0), BAD);
    }

    private static void callsThatChange() {
        Room ticks = new Room();
        for (int i = 1; i <= Room.MOST_CALLS; i++) {
            Bounds.is(ticks.tick(1000), 1000L * i);
        }
        Room drafts = new Room();
        while (drafts.left() > 1) {
            Bounds.is(drafts.type(0x6162636465666768L, 8), 8);
            Bounds.is(drafts.clear(), 8);
        }
        Room reads = paperOfKind(2);
        int lost = reads.left() - 1 - 200;
        while (reads.left() > 1) {
            Bounds.is(reads.read(3, 0, 0), 4);
        }
        Bounds.is(reads.count(4), lost);
        Room looks = paperOfKind(2);
        int times = looks.left() - 1;
        while (looks.left() > 1) {
            Bounds.is(looks.may(3, 0), 1);
        }
        Bounds.is(looks.trace(), 101L * times);
        Room asks = paperOfKind(0);
        for (int i = 0; asks.left() > 0; i++) {
            Bounds.is(asks.ask(0, 0, i % 10), i < 2 ? i : STATE);
        }
    }

    private static void toTheLast(Consumer<Room> scene, ToLongFunction<Room> call, long want) {
        Room room = new Room();
        scene.accept(room);
        while (room.left() > 0) {
            Bounds.is(call.applyAsLong(room), want);
        }
    }

    private static void callsOfOneAnswer() {
        toTheLast(Scenes::fresh, r -> r.type(31, 1), BAD);
        toTheLast(Scenes::fresh, Room::clear, 0);
        toTheLast(Scenes::fresh, r -> r.paper(0, 0, 0), STATE);
        toTheLast(Scenes::fresh, r -> r.version(0), BAD);
        toTheLast(Scenes::fresh, r -> r.rights(2, 3, 0, 1000000), 1);
        toTheLast(Scenes::fresh, r -> r.at(5, 0), Bounds.NONE);
        toTheLast(Scenes::fresh, r -> r.chain(0), 0);
        toTheLast(Scenes::fresh, r -> r.count(1), 0);
        toTheLast(Scenes::fresh, Room::trace, 0);
        toTheLast(Scenes::busy, r -> r.version(3), STATE);
        toTheLast(Scenes::busy, r -> r.blacken(0, 0, 3, 6), 4);
        toTheLast(Scenes::busy, r -> r.withdraw(3), STATE);
        toTheLast(Scenes::busy, r -> r.about(1, 4), 5);
        toTheLast(Scenes::busy, r -> r.read(2, 0, 0), NO);
        toTheLast(Scenes::busy, r -> r.at(1, 7), 'd');
        toTheLast(Scenes::busy, r -> r.search(0), 0);
        toTheLast(r -> Scenes.draftOf(r, 1), r -> r.search(0), 1);
        toTheLast(r -> Scenes.draftOf(r, 1), r -> r.named(2, 0), 63);
        toTheLast(Scenes::busy, r -> r.log(2, 1), 5);
        toTheLast(Scenes::busy, r -> r.times(5, 2, 1), 1);
        toTheLast(Scenes::busy, r -> r.answer(0, 5, true), STATE);
        toTheLast(Scenes::busy, r -> r.hear(3, 0), 77);
        toTheLast(Scenes::busy, r -> r.question(0, 2), 9);
        toTheLast(Scenes::fullOfPapers, r -> r.paper(0, 0, 0), FULL);
        toTheLast(Scenes::fullOfQuestions, r -> r.ask(0, 3, 0), FULL);
    }

    private static Room paperOfKind(int kind) {
        Room room = new Room().open();
        room.add(kind, 0, 0, "a b");
        return room;
    }

    private static void objectsStandAlone() {
        Room first = new Room();
        Room other = new Room();
        Scenes.busy(first);
        fillUp(first);
        for (int what = 0; what < 6; what++) {
            Bounds.is(other.count(what), 0);
        }
        Bounds.is(other.trace(), 0);
        Bounds.is(other.at(0, 0), Bounds.NONE);
        Scenes.busy(other);
        for (int what = 0; what < 6; what++) {
            Bounds.is(other.count(what), new int[] {4, 3, 5, 3, 0, 3}[what]);
        }
        Bounds.is(other.trace(), 1);
        Bounds.is(other.chain(0), 3217);
        Bounds.is(first.clear(), 5);
        Bounds.is(other.clear(), 5);
    }

    // ---- README.md

    private static void example() {
        Room room = new Room();
        Bounds.is(room.rights(0, 1, 0, 100), 1);
        Bounds.is(room.type(0x612062L, 3), 3);
        Bounds.is(room.paper(2, 1, 0), 0);
        Bounds.is(room.read(3, 0, 0), 4);
        Bounds.is(room.at(3, 2), 32);
        Bounds.is(room.read(1, 0, 0), NO);
        Bounds.is(room.ask(3, 0, 7), 0);
        Bounds.is(room.hear(3, 0), STATE);
        Bounds.is(room.answer(0, 250, false), 1);
        Bounds.is(room.hear(3, 0), 250);
        Bounds.is(room.hear(0, 0), NO);
        Bounds.is(room.log(0, 1), 3);
        Bounds.is(room.chain(0), 517);
    }
}

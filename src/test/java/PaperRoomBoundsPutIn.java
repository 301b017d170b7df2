/** The boundaries of promises 1 to 10, 'what is put in': a test for each sentence. */
public final class PaperRoomBoundsPutIn {
    private static final int BAD = Bounds.BAD, STATE = Bounds.STATE, FULL = Bounds.FULL;
    private static final int NO = Bounds.NO, NONE = Bounds.NONE;
    private static final int LOWEST = Bounds.LOWEST, HIGHEST = Bounds.HIGHEST;

    public static void main(String[] args) {
        Bounds.from("Promise 1");
        Bounds.sentence("TICK 0", PaperRoomBoundsPutIn::newTick);
        Bounds.sentence("no RIGHTS", PaperRoomBoundsPutIn::newRights);
        Bounds.sentence("no PAPERS", PaperRoomBoundsPutIn::newPapers);
        Bounds.sentence("an empty DRAFT", PaperRoomBoundsPutIn::newDraft);
        Bounds.sentence("a new object has no entries, QUESTIONS, TRACE", PaperRoomBoundsPutIn::newRest);
        Bounds.from("Promise 2");
        Bounds.sentence("The lowest n (1 .. 8) bytes", PaperRoomBoundsPutIn::typeNumber);
        Bounds.sentence("The lowest bytes of v", PaperRoomBoundsPutIn::typeLowest);
        Bounds.sentence("the highest of them first", PaperRoomBoundsPutIn::typeHighestFirst);
        Bounds.sentence("how many it has", PaperRoomBoundsPutIn::typeAnswer);
        Bounds.sentence("BAD: also a byte that is not 32 .. 126", PaperRoomBoundsPutIn::typeBytes);
        Bounds.sentence("FULL: more than 40", PaperRoomBoundsPutIn::typeFull);
        Bounds.from("Promise 3");
        Bounds.sentence("THE DRAFT is empty", PaperRoomBoundsPutIn::clearEmpties);
        Bounds.sentence("how many it had", PaperRoomBoundsPutIn::clearAnswer);
        Bounds.from("Promise 4");
        Bounds.sentence("THE DRAFT becomes VERSION 0 of a new PAPER", PaperRoomBoundsPutIn::paperText);
        Bounds.sentence("tick is not looked at but of HELD", PaperRoomBoundsPutIn::paperTickOfOthers);
        Bounds.sentence("of HELD: 0 or more", PaperRoomBoundsPutIn::paperTickOfHeld);
        Bounds.sentence("its number", PaperRoomBoundsPutIn::paperNumber);
        Bounds.sentence("it is empty then", PaperRoomBoundsPutIn::paperEmptiesDraft);
        Bounds.sentence("BAD", PaperRoomBoundsPutIn::paperBad);
        Bounds.sentence("STATE: THE DRAFT is empty", PaperRoomBoundsPutIn::paperState);
        Bounds.sentence("FULL", PaperRoomBoundsPutIn::paperFull);
        Bounds.from("Promise 5");
        Bounds.sentence("THE DRAFT becomes the next VERSION: its number", PaperRoomBoundsPutIn::versionNumber);
        Bounds.sentence("it is empty then", PaperRoomBoundsPutIn::versionEmptiesDraft);
        Bounds.sentence("BAD", PaperRoomBoundsPutIn::versionBad);
        Bounds.sentence("STATE: THE DRAFT is empty", PaperRoomBoundsPutIn::versionOfNothing);
        Bounds.sentence("STATE: or it is WITHDRAWN", PaperRoomBoundsPutIn::versionOfWithdrawn);
        Bounds.sentence("FULL", PaperRoomBoundsPutIn::versionFull);
        Bounds.from("Promise 6");
        Bounds.sentence("A span: from 0 on", PaperRoomBoundsPutIn::blackenFrom);
        Bounds.sentence("before the text's length at most", PaperRoomBoundsPutIn::blackenTo);
        Bounds.sentence("from below to", PaperRoomBoundsPutIn::blackenFromBelowTo);
        Bounds.sentence("how many bytes of that VERSION are BLACK then", PaperRoomBoundsPutIn::blackenAnswer);
        Bounds.sentence("BAD: no such PAPER or VERSION", PaperRoomBoundsPutIn::blackenBad);
        Bounds.from("Promise 7");
        Bounds.sentence("A PAPER is WITHDRAWN: 1", PaperRoomBoundsPutIn::withdrawAnswer);
        Bounds.sentence("BAD", PaperRoomBoundsPutIn::withdrawBad);
        Bounds.sentence("STATE: it is", PaperRoomBoundsPutIn::withdrawTwice);
        Bounds.from("Promise 8");
        Bounds.sentence("RIGHTS of a GROUP to a FOLDER, 1", PaperRoomBoundsPutIn::rightsAnswer);
        Bounds.sentence("BAD: 0 .. 1000000 each", PaperRoomBoundsPutIn::rightsNumbers);
        Bounds.sentence("BAD: no such GROUP or FOLDER", PaperRoomBoundsPutIn::rightsBad);
        Bounds.from("Promise 9");
        Bounds.sentence("so many TICKS (1 .. 1000) later: it", PaperRoomBoundsPutIn::tickNumbers);
        Bounds.sentence("as far as the calls of an object bring NOW", PaperRoomBoundsPutIn::tickFarthest);
        Bounds.sentence("BAD", PaperRoomBoundsPutIn::tickBad);
        Bounds.from("Promise 10");
        Bounds.sentence("0 KIND", PaperRoomBoundsPutIn::aboutKind);
        Bounds.sentence("1 FOLDER", PaperRoomBoundsPutIn::aboutFolder);
        Bounds.sentence("2 VERSIONS", PaperRoomBoundsPutIn::aboutVersions);
        Bounds.sentence("3 whether it is WITHDRAWN", PaperRoomBoundsPutIn::aboutWithdrawn);
        Bounds.sentence("4 its TICK (0 but of HELD)", PaperRoomBoundsPutIn::aboutTick);
        Bounds.sentence("Of a PAPER it tells, and changes nothing", PaperRoomBoundsPutIn::aboutKeepsAll);
        Bounds.sentence("BAD", PaperRoomBoundsPutIn::aboutBad);
        Bounds.end();
    }

    // ---- promise 1

    private static void newTick() {
        Room room = new Room();
        Bounds.is(room.count(1), 0);
        Bounds.is(room.tick(1), 1);
        Bounds.is(new Room().count(1), 0);
    }

    private static void newRights() {
        Room room = new Room();
        for (int folder = 0; folder < 4; folder++) {
            room.add(folder % 3, folder, 0, "x");
            for (int bidder = 0; bidder < 6; bidder++) {
                Bounds.is(room.may(bidder, folder), 0);
                Bounds.is(room.read(bidder, folder, 0), NO);
            }
        }
    }

    private static void newPapers() {
        Room room = new Room();
        Bounds.is(room.count(0), 0);
        for (int what = 0; what < 5; what++) {
            Bounds.is(room.about(0, what), BAD);
        }
        Bounds.is(room.may(0, 0), BAD);
        Bounds.is(room.read(0, 0, 0), BAD);
        Bounds.is(room.times(0, 0, 0), BAD);
        Bounds.is(room.withdraw(0), BAD);
        Bounds.is(room.blacken(0, 0, 0, 1), BAD);
        Bounds.is(room.ask(0, 0, 0), BAD);
        Bounds.is(room.version(0), BAD);
        Bounds.is(room.named(0, 0), BAD);
        room.write("x");
        Bounds.is(room.search(0), 0);
        Bounds.is(room.version(0), BAD);
        Bounds.is(room.named(0, 0), BAD);
        Bounds.is(room.paper(0, 0, 0), 0);
    }

    private static void newDraft() {
        Room room = new Room();
        Bounds.is(room.count(2), 0);
        Bounds.is(room.clear(), 0);
        Bounds.is(room.search(0), STATE);
        Bounds.is(room.paper(0, 0, 0), STATE);
        Bounds.is(room.type('x', 1), 1);
    }

    private static void newRest() {
        Room room = new Room();
        Bounds.is(room.count(3), 0);
        Bounds.is(room.count(4), 0);
        Bounds.is(room.count(5), 0);
        Bounds.is(room.trace(), 0);
        Bounds.is(room.log(0, 0), BAD);
        Bounds.is(room.chain(0), 0);
        Bounds.is(room.question(0, 0), BAD);
        Bounds.is(room.hear(0, 0), BAD);
        Bounds.is(room.answer(0, 0, true), BAD);
        for (int bidder = 0; bidder < 6; bidder++) {
            Bounds.is(room.at(bidder, 0), NONE);
        }
    }

    // ---- promise 2

    private static void typeNumber() {
        for (int n = 1; n <= 8; n++) {
            Room room = new Room().open();
            Bounds.is(room.type(0x6162636465666768L, n), n);
            room.paper(0, 0, 0);
            Bounds.sees(room, 0, 0, 0, "abcdefgh".substring(8 - n));
        }
        Bounds.badOutside(Scenes::fresh, 1, 8, (r, n) -> r.type(0x6162636465666768L, n));
        Bounds.badOutside(Scenes::busy, 1, 8, (r, n) -> r.type(0x6162636465666768L, n));
    }

    private static void typeLowest() {
        for (int n = 1; n < 8; n++) {
            Room room = new Room().open();
            Bounds.is(room.type(-1L << 8 * n | 0x6161616161616161L & ~(-1L << 8 * n), n), n);
            room.paper(0, 0, 0);
            Bounds.sees(room, 0, 0, 0, "aaaaaaa".substring(0, n));
        }
        Bounds.changesNothing(Scenes::busy, r -> r.type('a', 2), BAD);
        Bounds.changesNothing(Scenes::busy, r -> r.type(0x61616161616161L, 8), BAD);
        Bounds.changesNothing(Scenes::busy, r -> r.type(0, 1), BAD);
        Bounds.changesNothing(Scenes::busy, r -> r.type(0, 8), BAD);
        Bounds.changesNothing(Scenes::busy, r -> r.type(Long.MIN_VALUE, 8), BAD);
        Bounds.changesNothing(Scenes::busy, r -> r.type(Long.MAX_VALUE, 8), BAD);
        Bounds.changesNothing(Scenes::busy, r -> r.type(-1, 1), BAD);
        Bounds.changesNothing(Scenes::busy, r -> r.type(0x80 | 'a', 1), BAD);
        Bounds.changesNothing(Scenes::busy, r -> r.type(0x8061616161616161L, 8), BAD);
    }

    private static void typeHighestFirst() {
        Room room = new Room().open();
        room.type(0x7e20, 2);
        room.type(0x207e, 2);
        room.type(0x313233, 3);
        room.type(0x7e7d7c7b7a797877L, 8);
        room.paper(0, 0, 0);
        Bounds.sees(room, 0, 0, 0, "~  ~123~}|{zyxw");
    }

    private static void typeAnswer() {
        Room room = new Room();
        for (int bytes = 1; bytes <= 40; bytes++) {
            Bounds.is(room.type('a', 1), bytes);
            Bounds.is(room.count(2), bytes);
        }
        room.paper(0, 0, 0);
        Bounds.is(room.type('a', 1), 1);
    }

    private static void typeBytes() {
        for (int place = 0; place < 8; place++) {
            for (int b : new int[] {0, 31, 127, 128, 160, 254, 255}) {
                long v = wordWith(place, b);
                Bounds.changesNothing(Scenes::busy, r -> r.type(v, 8), BAD);
            }
            for (int b : new int[] {32, 33, 35, 125, 126}) {
                Room room = new Room().open();
                Bounds.is(room.type(wordWith(place, b), 8), 8);
                room.paper(0, 0, 0);
                StringBuilder text = new StringBuilder("aaaaaaaa");
                text.setCharAt(7 - place, (char) b);
                Bounds.sees(room, 0, 0, 0, text.toString());
            }
        }
    }

    private static long wordWith(int place, int b) {
        return 0x6161616161616161L & ~(255L << 8 * place) | (long) b << 8 * place;
    }

    private static void typeFull() {
        for (int n = 1; n <= 8; n++) {
            int more = n;
            Room room = new Room().open();
            room.write(Scenes.FORTY.substring(0, 40 - n));
            Bounds.is(room.type(0x7878787878787878L, n), 40);
            Bounds.is(room.type('x', 1), FULL);
            room.paper(0, 0, 0);
            Bounds.sees(room, 0, 0, 0, Scenes.FORTY.substring(0, 40 - n) + "xxxxxxxx".substring(0, n));
            Bounds.changesNothing(r -> Scenes.draftOf(r, 41 - more), r -> r.type(0x7878787878787878L, more), FULL);
            Bounds.changesNothing(r -> Scenes.draftOf(r, 40), r -> r.type(0x7878787878787878L, more), FULL);
        }
    }

    // ---- promise 3

    private static void clearEmpties() {
        Room room = new Room().open();
        room.write("abc");
        room.clear();
        Bounds.is(room.count(2), 0);
        Bounds.is(room.search(0), STATE);
        Bounds.is(room.paper(0, 0, 0), STATE);
        room.write("z");
        room.paper(0, 0, 0);
        Bounds.sees(room, 0, 0, 0, "z");
        room.rewrite(Scenes.FORTY);
        room.clear();
        Bounds.is(room.write(Scenes.FORTY), 40);
    }

    private static void clearAnswer() {
        for (int bytes = 0; bytes <= 40; bytes++) {
            Room room = new Room();
            room.write(Scenes.FORTY.substring(0, bytes));
            Bounds.is(room.clear(), bytes);
            Bounds.is(room.clear(), 0);
        }
        Bounds.changesNothing(Scenes::busyWithoutDraft, Room::clear, 0);
        Bounds.changesNothing(Scenes::fresh, Room::clear, 0);
    }

    // ---- promise 4

    private static void paperText() {
        for (int kind = 0; kind < 3; kind++) {
            for (int bytes : new int[] {1, 2, 8, 39, 40}) {
                Room room = new Room().open();
                String text = Scenes.FORTY.substring(0, bytes);
                room.write(text);
                Bounds.is(room.paper(kind, 1, 0), 0);
                Bounds.is(room.about(0, 2), 1);
                room.write("other");
                Bounds.sees(room, 0, 0, 0, text);
                Bounds.is(room.read(0, 0, 1), BAD);
            }
        }
    }

    private static void paperTickOfOthers() {
        for (int kind = 0; kind < 3; kind += 2) {
            for (int tick : new int[] {LOWEST, -1, 0, 1, 1000001, HIGHEST}) {
                Room room = new Room().open();
                Bounds.is(room.add(kind, 0, tick, "x"), 0);
                Bounds.is(room.about(0, 4), 0);
                Bounds.is(room.may(0, 0), 1);
            }
        }
    }

    private static void paperTickOfHeld() {
        for (int tick : new int[] {0, 1, 1000, 1000001, HIGHEST}) {
            Room room = new Room().open();
            Bounds.is(room.add(1, 0, tick, "x"), 0);
            Bounds.is(room.about(0, 4), tick);
            Bounds.is(room.may(0, 0), tick == 0 ? 1 : 0);
        }
        for (int tick : new int[] {-1, -2, -1000, LOWEST}) {
            Bounds.changesNothing(Scenes::busy, r -> r.paper(1, 0, tick), BAD);
        }
    }

    private static void paperNumber() {
        Room room = new Room();
        for (int paper = 0; paper < 8; paper++) {
            Bounds.is(room.add(paper % 3, 0, 0, "x"), paper);
            Bounds.is(room.paper(9, 0, 0), BAD);
            Bounds.is(room.paper(0, 0, 0), STATE);
            Bounds.is(room.count(0), paper + 1);
        }
    }

    private static void paperEmptiesDraft() {
        for (int kind = 0; kind < 3; kind++) {
            Room room = new Room();
            room.write(Scenes.FORTY);
            room.paper(kind, 0, 0);
            Bounds.is(room.count(2), 0);
            Bounds.is(room.clear(), 0);
            Bounds.is(room.paper(kind, 0, 0), STATE);
            Bounds.is(room.write(Scenes.FORTY), 40);
        }
    }

    private static void paperBad() {
        for (int kind : Bounds.outside(0, 2)) {
            Bounds.changesNothing(Scenes::busy, r -> r.paper(kind, 3, 5), BAD);
        }
        for (int folder : Bounds.outside(0, 3)) {
            Bounds.changesNothing(Scenes::busy, r -> r.paper(1, folder, 5), BAD);
        }
    }

    private static void paperState() {
        for (int kind = 0; kind < 3; kind++) {
            int made = kind;
            Bounds.changesNothing(Scenes::fresh, r -> r.paper(made, 0, 0), STATE);
            Bounds.changesNothing(Scenes::busyWithoutDraft, r -> r.paper(made, 3, 5), STATE);
        }
    }

    private static void paperFull() {
        for (int kind = 0; kind < 3; kind++) {
            int made = kind;
            Bounds.changesNothing(Scenes::fullOfPapers, r -> r.paper(made, 0, 5), FULL);
        }
        Room room = new Room();
        Scenes.fullOfPapers(room);
        room.paper(0, 0, 0);
        Bounds.is(room.version(7), 1);
        Bounds.is(room.about(7, 2), 2);
    }

    // ---- promise 5

    private static void versionNumber() {
        for (int kind = 0; kind < 3; kind++) {
            Room room = new Room().open();
            room.add(kind, 0, 0, "first");
            room.add(kind, 0, 0, "other");
            for (int version = 1; version < 4; version++) {
                Bounds.is(room.revise(0, "text" + version), version);
                Bounds.is(room.about(0, 2), version + 1);
                Bounds.is(room.about(1, 2), 1);
                Bounds.sees(room, 0, 0, version, "text" + version);
                Bounds.is(room.read(0, 0, version + 1), BAD);
            }
            Bounds.sees(room, 0, 0, 0, "first");
            Bounds.sees(room, 0, 1, 0, "other");
        }
    }

    private static void versionEmptiesDraft() {
        Room room = new Room();
        room.add(0, 0, 0, "x");
        room.write(Scenes.FORTY);
        room.version(0);
        Bounds.is(room.count(2), 0);
        Bounds.is(room.version(0), STATE);
        Bounds.is(room.clear(), 0);
        Bounds.is(room.write(Scenes.FORTY), 40);
    }

    private static void versionBad() {
        Bounds.badOutside(Scenes::busy, 0, 3, Room::version);
        Bounds.badOutside(Scenes::fullOfPapers, 0, 7, Room::version);
        Bounds.changesNothing(r -> r.write("x"), r -> r.version(0), BAD);
        Bounds.changesNothing(Scenes::fresh, r -> r.version(0), BAD);
    }

    private static void versionOfNothing() {
        for (int paper = 0; paper < 3; paper++) {
            int number = paper;
            Bounds.changesNothing(Scenes::busyWithoutDraft, r -> r.version(number), STATE);
        }
    }

    private static void versionOfWithdrawn() {
        Bounds.changesNothing(Scenes::busy, r -> r.version(3), STATE);
        for (int paper = 0; paper < 3; paper++) {
            int gone = paper;
            Bounds.changesNothing(r -> {
                Scenes.busy(r);
                r.withdraw(gone);
            }, r -> r.version(gone), STATE);
        }
        Room room = new Room();
        Scenes.busy(room);
        Bounds.is(room.version(3), STATE);
        Bounds.is(room.version(0), 2);
    }

    private static void versionFull() {
        for (int paper = 0; paper < 3; paper++) {
            int number = paper;
            Bounds.changesNothing(Scenes::fullOfVersions, r -> r.version(number), FULL);
            // the others have a place yet, which the refused draft must not take
            Bounds.changesNothing(r -> {
                Scenes.busy(r);
                for (int version = r.about(number, 2); version < 4; version++) {
                    r.revise(number, "v");
                }
                r.write("fifth");
            }, r -> r.version(number), FULL);
        }
        Room room = new Room();
        room.add(0, 0, 0, "x");
        room.add(0, 0, 0, "x");
        for (int version = 1; version < 4; version++) {
            room.revise(0, "x");
        }
        Bounds.is(room.revise(0, "x"), FULL);
        Bounds.is(room.version(1), 1);
    }

    // ---- promise 6

    private static Room texts() {
        Room room = new Room().open();
        room.add(0, 0, 0, "abcdef");
        room.revise(0, "xy");
        return room;
    }

    private static void blackenFrom() {
        Room room = texts();
        Bounds.is(room.blacken(0, 0, 0, 1), 1);
        Bounds.sees(room, 0, 0, 0, "#bcdef");
        for (int from : new int[] {-1, -2, -256, LOWEST}) {
            Bounds.changesNothing(Scenes::busy, r -> r.blacken(0, 0, from, 1), BAD);
            Bounds.changesNothing(Scenes::busy, r -> r.blacken(0, 0, from, 12), BAD);
            Bounds.changesNothing(Scenes::busy, r -> r.blacken(0, 0, from, 0), BAD);
        }
    }

    private static void blackenTo() {
        Room room = texts();
        Bounds.is(room.blacken(0, 0, 5, 6), 1);
        Bounds.is(room.blacken(0, 1, 1, 2), 1);
        Bounds.sees(room, 0, 0, 0, "abcde#");
        Bounds.sees(room, 0, 0, 1, "x#");
        // busy's texts have 12, 11, 9, 7 and 3 bytes
        int[][] ends = {{0, 0, 12}, {0, 1, 11}, {1, 0, 9}, {2, 0, 7}, {2, 1, 3}};
        for (int[] end : ends) {
            for (int to : new int[] {end[2] + 1, end[2] + 2, 40, 41, 256, HIGHEST}) {
                Bounds.changesNothing(Scenes::busy, r -> r.blacken(end[0], end[1], 0, to), BAD);
                Bounds.changesNothing(Scenes::busy, r -> r.blacken(end[0], end[1], end[2] - 1, to), BAD);
                Bounds.changesNothing(Scenes::busy, r -> r.blacken(end[0], end[1], end[2], to), BAD);
            }
            Room busy = new Room();
            Scenes.busy(busy);
            Bounds.is(busy.blacken(end[0], end[1], 0, end[2]), end[2]);
        }
        Room longest = new Room();
        longest.write(Scenes.FORTY);
        longest.paper(0, 0, 0);
        Bounds.is(longest.blacken(0, 0, 0, 41), BAD);
        Bounds.is(longest.blacken(0, 0, 40, 41), BAD);
        Bounds.is(longest.blacken(0, 0, 39, 40), 1);
    }

    private static void blackenFromBelowTo() {
        for (int place = 0; place <= 12; place++) {
            int from = place;
            Bounds.changesNothing(Scenes::busy, r -> r.blacken(0, 0, from, from), BAD);
            Bounds.changesNothing(Scenes::busy, r -> r.blacken(0, 0, from, from - 1), BAD);
        }
        Bounds.changesNothing(Scenes::busy, r -> r.blacken(0, 0, HIGHEST, LOWEST), BAD);
        Bounds.changesNothing(Scenes::busy, r -> r.blacken(0, 0, 12, 0), BAD);
        Bounds.changesNothing(Scenes::busy, r -> r.blacken(0, 0, LOWEST, HIGHEST), BAD);
        Room room = texts();
        for (int from = 0; from < 6; from++) {
            Bounds.is(room.blacken(0, 0, from, from + 1), from + 1);
        }
    }

    private static void blackenAnswer() {
        Room room = texts();
        Bounds.is(room.blacken(0, 0, 1, 3), 2);
        Bounds.is(room.blacken(0, 0, 1, 3), 2);
        Bounds.is(room.blacken(0, 0, 2, 4), 3);
        Bounds.is(room.blacken(0, 1, 0, 1), 1);
        Bounds.is(room.blacken(0, 0, 5, 6), 4);
        Bounds.is(room.blacken(0, 0, 4, 5), 5);
        Bounds.is(room.blacken(0, 0, 2, 3), 5);
        Bounds.is(room.blacken(0, 0, 0, 6), 6);
        Bounds.is(room.blacken(0, 0, 0, 1), 6);
        Bounds.is(room.blacken(0, 1, 0, 2), 2);
    }

    private static void blackenBad() {
        Bounds.badOutside(Scenes::busy, 0, 3, (r, paper) -> r.blacken(paper, 0, 0, 1));
        Bounds.badOutside(Scenes::fullOfPapers, 0, 7, (r, paper) -> r.blacken(paper, 0, 0, 1));
        Bounds.badOutside(Scenes::busy, 0, 1, (r, version) -> r.blacken(0, version, 0, 1));
        Bounds.badOutside(Scenes::busy, 0, 0, (r, version) -> r.blacken(1, version, 0, 1));
        Bounds.badOutside(Scenes::fullOfVersions, 0, 3, (r, version) -> r.blacken(2, version, 0, 1));
        Bounds.changesNothing(Scenes::fresh, r -> r.blacken(0, 0, 0, 1), BAD);
        Room room = new Room();
        Scenes.busy(room);
        Bounds.is(room.blacken(3, 0, 0, 4), 4);
    }

    // ---- promise 7

    private static void withdrawAnswer() {
        Room room = new Room().open();
        for (int paper = 0; paper < 8; paper++) {
            room.add(paper % 3, 0, 0, "x");
        }
        for (int paper = 7; paper >= 0; paper--) {
            Bounds.is(room.may(0, paper), 1);
            Bounds.is(room.withdraw(paper), 1);
            Bounds.is(room.about(paper, 3), 1);
            Bounds.is(room.may(0, paper), 0);
        }
        Bounds.is(room.count(0), 8);
    }

    private static void withdrawBad() {
        Bounds.badOutside(Scenes::busy, 0, 3, Room::withdraw);
        Bounds.badOutside(Scenes::fullOfPapers, 0, 7, Room::withdraw);
        Bounds.changesNothing(Scenes::fresh, r -> r.withdraw(0), BAD);
    }

    private static void withdrawTwice() {
        Bounds.changesNothing(Scenes::busy, r -> r.withdraw(3), STATE);
        for (int paper = 0; paper < 3; paper++) {
            int gone = paper;
            Bounds.changesNothing(r -> {
                Scenes.busy(r);
                r.withdraw(gone);
            }, r -> r.withdraw(gone), STATE);
        }
        Room room = new Room();
        Scenes.busy(room);
        Bounds.is(room.withdraw(3), STATE);
        Bounds.is(room.withdraw(3), STATE);
        Bounds.is(room.about(3, 3), 1);
        Bounds.is(room.withdraw(2), 1);
    }

    // ---- promise 8

    private static void rightsAnswer() {
        Room room = new Room();
        room.add(0, 3, 0, "x");
        for (int group = 0; group < 3; group++) {
            for (int folder = 0; folder < 4; folder++) {
                Bounds.is(room.rights(group, folder, 0, 1), 1);
            }
        }
        Bounds.is(room.may(2, 0), 1);
        Bounds.is(room.rights(2, 3, 1, 2), 1);
        Bounds.is(room.may(2, 0), 0);
        Bounds.is(room.rights(2, 3, 1, 0), 1);
        Bounds.is(room.may(2, 0), 0);
        Bounds.is(room.rights(2, 3, 0, 1), 1);
        Bounds.is(room.may(2, 0), 1);
    }

    private static void rightsNumbers() {
        for (int from : new int[] {0, 1, 999999, 1000000}) {
            for (int before : new int[] {0, 1, 999999, 1000000}) {
                Room room = new Room();
                room.add(0, 0, 0, "x");
                Bounds.is(room.rights(0, 0, from, before), 1);
                Bounds.is(room.may(0, 0), from == 0 && before > 0 ? 1 : 0);
                room.tick(1);
                Bounds.is(room.may(0, 0), from <= 1 && before > 1 ? 1 : 0);
            }
        }
        Bounds.badOutside(Scenes::busy, 0, 1000000, (r, from) -> r.rights(0, 0, from, 5));
        Bounds.badOutside(Scenes::busy, 0, 1000000, (r, from) -> r.rights(2, 0, from, 1000000));
        Bounds.badOutside(Scenes::busy, 0, 1000000, (r, before) -> r.rights(0, 0, 0, before));
        Bounds.badOutside(Scenes::busy, 0, 1000000, (r, before) -> r.rights(2, 0, 1000000, before));
    }

    private static void rightsBad() {
        Bounds.badOutside(Scenes::busy, 0, 2, (r, group) -> r.rights(group, 0, 0, 1));
        Bounds.badOutside(Scenes::busy, 0, 2, (r, group) -> r.rights(group, 3, 0, 1));
        Bounds.badOutside(Scenes::busy, 0, 3, (r, folder) -> r.rights(0, folder, 0, 1));
        Bounds.badOutside(Scenes::busy, 0, 3, (r, folder) -> r.rights(2, folder, 0, 1));
        Bounds.badOutside(Scenes::busy, 0, 3, (r, folder) -> r.rights(1, folder, 0, 1));
    }

    // ---- promise 9

    private static void tickNumbers() {
        Room room = new Room();
        Bounds.is(room.tick(1), 1);
        Bounds.is(room.count(1), 1);
        Bounds.is(room.tick(2), 3);
        Bounds.is(room.tick(999), 1002);
        Bounds.is(room.tick(1000), 2002);
        Bounds.is(room.count(1), 2002);
        Bounds.is(room.tick(1), 2003);
    }

    private static void tickFarthest() {
        Room room = new Room();
        room.rights(0, 0, 500000, 500001);
        room.add(1, 0, 500000, "x");
        for (int i = 1; i < 500; i++) {
            Bounds.is(room.tick(1000), 1000L * i);
        }
        Bounds.is(room.tick(999), 499999);
        Bounds.is(room.may(0, 0), 0);
        Bounds.is(room.tick(1), 500000);
        Bounds.is(room.read(0, 0, 0), 1);
        Bounds.is(room.log(0, 0), 500000);
        Bounds.is(room.chain(0), 500000217);
        Bounds.is(room.tick(1), 500001);
        Bounds.is(room.may(0, 0), 0);
    }

    private static void tickBad() {
        Bounds.badOutside(Scenes::busy, 1, 1000, Room::tick);
        Bounds.badOutside(Scenes::fresh, 1, 1000, Room::tick);
        Bounds.changesNothing(Scenes::busy, r -> r.tick(-1), BAD);
        Bounds.changesNothing(Scenes::busy, r -> r.tick(-1000), BAD);
    }

    // ---- promise 10

    /** Twelve versions in eight papers of all kinds and folders. */
    private static Room manyPapers() {
        Room room = new Room();
        for (int paper = 0; paper < 8; paper++) {
            room.add(paper % 3, 3 - paper % 4, 100 + paper, "x");
        }
        for (int version = 1; version < 4; version++) {
            room.revise(2, "y");
        }
        room.revise(7, "y");
        room.withdraw(0);
        room.withdraw(7);
        return room;
    }

    private static void aboutKind() {
        Room room = manyPapers();
        for (int paper = 0; paper < 8; paper++) {
            Bounds.is(room.about(paper, 0), paper % 3);
        }
    }

    private static void aboutFolder() {
        Room room = manyPapers();
        for (int paper = 0; paper < 8; paper++) {
            Bounds.is(room.about(paper, 1), 3 - paper % 4);
        }
    }

    private static void aboutVersions() {
        Room room = manyPapers();
        int[] versions = {1, 1, 4, 1, 1, 1, 1, 2};
        for (int paper = 0; paper < 8; paper++) {
            Bounds.is(room.about(paper, 2), versions[paper]);
        }
    }

    private static void aboutWithdrawn() {
        Room room = manyPapers();
        for (int paper = 0; paper < 8; paper++) {
            Bounds.is(room.about(paper, 3), paper % 7 == 0 ? 1 : 0);
        }
    }

    private static void aboutTick() {
        Room room = manyPapers();
        for (int paper = 0; paper < 8; paper++) {
            Bounds.is(room.about(paper, 4), paper % 3 == 1 ? 100 + paper : 0);
        }
        room.tick(1000);
        Bounds.is(room.about(1, 4), 101);
    }

    private static void aboutBad() {
        Bounds.badOutside(Scenes::busy, 0, 3, (r, paper) -> r.about(paper, 0));
        Bounds.badOutside(Scenes::fullOfPapers, 0, 7, (r, paper) -> r.about(paper, 4));
        for (int paper = 0; paper < 4; paper++) {
            int number = paper;
            Bounds.badOutside(Scenes::busy, 0, 4, (r, what) -> r.about(number, what));
        }
        Bounds.changesNothing(Scenes::fresh, r -> r.about(0, 0), BAD);
    }

    private static void aboutKeepsAll() {
        int[][] told = {{0, 0, 2, 0, 0}, {1, 1, 1, 0, 5}, {2, 2, 2, 0, 0}, {0, 3, 1, 1, 0}};
        for (int i = 0; i < 20; i++) {
            int paper = i / 5, what = i % 5;
            Bounds.changesNothing(Scenes::busy, r -> r.about(paper, what), told[paper][what]);
        }
    }
}

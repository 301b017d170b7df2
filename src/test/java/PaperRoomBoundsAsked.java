/** The boundaries of promises 19 to 24, 'questions': a test for each sentence. */
public final class PaperRoomBoundsAsked {
    private static final int BAD = Bounds.BAD, STATE = Bounds.STATE, FULL = Bounds.FULL, NO = Bounds.NO;

    public static void main(String[] args) {
        Bounds.from("Promise 19");
        Bounds.sentence("the QUESTION's number: a new one", PaperRoomBoundsAsked::askNew);
        Bounds.sentence("or that it is joined to", PaperRoomBoundsAsked::askJoined);
        Bounds.sentence("BAD", PaperRoomBoundsAsked::askBad);
        Bounds.sentence("NO", PaperRoomBoundsAsked::askNo);
        Bounds.sentence("STATE: a third time in this TICK", PaperRoomBoundsAsked::askThird);
        Bounds.sentence("refused ones are not times in this TICK", PaperRoomBoundsAsked::askRefused);
        Bounds.sentence("FULL: 30 others", PaperRoomBoundsAsked::askFull);
        Bounds.from("Promise 20");
        Bounds.sentence("how many ASKERS there are", PaperRoomBoundsAsked::answerAskers);
        Bounds.sentence("BAD: no such QUESTION", PaperRoomBoundsAsked::answerBadQuestion);
        Bounds.sentence("BAD: not 0 .. 999", PaperRoomBoundsAsked::answerBadNumber);
        Bounds.sentence("STATE: it has one", PaperRoomBoundsAsked::answerTwice);
        Bounds.from("Promise 21");
        Bounds.sentence("The ANSWER to a QUESTION, for a BIDDER", PaperRoomBoundsAsked::hearAnswer);
        Bounds.sentence("BAD", PaperRoomBoundsAsked::hearBad);
        Bounds.sentence("NO", PaperRoomBoundsAsked::hearNo);
        Bounds.sentence("NO: also one that it is not for", PaperRoomBoundsAsked::hearNotForIt);
        Bounds.sentence("STATE: it has none yet (of one who MAY see the PAPER)", PaperRoomBoundsAsked::hearNoneYet);
        Bounds.from("Promise 22");
        Bounds.sentence("0 PAPER", PaperRoomBoundsAsked::questionPaper);
        Bounds.sentence("1 TOPIC", PaperRoomBoundsAsked::questionTopic);
        Bounds.sentence("2 ASKERS as bits", PaperRoomBoundsAsked::questionAskers);
        Bounds.sentence("3 whether it has an ANSWER (1 for ASKERS, 2 for all; 0)", PaperRoomBoundsAsked::questionAnswered);
        Bounds.sentence("Of a QUESTION it tells, and changes nothing", PaperRoomBoundsAsked::questionKeepsAll);
        Bounds.sentence("BAD", PaperRoomBoundsAsked::questionBad);
        Bounds.from("Promise 23");
        Bounds.sentence("0 PAPERS", PaperRoomBoundsAsked::countPapers);
        Bounds.sentence("1 NOW", PaperRoomBoundsAsked::countNow);
        Bounds.sentence("2 bytes of THE DRAFT", PaperRoomBoundsAsked::countDraft);
        Bounds.sentence("3 entries of THE LOG", PaperRoomBoundsAsked::countEntries);
        Bounds.sentence("4 LOST", PaperRoomBoundsAsked::countLost);
        Bounds.sentence("5 QUESTIONS", PaperRoomBoundsAsked::countQuestions);
        Bounds.sentence("BAD", PaperRoomBoundsAsked::countBad);
        Bounds.from("Promise 24");
        Bounds.sentence("THE TRACE", PaperRoomBoundsAsked::traceOfMay);
        Bounds.sentence("as often as may() asks: no other call does", PaperRoomBoundsAsked::traceOfOthers);
        Bounds.sentence("THE TRACE changes nothing", PaperRoomBoundsAsked::traceKeepsAll);
        Bounds.end();
    }

    // ---- promise 19

    private static void askNew() {
        Room room = new Room().open();
        for (int paper = 0; paper < 8; paper++) {
            room.add(paper % 3, 0, 0, "x");
        }
        for (int question = 0; question < 30; question++) {
            int paper = question % 8, topic = question / 8;
            Bounds.is(room.count(5), question);
            Bounds.is(room.ask(question % 6, paper, topic), question);
            Bounds.is(room.question(question, 0), paper);
            Bounds.is(room.question(question, 1), topic);
            Bounds.is(room.question(question, 2), 1 << question % 6);
            Bounds.is(room.question(question, 3), 0);
            if (question % 6 == 5) {
                room.tick(1);
            }
        }
    }

    private static void askJoined() {
        Room room = new Room();
        Scenes.fullOfQuestions(room);
        for (int question = 0; question < 30; question++) {
            int bidder = (question + 1) % 6;
            int askers = room.question(question, 2);
            Bounds.is(room.ask(bidder, question / 10, question % 10), question);
            Bounds.is(room.question(question, 2), askers | 1 << bidder);
            Bounds.is(room.count(5), 30);
            if (question % 6 == 5) {
                room.tick(1);
            }
        }
    }

    private static void askBad() {
        Bounds.badOutside(Scenes::busy, 0, 5, (r, bidder) -> r.ask(bidder, 2, 4));
        Bounds.badOutside(Scenes::busy, 0, 3, (r, paper) -> r.ask(4, paper, 3));
        Bounds.badOutside(Scenes::fullOfPapers, 0, 7, (r, paper) -> r.ask(4, paper, 3));
        Bounds.badOutside(Scenes::busy, 0, 9, (r, topic) -> r.ask(4, 2, topic));
        Bounds.badOutside(Scenes::fullOfQuestions, 0, 9, (r, topic) -> r.ask(4, 2, topic));
        Bounds.changesNothing(Scenes::fresh, r -> r.ask(0, 0, 0), BAD);
        Room room = new Room();
        Scenes.busy(room);
        Bounds.is(room.ask(4, 2, 0), 3);
        Bounds.is(room.ask(5, 2, 9), 4);
    }

    private static void askNo() {
        Bounds.changesNothing(Scenes::busy, r -> r.ask(2, 0, 1), NO);
        Bounds.changesNothing(Scenes::busy, r -> r.ask(5, 0, 3), NO);
        Bounds.changesNothing(Scenes::busy, r -> r.ask(3, 1, 1), NO);
        Bounds.changesNothing(Scenes::busy, r -> r.ask(3, 3, 1), NO);
        Bounds.changesNothing(Scenes::busy, r -> r.ask(0, 3, 1), NO);
    }

    private static void askThird() {
        Bounds.changesNothing(Scenes::busy, r -> r.ask(0, 0, 3), STATE);
        Bounds.changesNothing(Scenes::busy, r -> r.ask(0, 0, 5), STATE);
        Bounds.changesNothing(Scenes::busy, r -> r.ask(0, 0, 6), STATE);
        Bounds.changesNothing(Scenes::busy, r -> r.ask(0, 2, 0), STATE);
        for (int bidder = 0; bidder < 6; bidder++) {
            Room room = new Room().open();
            room.add(0, 0, 0, "x");
            for (int tick = 0; tick < 4; tick++) {
                Bounds.is(room.ask(bidder, 0, 2 * tick), 2 * tick);
                Bounds.is(room.ask(bidder, 0, 2 * tick + 1), 2 * tick + 1);
                Bounds.is(room.ask(bidder, 0, 2 * tick + 2), STATE);
                Bounds.is(room.ask(bidder, 0, 0), STATE);
                Bounds.is(room.count(5), 2 * tick + 2);
                room.tick(tick == 0 ? 1 : 1000);
            }
        }
        Room others = new Room().open();
        others.add(0, 0, 0, "x");
        for (int bidder = 0; bidder < 6; bidder++) {
            Bounds.is(others.ask(bidder, 0, 0), 0);
            Bounds.is(others.ask(bidder, 0, 1), 1);
        }
        for (int bidder = 0; bidder < 6; bidder++) {
            Bounds.is(others.ask(bidder, 0, 0), STATE);
        }
    }

    private static void askRefused() {
        Room room = new Room();
        Scenes.fullOfQuestions(room);
        room.withdraw(2);
        Bounds.is(room.ask(1, 3, 0), FULL);
        Bounds.is(room.ask(1, 3, 0), FULL);
        Bounds.is(room.ask(1, 2, 0), NO);
        Bounds.is(room.ask(1, 0, 10), BAD);
        Bounds.is(room.ask(1, 0, 0), 0);
        Bounds.is(room.ask(1, 3, 0), FULL);
        Bounds.is(room.ask(1, 2, 0), NO);
        Bounds.is(room.ask(1, 0, 10), BAD);
        Bounds.is(room.ask(1, 0, 1), 1);
        Bounds.is(room.ask(1, 0, 1), STATE);
        room.tick(1);
        Bounds.is(room.ask(1, 0, 1), 1);
    }

    private static void askFull() {
        for (int bidder = 0; bidder < 6; bidder++) {
            int asker = bidder;
            Bounds.changesNothing(Scenes::fullOfQuestions, r -> r.ask(asker, 3, asker), FULL);
        }
        Room room = new Room();
        Scenes.nearlyFullOfQuestions(room);
        Bounds.is(room.ask(0, 3, 0), 29);
        Bounds.is(room.ask(0, 3, 1), FULL);
        Bounds.is(room.ask(0, 3, 0), 29);
        Bounds.is(room.ask(1, 2, 9), FULL);
        Bounds.is(room.ask(1, 0, 0), 0);
        Bounds.is(room.ask(1, 2, 8), 28);
    }

    // ---- promise 20

    private static void answerAskers() {
        for (int askers = 1; askers <= 6; askers++) {
            for (int all = 0; all < 2; all++) {
                Room room = new Room().open();
                room.add(0, 0, 0, "x");
                for (int bidder = 0; bidder < askers; bidder++) {
                    room.ask(5 - bidder, 0, 0);
                    room.ask(5 - bidder, 0, bidder % 2);
                }
                Bounds.is(room.answer(0, 5, all == 1), askers);
            }
        }
        Room full = new Room();
        Scenes.fullOfQuestions(full);
        full.withdraw(2);
        for (int question = 0; question < 30; question++) {
            Bounds.is(full.answer(question, question, question % 2 == 0), 1);
        }
    }

    private static void answerBadQuestion() {
        Bounds.badOutside(Scenes::busy, 0, 2, (r, question) -> r.answer(question, 5, true));
        Bounds.badOutside(Scenes::fullOfQuestions, 0, 29, (r, question) -> r.answer(question, 5, false));
        Bounds.changesNothing(Scenes::fresh, r -> r.answer(0, 0, true), BAD);
    }

    private static void answerBadNumber() {
        for (int question = 0; question < 3; question++) {
            int number = question;
            Bounds.badOutside(Scenes::busy, 0, 999, (r, v) -> r.answer(number, v, true));
            Bounds.badOutside(Scenes::busy, 0, 999, (r, v) -> r.answer(number, v, false));
        }
        Room room = new Room();
        Scenes.busy(room);
        Bounds.is(room.answer(1, 0, false), 1);
        Bounds.is(room.answer(2, 999, false), 1);
        Bounds.is(room.hear(0, 1), 0);
        Bounds.is(room.hear(1, 2), 999);
    }

    private static void answerTwice() {
        for (int v : new int[] {0, 77, 999}) {
            Bounds.changesNothing(Scenes::busy, r -> r.answer(0, v, false), STATE);
            Bounds.changesNothing(Scenes::busy, r -> r.answer(0, v, true), STATE);
        }
        // an answer 0 is an answer, too
        Bounds.changesNothing(r -> {
            Scenes.busy(r);
            r.answer(1, 0, false);
        }, r -> r.answer(1, 1, true), STATE);
        Bounds.changesNothing(r -> {
            Scenes.busy(r);
            r.answer(1, 0, true);
        }, r -> r.answer(1, 1, false), STATE);
    }

    // ---- promise 21

    private static void hearAnswer() {
        Room room = new Room();
        Scenes.fullOfQuestions(room);
        for (int question = 0; question < 30; question++) {
            room.answer(question, 900 + question, question % 2 == 0);
        }
        for (int question = 0; question < 30; question++) {
            for (int bidder = 0; bidder < 6; bidder++) {
                boolean told = question % 2 == 0 || room.question(question, 2) == 1 << bidder;
                Bounds.is(room.hear(bidder, question), told ? 900 + question : NO);
            }
        }
    }

    private static void hearBad() {
        Bounds.badOutside(Scenes::busy, 0, 5, (r, bidder) -> r.hear(bidder, 0));
        Bounds.badOutside(Scenes::busy, 0, 5, (r, bidder) -> r.hear(bidder, 1));
        Bounds.badOutside(Scenes::busy, 0, 2, (r, question) -> r.hear(0, question));
        Bounds.badOutside(Scenes::fullOfQuestions, 0, 29, (r, question) -> r.hear(0, question));
        Bounds.changesNothing(Scenes::fresh, r -> r.hear(0, 0), BAD);
    }

    private static void hearNo() {
        Bounds.changesNothing(Scenes::busy, r -> r.hear(2, 0), NO);
        Bounds.changesNothing(Scenes::busy, r -> r.hear(5, 2), NO);
        Bounds.changesNothing(PaperRoomBoundsAsked::closed, r -> r.hear(0, 0), NO);
        Bounds.changesNothing(PaperRoomBoundsAsked::closed, r -> r.hear(3, 0), NO);
        Bounds.changesNothing(PaperRoomBoundsAsked::closed, r -> r.hear(0, 1), NO);
        Bounds.changesNothing(PaperRoomBoundsAsked::closed, r -> r.hear(4, 1), NO);
        Bounds.changesNothing(PaperRoomBoundsAsked::closed, r -> r.hear(1, 2), STATE);
    }

    /** Busy, but group 0 may not see paper 0 any more, and paper 2 is withdrawn. */
    private static void closed(Room room) {
        Scenes.busy(room);
        room.rights(0, 0, 0, 3);
        room.withdraw(2);
    }

    private static void hearNotForIt() {
        Bounds.changesNothing(Scenes::busy, r -> r.hear(1, 0), NO);
        Bounds.changesNothing(Scenes::busy, r -> r.hear(4, 0), NO);
        Bounds.changesNothing(Scenes::busy, r -> r.hear(0, 0), 77);
        Bounds.changesNothing(Scenes::busy, r -> r.hear(3, 0), 77);
        Room room = new Room();
        Scenes.busy(room);
        Bounds.is(room.hear(4, 0), NO);
        room.ask(4, 0, 3);
        Bounds.is(room.hear(4, 0), 77);
    }

    private static void hearNoneYet() {
        for (int bidder = 0; bidder < 6; bidder++) {
            int listener = bidder;
            Bounds.changesNothing(Scenes::busy, r -> r.hear(listener, 1), STATE);
            // group 2 may not see paper 0 in this scene
            Bounds.changesNothing(Scenes::busy, r -> r.hear(listener, 2), listener % 3 == 2 ? NO : STATE);
        }
        Room room = new Room();
        Scenes.busy(room);
        room.answer(1, 0, true);
        Bounds.is(room.hear(5, 1), 0);
        Bounds.is(room.hear(0, 1), 0);
    }

    // ---- promise 22

    private static void questionPaper() {
        Room room = new Room();
        Scenes.fullOfQuestions(room);
        for (int question = 0; question < 30; question++) {
            Bounds.is(room.question(question, 0), question / 10);
        }
        Room last = new Room().open();
        for (int paper = 0; paper < 8; paper++) {
            last.add(0, 0, 0, "x");
        }
        last.ask(0, 7, 0);
        Bounds.is(last.question(0, 0), 7);
    }

    private static void questionTopic() {
        Room room = new Room();
        Scenes.fullOfQuestions(room);
        for (int question = 0; question < 30; question++) {
            Bounds.is(room.question(question, 1), question % 10);
        }
    }

    private static void questionAskers() {
        for (int askers = 1; askers < 64; askers++) {
            Room room = new Room().open();
            room.add(0, 0, 0, "x");
            for (int bidder = 0; bidder < 6; bidder++) {
                if ((askers >> bidder & 1) == 1) {
                    Bounds.is(room.ask(bidder, 0, 9), 0);
                }
            }
            Bounds.is(room.question(0, 2), askers);
            room.answer(0, 1, true);
            Bounds.is(room.question(0, 2), askers);
        }
    }

    private static void questionAnswered() {
        Room room = new Room();
        Scenes.fullOfQuestions(room);
        for (int question = 0; question < 30; question++) {
            Bounds.is(room.question(question, 3), 0);
            if (question % 3 > 0) {
                room.answer(question, 0, question % 3 == 2);
            }
        }
        for (int question = 0; question < 30; question++) {
            Bounds.is(room.question(question, 3), question % 3);
        }
    }

    private static void questionBad() {
        for (int what = 0; what < 4; what++) {
            int number = what;
            Bounds.badOutside(Scenes::busy, 0, 2, (r, question) -> r.question(question, number));
            Bounds.badOutside(Scenes::fullOfQuestions, 0, 29, (r, question) -> r.question(question, number));
            Bounds.changesNothing(Scenes::fresh, r -> r.question(0, number), BAD);
        }
        Bounds.badOutside(Scenes::busy, 0, 3, (r, what) -> r.question(0, what));
        Bounds.badOutside(Scenes::busy, 0, 3, (r, what) -> r.question(2, what));
        Bounds.badOutside(Scenes::busy, 0, 3, (r, what) -> r.question(3, what));
    }

    private static void questionKeepsAll() {
        int[][] told = {{0, 3, 9, 1}, {2, 4, 1, 0}, {0, 5, 2, 0}};
        for (int i = 0; i < 12; i++) {
            int question = i / 4, what = i % 4;
            Bounds.changesNothing(Scenes::busy, r -> r.question(question, what), told[question][what]);
        }
    }

    // ---- promise 23

    private static void countPapers() {
        Room room = new Room();
        for (int paper = 0; paper < 8; paper++) {
            Bounds.is(room.count(0), paper);
            room.add(paper % 3, 0, 0, "x");
            room.revise(paper, "y");
        }
        Bounds.is(room.count(0), 8);
        room.add(0, 0, 0, "x");
        room.withdraw(0);
        Bounds.is(room.count(0), 8);
    }

    private static void countNow() {
        Room room = new Room();
        Bounds.is(room.count(1), 0);
        room.tick(1);
        Bounds.is(room.count(1), 1);
        room.tick(1001);
        room.tick(0);
        Bounds.is(room.count(1), 1);
        room.tick(1000);
        Bounds.is(room.count(1), 1001);
    }

    private static void countDraft() {
        Room room = new Room();
        for (int bytes = 0; bytes < 40; bytes++) {
            Bounds.is(room.count(2), bytes);
            room.type('a', 1);
        }
        Bounds.is(room.count(2), 40);
        room.type('a', 1);
        Bounds.is(room.count(2), 40);
        room.clear();
        Bounds.is(room.count(2), 0);
    }

    private static void countEntries() {
        Room room = new Room();
        Scenes.fullOfEntries(room);
        Bounds.is(room.count(3), 200);
        room.readTimes(10, 0, 0, 0);
        Bounds.is(room.count(3), 200);
        Room few = new Room();
        Scenes.busy(few);
        Bounds.is(few.count(3), 3);
        few.read(2, 0, 0);
        few.read(0, 9, 0);
        Bounds.is(few.count(3), 3);
        few.read(0, 0, 0);
        Bounds.is(few.count(3), 4);
    }

    private static void countLost() {
        Room room = new Room().open();
        room.add(0, 0, 0, "x");
        room.readTimes(199, 0, 0, 0);
        Bounds.is(room.count(4), 0);
        room.read(0, 0, 0);
        Bounds.is(room.count(4), 0);
        room.read(0, 0, 0);
        Bounds.is(room.count(4), 1);
        room.read(6, 0, 0);
        room.read(0, 0, 1);
        Bounds.is(room.count(4), 1);
        room.readTimes(250, 5, 0, 0);
        Bounds.is(room.count(4), 251);
        room.withdraw(0);
        Bounds.is(room.read(0, 0, 0), NO);
        Bounds.is(room.count(4), 251);
    }

    private static void countQuestions() {
        Room room = new Room();
        Scenes.nearlyFullOfQuestions(room);
        Bounds.is(room.count(5), 29);
        room.ask(0, 0, 0);
        Bounds.is(room.count(5), 29);
        room.ask(0, 3, 3);
        Bounds.is(room.count(5), 30);
        room.ask(1, 3, 4);
        Bounds.is(room.count(5), 30);
        room.answer(0, 1, true);
        room.withdraw(0);
        Bounds.is(room.count(5), 30);
    }

    private static void countBad() {
        Bounds.badOutside(Scenes::busy, 0, 5, Room::count);
        Bounds.badOutside(Scenes::fresh, 0, 5, Room::count);
        for (int what = 0; what < 6; what++) {
            int number = what;
            Bounds.changesNothing(Scenes::busy, r -> r.count(number), new int[] {4, 3, 5, 3, 0, 3}[what]);
        }
    }

    // ---- promise 24

    private static void traceOfMay() {
        Room room = new Room();
        Scenes.busy(room);
        Bounds.is(room.trace(), 1);
        room.may(5, 1);
        Bounds.is(room.trace(), 12);
        room.may(5, 2);
        Bounds.is(room.trace(), 113);
        room.may(5, 3);
        Bounds.is(room.trace(), 114);
        room.may(2, 0);
        Bounds.is(room.trace(), 115);
        for (int i = 0; i < 400; i++) {
            room.may(i % 6, 2);
        }
        Bounds.is(room.trace(), 115 + 400 * 101);
    }

    private static void traceOfOthers() {
        Room room = new Room();
        Scenes.busy(room);
        for (int bidder = 0; bidder < 6; bidder++) {
            for (int paper = 0; paper < 4; paper++) {
                room.read(bidder, paper, 0);
                room.ask(bidder, paper, 0);
                room.times(bidder, paper, 0);
            }
            room.search(bidder);
            room.hear(bidder, 0);
            room.hear(bidder, 1);
            room.at(bidder, 0);
        }
        room.named(2, 0);
        room.answer(1, 5, true);
        room.version(0);
        room.withdraw(0);
        room.tick(1000);
        room.about(1, 0);
        Bounds.is(room.trace(), 1);
        room.may(6, 0);
        room.may(0, 4);
        room.may(-1, -1);
        Bounds.is(room.trace(), 1);
    }

    private static void traceKeepsAll() {
        Room room = new Room();
        Scenes.busy(room);
        Bounds.is(room.trace(), 1);
        Bounds.is(room.trace(), 1);
        Bounds.is(room.count(2), 5);
        Bounds.is(room.count(3), 3);
        Bounds.is(room.count(1), 3);
    }
}

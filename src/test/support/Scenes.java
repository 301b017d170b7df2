/** Rooms in which a test begins. Each leaves calls enough for what is asked later. */
final class Scenes {
    static final String FORTY = "abcdefghijklmnopqrstuvwxyzABCDEFGHIJKLMN";

    private Scenes() { }

    static void fresh(Room room) { }

    /**
     * In the midst of things, so that a call that changes anything is found out. NOW is 3. Papers: 0 a
     * PAPER of two versions that group 2 may see from 4 on, 1 HELD until 5, 2 MARKED of two versions,
     * 3 withdrawn. Questions: 0 answered for its askers 0 and 3, 1 of paper 2, 2 of paper 0; bidder 0
     * has asked twice in this tick. The draft is "draft"; three views were read.
     */
    static void busy(Room room) {
        room.open();
        room.add(0, 0, 0, "plain # text");
        room.add(1, 1, 5, "held back");
        room.add(2, 2, 0, "a b c d");
        room.add(0, 3, 0, "gone");
        room.revise(0, "plain again");
        room.revise(2, "e f");
        room.blacken(0, 0, 2, 4);
        room.blacken(2, 0, 3, 4);
        room.withdraw(3);
        room.tick(3);
        room.rights(2, 0, 4, 9);
        room.read(0, 0, 0);
        room.read(1, 2, 0);
        room.read(5, 2, 1);
        room.ask(0, 0, 3);
        room.ask(0, 2, 4);
        room.ask(3, 0, 3);
        room.ask(1, 0, 5);
        room.answer(0, 77, false);
        room.may(0, 0);
        room.write("draft");
    }

    static void busyWithoutDraft(Room room) {
        busy(room);
        room.clear();
    }

    /** Eight papers, 4 to 7 of one byte, and a draft that would be the ninth. */
    static void fullOfPapers(Room room) {
        busy(room);
        for (int paper = 4; paper < 8; paper++) {
            room.add(paper % 3, paper % 4, 1, "n");
        }
        room.write("ninth");
    }

    /** Papers 0, 1 and 2 have four versions each, and there is a draft that would be the fifth. */
    static void fullOfVersions(Room room) {
        busy(room);
        for (int paper = 0; paper < 3; paper++) {
            for (int version = room.about(paper, 2); version < 4; version++) {
                room.revise(paper, "v");
            }
        }
        room.write("fifth");
    }

    /** 200 entries, the last ones of bidder 1; papers 0 and 1 may be read, 2 is withdrawn. */
    static void fullOfEntries(Room room) {
        room.open();
        room.add(0, 0, 0, "one");
        room.add(2, 1, 0, "t w o");
        room.add(0, 0, 0, "gone");
        room.withdraw(2);
        room.readTimes(150, 0, 0, 0);
        room.tick(2);
        room.readTimes(50, 1, 1, 0);
        room.write("o");
    }

    /** Question q is of paper q / 10 and topic q modulo 10; paper 3 has none. Nobody asked in this tick. */
    static void fullOfQuestions(Room room) {
        nearlyFullOfQuestions(room);
        room.ask(0, 2, 9);
        room.tick(1);
    }

    /** The same but for the last of them. */
    static void nearlyFullOfQuestions(Room room) {
        room.open();
        for (int paper = 0; paper < 4; paper++) {
            room.add(paper % 3, paper, 0, "p p");
            room.read(paper, paper, 0);
        }
        for (int question = 0; question < 29; question++) {
            room.ask(question % 6, question / 10, question % 10);
            if (question % 12 == 11) {
                room.tick(1);
            }
        }
        room.tick(1);
        room.write("p");
    }

    /** A draft of so many bytes, in a room where there is something to change. */
    static void draftOf(Room room, int bytes) {
        busy(room);
        room.rewrite(FORTY.substring(0, bytes));
    }
}

import java.util.ArrayList;
import java.util.List;
import java.util.function.LongConsumer;

/** What may be asked of a room or done with it later, to show whether an earlier call changed it. */
interface Later {
    /** Each on a room of its own, so that none hides what another would show. */
    List<Later> ALL = List.of(Later::counted, Later::papers, Later::questions, Later::viewed, Later::logged,
            Later::timed, Later::allowed, Later::texts, Later::draft, Later::searched, Later::namedBy,
            Later::typed, Later::asked, Later::answered, Later::revised);

    int BIDDERS = 6, GROUPS = 3, FOLDERS = 4;

    /** Each answer goes to the sink. */
    void on(Room room, LongConsumer sink);

    /** The twin's answers, and how far the other room has come with them. */
    final class Answers {
        private final List<Long> kept = new ArrayList<>();
        private int next = 0;
        private boolean differed = false;

        void keep(long answer) {
            kept.add(answer);
        }

        /** Only the first difference is told: those behind it follow from it. */
        void hold(long answer, LongConsumer tellTwins) {
            long want = next < kept.size() ? kept.get(next) : Long.MIN_VALUE;
            next++;
            if (answer != want && !differed) {
                differed = true;
                tellTwins.accept(want);
            }
        }
    }

    private static void counted(Room room, LongConsumer sink) {
        for (int what = 0; what < 6; what++) {
            sink.accept(room.count(what));
        }
        sink.accept(room.trace());
    }

    private static void papers(Room room, LongConsumer sink) {
        for (int paper = 0; paper < 9; paper++) {
            for (int what = 0; what < 5; what++) {
                sink.accept(room.about(paper, what));
            }
        }
    }

    private static void questions(Room room, LongConsumer sink) {
        for (int question = 0; question < 31; question++) {
            for (int what = 0; what < 4; what++) {
                sink.accept(room.question(question, what));
            }
        }
    }

    private static void viewed(Room room, LongConsumer sink) {
        for (int bidder = 0; bidder < BIDDERS; bidder++) {
            view(room, bidder, sink);
        }
    }

    private static void view(Room room, int bidder, LongConsumer sink) {
        for (int i = 0; i < 70 && room.left() > 0; i++) {
            int b = room.at(bidder, i);
            sink.accept(b);
            if (b < 0) {
                break;
            }
        }
    }

    private static void logged(Room room, LongConsumer sink) {
        int entries = room.count(3);
        for (int i : new int[] {0, 1, 2, entries - 2, entries - 1, entries}) {
            for (int what = 0; what < 4; what++) {
                sink.accept(room.log(i, what));
            }
            sink.accept(room.chain(i));
        }
    }

    private static void timed(Room room, LongConsumer sink) {
        for (int bidder = 0; bidder < BIDDERS; bidder++) {
            for (int paper = 0; paper < 8; paper++) {
                for (int version = 0; version < 4 && room.left() > 0; version++) {
                    sink.accept(room.times(bidder, paper, version));
                }
            }
        }
    }

    private static void allowed(Room room, LongConsumer sink) {
        for (int step = 0; step < 5 && room.left() > 60; step++) {
            for (int bidder = 0; bidder < BIDDERS; bidder++) {
                for (int paper = 0; paper < 8; paper++) {
                    sink.accept(room.may(bidder, paper));
                }
            }
            sink.accept(room.trace());
            sink.accept(room.tick(step < 3 ? 1 : 900));
        }
    }

    private static void letIn(Room room) {
        for (int folder = 0; folder < FOLDERS; folder++) {
            room.rights(0, folder, 0, Room.LAST_RIGHTS);
        }
        room.tick(1000);
    }

    private static void texts(Room room, LongConsumer sink) {
        letIn(room);
        for (int paper = 0; paper < 8; paper++) {
            for (int version = 0; version < 4 && room.left() > 0; version++) {
                sink.accept(room.read(3, paper, version));
                view(room, 3, sink);
            }
        }
        for (int paper = 0; paper < 8; paper++) {
            for (int version = 0; version < 4 && room.left() > 0; version++) {
                sink.accept(room.blacken(paper, version, 0, 1));
            }
        }
    }

    /** The draft's bytes are seen once they are a paper, or a version where no paper has a place. */
    private static void draft(Room room, LongConsumer sink) {
        letIn(room);
        sink.accept(room.count(2));
        int paper = room.paper(0, 0, 0);
        sink.accept(paper);
        if (paper >= 0) {
            sink.accept(room.read(0, paper, 0));
            view(room, 0, sink);
            return;
        }
        for (int number = 0; number < 8; number++) {
            int version = room.version(number);
            sink.accept(version);
            if (version >= 0) {
                sink.accept(room.read(0, number, version));
                view(room, 0, sink);
                return;
            }
        }
    }

    private static void searched(Room room, LongConsumer sink) {
        for (int bidder = 0; bidder < BIDDERS; bidder++) {
            sink.accept(room.search(bidder));
        }
    }

    private static void namedBy(Room room, LongConsumer sink) {
        for (int paper = 0; paper < 8; paper++) {
            for (int version = 0; version < 4; version++) {
                sink.accept(room.named(paper, version));
            }
        }
    }

    private static void typed(Room room, LongConsumer sink) {
        for (int i = 0; i < 6; i++) {
            sink.accept(room.type(0x6162636465666768L, 8));
        }
        sink.accept(room.type(0x7a, 1));
        sink.accept(room.clear());
    }

    private static void asked(Room room, LongConsumer sink) {
        for (int step = 0; step < 3 && room.left() > 60; step++) {
            for (int bidder = 0; bidder < BIDDERS; bidder++) {
                for (int topic = 0; topic < 4; topic++) {
                    sink.accept(room.ask(bidder, (bidder + step + topic) % 4, topic + step));
                }
            }
            sink.accept(room.count(5));
            sink.accept(room.tick(1));
        }
        for (int question = 0; question < 30 && room.left() > 0; question++) {
            sink.accept(room.question(question, 2));
        }
    }

    private static void answered(Room room, LongConsumer sink) {
        for (int question = 0; question < 30 && room.left() > 20; question++) {
            for (int bidder = 0; bidder < BIDDERS; bidder++) {
                sink.accept(room.hear(bidder, question));
            }
            sink.accept(room.answer(question, 500 + question, question % 2 == 0));
            for (int bidder = 0; bidder < GROUPS; bidder++) {
                sink.accept(room.hear(bidder, question));
            }
        }
    }

    private static void revised(Room room, LongConsumer sink) {
        for (int paper = 0; paper < 8; paper++) {
            for (int i = 0; i < 4; i++) {
                room.clear();
                room.type(0x7a7a, 2);
                sink.accept(room.version(paper));
            }
            sink.accept(room.withdraw(paper));
        }
        room.type(0x7a, 1);
        sink.accept(room.paper(1, 3, 2));
    }
}

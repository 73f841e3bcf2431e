/** The paragraphs "Details", "Undo" and "Exceptions" of "Terms" and promises 49 to 52, sentence by sentence. */
final class UndoSentences {
    private static final Check.Call[] CHANGES = {x -> x.addRoot(4), x -> x.dry(2), x -> x.carve(1, 9),
        x -> x.damage(0, 0, '8'), x -> x.recarve(0), x -> x.move(0, 2), x -> x.drop(0), x -> x.age(3), TurnipPages::execute};
    private static final String[] NAMES = {"addRoot", "dry", "carve", "damage", "recarve", "move", "drop", "age", "execute"};
    /** Each fails in Needs.telegrams(), and has a different reason of its method. */
    private static final Check.Call[] FAILING = {x -> x.addRoot(-1), x -> x.addRoot(6), x -> x.dry(3), x -> x.carve(3, 0),
        x -> x.carve(0, 10), x -> x.damage(1, 0, 'a'), x -> x.damage(0, 7, 'a'), x -> x.damage(0, 0, (char) 31),
        x -> x.damage(0, 0, '4'), x -> x.recarve(1), x -> x.move(1, 0), x -> x.move(0, 3), x -> x.move(0, 0), x -> x.drop(1),
        x -> x.age(0), x -> x.age(21)};
    /** What changes nothing that undo or a snapshot brings back. */
    private static final Check.Call[] OTHERS = {x -> x.type('t'), TurnipPages::clearMessage, TurnipPages::encodedLength,
        TurnipPages::encodedLengthByRuns, TurnipPages::encode, TurnipPages::decode, TurnipPages::messageChecksum,
        TurnipPages::rootCount, x -> x.dampness(0), x -> x.pagesIn(0), TurnipPages::dampestRoot, x -> x.read(0),
        TurnipPages::telegramCount, x -> x.telegramAt(0), x -> x.telegramByPriority(0), x -> x.telegramByRot(0),
        x -> x.rootOf(0), x -> x.checksumOf(0), x -> x.codeLength(0), x -> x.codeCharacter(0, 0), x -> x.decodedLength(0),
        x -> x.decodedLengthByUnits(0), x -> x.isReadable(0), x -> x.pageCount(0), x -> x.rotOf(0, 0),
        x -> x.daysUntilRotten(0), TurnipPages::rottenPages, TurnipPages::day, TurnipPages::carvedCharacters,
        TurnipPages::meanCodeLength, TurnipPages::rottenShare, x -> x.feed('f'), TurnipPages::faultPosition,
        x -> x.writeTelegram(0), x -> x.lineCharacter(0), TurnipPages::denial, TurnipPages::denialDetail,
        TurnipPages::undoCount, TurnipPages::saveSnapshot};

    private UndoSentences() {
    }

    static void check() {
        details();
        changes();
        eight();
        unaffected();
        nextNumber();
        unchangedByExceptions();
        firstException();
        promise49();
        promise50();
        promise51();
        promise52();
    }

    private static void details() {
        Doc.section("Details");
        Doc.says("Rotten pages can be damaged, too.");
        TurnipPages x = Make.damaged("abc", 4);
        Check.equal("rotten", x.rotOf(0, 0), 20);
        Check.equal("damaged", x.damage(0, 1, '1') + " " + x.codeCharacter(0, 1) + " " + x.rotOf(0, 0), "b 1 20");
        Doc.says("The methods decode and execute keep one and the same fault position.");
        x.type('\\');
        Check.answer(x, TurnipPages::decode);
        Check.equal("of decode", x.faultPosition(), 1);
        Make.execute(x, "dry 9,");
        Check.equal("of execute in its place", x.faultPosition(), 5);
        Check.answer(x, TurnipPages::decode);
        Check.equal("of decode in its place", x.faultPosition(), 1);
        Doc.says("A message that was carved does not come back by undo.");
        TurnipPages carved = Make.ready();
        carved.carve(0, 0);
        carved.undo();
        Check.equal("empty", carved.clearMessage(), 0);
        carved = Make.ready();
        carved.saveSnapshot();
        carved.carve(0, 0);
        carved.type('q');
        carved.undo();
        Check.equal("what was typed behind it stays", carved.messageChecksum(), 'q' - 97);
        carved.restoreSnapshot();
        Check.equal("nor by a snapshot", carved.clearMessage(), 1);
    }

    private static void changes() {
        Doc.section("Undo");
        Doc.says("The calls of addRoot, dry, carve, damage, recarve, move, drop, age and execute that do not throw an exception are"
                + " the changes.");
        int before = Needs.telegrams().undoCount();
        Check.equal("before", before, 7);
        for (int i = 0; i < CHANGES.length; i++) {
            TurnipPages x = Needs.telegrams();
            CHANGES[i].on(x);
            Check.equal(NAMES[i], x.undoCount(), 8);
        }
        for (int i = 0; i < FAILING.length; i++) {
            TurnipPages x = Needs.telegrams();
            Check.answer(x, FAILING[i]);
            Check.equal("failing " + i, x.undoCount(), before);
        }
        for (int i = 0; i < OTHERS.length; i++) {
            TurnipPages x = Needs.telegrams();
            Object answer = Check.answer(x, OTHERS[i]);
            Check.equal("other " + i + " goes well", answer.toString().startsWith("throws"), false);
            Check.equal("other " + i, x.undoCount(), before);
        }
        TurnipPages many = new TurnipPages();
        Make.execute(many, "root 1;root 2;root 3;age 1");
        Check.equal("execute is one", many.undoCount() + " " + many.undo() + " " + many.rootCount(), "1 0 0");
        Make.execute(many, "root 1;root 6");
        Check.equal("not if it throws", many.undoCount(), 0);
    }

    private static void eight() {
        Doc.says("The latest 8 changes can be undone; older ones are forgotten.");
        for (int made : new int[] {0, 1, 7, 8, 9, 16, 17, 18, 30}) {
            TurnipPages x = new TurnipPages();
            for (int i = 0; i < made; i++) {
                x.age(1);
            }
            int most = Math.min(made, 8);
            for (int left = most - 1; left >= 0; left--) {
                Check.equal(made + " changes", x.undo() + " " + x.day(), left + " " + (made - most + left));
            }
            Check.equal("behind " + most + " of " + made, Check.answer(x, TurnipPages::undo), Check.BAD_STATE);
            Check.equal("the day stays", x.day(), made - most);
        }
    }

    /** The message, the buffer, the fault position, the line and the denial. */
    private static String besides(TurnipPages x) {
        String line = Look.line(x);
        String length = x.encodedLength() + " " + x.messageChecksum();
        return line + "|" + length + "|" + Look.fault(x) + "|" + Look.latestDenial(x) + "|" + x.feed('z');
    }

    private static void unaffected() {
        Doc.says("The message, the command buffer, the fault position, the output line and the latest denial are affected neither"
                + " by undo nor by snapshots.");
        String before = besides(Needs.telegrams());
        for (int i = 0; i < CHANGES.length - 1; i++) {
            TurnipPages x = Needs.telegrams();
            CHANGES[i].on(x);
            x.undo();
            String due = NAMES[i].equals("carve") ? before.replace("|2 " + Make.sum("xy") + "|", "|0 0|") : before;
            Check.equal("undo of " + NAMES[i], besides(x), due);
        }
        TurnipPages saved = Needs.telegrams();
        saved.saveSnapshot();
        Check.equal("saveSnapshot", besides(saved), before);
        TurnipPages restored = Needs.telegrams();
        restored.restoreSnapshot();
        Check.equal("restoreSnapshot", besides(restored), before);
        TurnipPages x = Make.roots(1);
        x.saveSnapshot();
        x.age(1);
        Make.execute(x, "dry 0;dry 0");
        Make.execute(x, "age;");
        Make.type(x, "later");
        x.encode();
        x.undo();
        Check.equal("what came after the change stays", besides(x), "later|5 " + Make.sum("later") + "|3|7 1 4|1");
        x.restoreSnapshot();
        Check.equal("what came after the snapshot stays", besides(x), "later|5 " + Make.sum("later") + "|3|7 1 4|2");
    }

    private static void nextNumber() {
        Doc.says("The number of the next telegram is undone and restored, too.");
        TurnipPages x = Make.roots(1);
        Check.equal("0", Make.carve(x, 0, 0, "a"), 0);
        x.undo();
        Check.equal("0 again", Make.carve(x, 0, 0, "b"), 0);
        x.saveSnapshot();
        Check.equal("1", Make.carve(x, 0, 0, "c"), 1);
        Check.equal("2", Make.carve(x, 0, 0, "d"), 2);
        x.drop(2);
        x.undo();
        Check.equal("the undo of a drop gives no number back", Make.carve(x, 0, 0, "e"), 3);
        x.restoreSnapshot();
        Check.equal("1 again", Make.carve(x, 0, 0, "f"), 1);
        Check.equal("its code", Look.code(x, 1), "f");
        x.drop(1);
        x.undo();
        x.undo();
        Check.equal("1 once more", Make.carve(x, 0, 0, "g"), 1);
    }

    private static void unchangedByExceptions() {
        Doc.section("Exceptions");
        Doc.says("A method that throws an exception does not change the state, unless its documentation says otherwise.");
        String before = Look.at(Needs.telegrams());
        for (int i = 0; i < FAILING.length; i++) {
            TurnipPages x = Needs.telegrams();
            Check.equal("failing " + i, Check.answer(x, FAILING[i]).toString().startsWith("throws"), true);
            Check.equal("after failing " + i, Look.at(x), before);
        }
        TurnipPages decoding = Make.message(Make.used(), "2");
        TurnipPages twin = Make.message(Make.used(), "2");
        Check.equal("decode", Check.answer(decoding, TurnipPages::decode), Check.BAD_ARGUMENT);
        Check.equal("decode keeps its fault position", decoding.faultPosition(), 2);
        Check.equal("decode changes nothing else", Look.at(decoding), Look.at(twin));
        Check.commandFault(Make::usedWithoutCommands, "dry 0;dry", 9);
        Check.commandDenied("execute", Make::usedWithoutCommands, "dry 0;dry 1", 1, 4);
    }

    private static void firstException() {
        Doc.says("If the conditions of several exceptions hold, the one that is documented first is thrown.");
        Check.badArgument("type", () -> Make.message(Make.fresh(), "m".repeat(40)), x -> x.type((char) 31));
        Check.badArgument("addRoot", () -> Make.roots(1, 1, 1, 1), x -> x.addRoot(6));
        Check.noIndex("carve: root and priority", Make::used, x -> x.carve(3, 10));
        Check.noIndex("carve: root and no message", () -> Make.roots(1), x -> x.carve(1, 0));
        Check.noIndex("carve: all", () -> Make.roots(1), x -> x.carve(-1, -1));
        Check.badArgument("carve: priority and no message", () -> Make.filled(1), x -> x.carve(0, -1));
        Check.badArgument("carve: priority and no room", () -> Make.message(Make.filled(8), "a"), x -> x.carve(0, 10));
        Check.noElement("damage: all", Make::used, x -> x.damage(1, -1, (char) 127));
        Check.noElement("damage: telegram and character", Make::used, x -> x.damage(1, 0, (char) 127));
        Check.noElement("damage: telegram and index", Make::used, x -> x.damage(-1, 7, 'a'));
        Check.noIndex("damage: index and character", Make::used, x -> x.damage(0, 7, (char) 127));
        Check.noElement("move: both", Make::used, x -> x.move(1, 3));
        Check.noElement("move: telegram and root, no roots", Make::fresh, x -> x.move(0, 0));
        Check.noElement("codeCharacter", Make::used, x -> x.codeCharacter(1, -1));
        Check.noElement("rotOf", Make::used, x -> x.rotOf(1, -1));
        Check.commandFault(Make::usedWithoutCommands, "dry 9;dry", 9);
        Check.commandFault(Make::usedWithoutCommands, "age 0 ", 5);
    }

    private static void promise49() {
        Doc.section("Promise 49: undo");
        Doc.says("Undoes the latest change that can be undone.");
        for (int i = 0; i < CHANGES.length; i++) {
            TurnipPages tried = Needs.telegrams();
            TurnipPages twin = Needs.telegrams();
            if (NAMES[i].equals("carve")) {
                twin.clearMessage();
            }
            if (NAMES[i].equals("execute")) {
                Make.execute(twin, "x");
            }
            CHANGES[i].on(tried);
            tried.undo();
            Check.equal(NAMES[i], Look.at(tried), Look.at(twin));
        }
        Doc.says("Returns the number of changes that can be undone afterwards.");
        Check.answers("1 to 0", () -> Make.roots(1), 0, TurnipPages::undo);
        Check.answers("2 to 1", () -> Make.roots(1, 1), 1, TurnipPages::undo);
        Check.answers("8 to 7", () -> Make.days(8), 7, TurnipPages::undo);
        Check.answers("9 to 7", () -> Make.days(9), 7, TurnipPages::undo);
        Doc.says("Throws `IllegalStateException` if there is none");
        Check.badState("new", Make::fresh, TurnipPages::undo);
        Check.badState("all undone", () -> Make.undoneAll(Make.days(3)), TurnipPages::undo);
        Check.badState("eight of nine undone", () -> Make.undoneAll(Make.days(9)), TurnipPages::undo);
        Check.badState("restored", UndoSentences::restored, TurnipPages::undo);
        Check.answers("one", () -> Make.days(1), 0, TurnipPages::undo);
    }

    private static TurnipPages restored() {
        TurnipPages x = Needs.telegrams();
        x.restoreSnapshot();
        return x;
    }

    private static void promise50() {
        Doc.section("Promise 50: undoCount");
        Doc.says("Returns the number of changes that can be undone.");
        Check.answers("none", Make::fresh, 0, TurnipPages::undoCount);
        Check.answers("restored", UndoSentences::restored, 0, TurnipPages::undoCount);
        Doc.says("Returns the number of changes.");
        for (int days : new int[] {1, 7, 8}) {
            Check.answers(days + " changes", () -> Make.days(days), days, TurnipPages::undoCount);
        }
        Check.answers("9 changes", () -> Make.days(9), 8, TurnipPages::undoCount);
        Check.answers("17 changes", () -> Make.days(17), 8, TurnipPages::undoCount);
        Check.answers("after undo", () -> Make.undone(Make.days(9), 3), 5, TurnipPages::undoCount);
        Check.answers("a change after undo", () -> Make.aged(Make.undone(Make.days(9), 3), 1), 6, TurnipPages::undoCount);
    }

    private static void promise51() {
        Doc.section("Promise 51: saveSnapshot");
        Doc.says("Saves a snapshot of everything that changes can change; it replaces an earlier snapshot.");
        for (int i = 0; i < CHANGES.length; i++) {
            TurnipPages x = Needs.telegrams();
            x.saveSnapshot();
            String before = Look.store(x);
            CHANGES[i].on(x);
            Check.equal(NAMES[i] + " changes something", Look.store(x).equals(before), false);
            x.restoreSnapshot();
            Check.equal(NAMES[i], Look.store(x), before);
        }
        TurnipPages days = Make.days(2);
        days.saveSnapshot();
        days.age(5);
        days.saveSnapshot();
        days.age(9);
        days.restoreSnapshot();
        Check.equal("the later one", days.day(), 7);
        Doc.says("Returns the number of telegrams.");
        Check.answers("0", Make::fresh, 0, TurnipPages::saveSnapshot);
        Check.answers("1", () -> Make.filled(1), 1, TurnipPages::saveSnapshot);
        Check.answers("one of two dropped", () -> Make.dropped(Make.filled(2), 0), 1, TurnipPages::saveSnapshot);
        Check.answers("8", () -> Make.filled(8), 8, TurnipPages::saveSnapshot);
    }

    private static void promise52() {
        Doc.section("Promise 52: restoreSnapshot");
        Doc.says("Restores the snapshot, which is kept.");
        TurnipPages x = Make.roots(1);
        x.saveSnapshot();
        for (int i = 0; i < 3; i++) {
            Make.execute(x, "dry 0;age 9;root 3");
            Make.carve(x, 1, 0, "c");
            Check.equal("again", x.restoreSnapshot() + " " + x.day() + " " + x.dampness(0) + " " + x.rootCount(), "0 0 1 1");
        }
        TurnipPages empty = new TurnipPages();
        empty.saveSnapshot();
        empty.addRoot(1);
        Check.equal("of nothing at all", empty.restoreSnapshot() + " " + empty.rootCount(), "0 0");
        Doc.says("No change can be undone afterwards.");
        for (int days : new int[] {0, 1, 8, 9}) {
            TurnipPages y = Make.days(days);
            y.saveSnapshot();
            y.restoreSnapshot();
            Check.equal(days + " changes", y.undoCount() + " " + Check.answer(y, TurnipPages::undo), "0 " + Check.BAD_STATE);
            Check.equal("the day of the snapshot", y.day(), days);
            y.age(1);
            Check.equal("a new one", y.undo() + " " + y.day(), "0 " + days);
        }
        Doc.says("Returns the number of telegrams afterwards.");
        Check.answers("three of the snapshot, two before", Needs::telegrams, 3, TurnipPages::restoreSnapshot);
        Doc.says("Throws `IllegalStateException` if there is no snapshot");
        Check.badState("new", Make::fresh, TurnipPages::restoreSnapshot);
        Check.badState("changes and undo make none", () -> Make.undone(Make.filled(2), 1), TurnipPages::restoreSnapshot);
    }
}

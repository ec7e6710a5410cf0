/** For each promise: ordinary inputs, the edges that the document names, and wrong inputs. */
public final class PromiseTest extends Checks {
    static void promise1() {
        Doc d = new Doc();
        due(d.length(), 0);
        due(d.lengthAgain(), 0);
        due(d.edits(), 0);
        due(d.clauses(), 0);
        due(d.signatures(), 0);
        due(d.isConsistent(), true);
        due(d.writeText(), 0);
        fails(d, INDEX, x -> x.bill(0));
        fails(d, INDEX, x -> x.charAt(0));
        fails(d, INDEX, x -> x.clauseLength(0));
        fails(d, INDEX, x -> x.state(0));
        fails(d, INDEX, x -> x.editKind(0));
        fails(d, NOTHING, x -> x.refusalReason());
        due(d.setFee(3), 0);
        due(d.setStrict(true), false);
        Doc other = with("x");
        due(d.length(), 0);
        due(other.setFee(0), 0);
    }

    static void promise2() {
        Doc d = new Doc();
        fails(d, ARGUMENT, x -> x.addAuthor(-1, 0));
        fails(d, ARGUMENT, x -> x.addAuthor(4, 0));
        fails(d, ARGUMENT, x -> x.addAuthor(0, -1));
        fails(d, ARGUMENT, x -> x.addAuthor(0, 1000));
        fails(d, ARGUMENT, x -> x.addAuthor(LEAST, GREATEST));
        fails(d, ARGUMENT, x -> x.addAuthor(GREATEST, LEAST));
        for (int i = 0; i < 4; i++) due(d.addAuthor(i, i * 333), i);
        due(d.addAuthor(3, 0), 4);
        fails(d, STATE, x -> x.addAuthor(0, 0));
        fails(d, ARGUMENT, x -> x.addAuthor(4, 0));
        fails(d, ARGUMENT, x -> x.addAuthor(0, 1000));
        due(d.bill(4), 0);
        fails(d, INDEX, x -> x.bill(5));
    }

    static void promise3() {
        Doc d = new Doc();
        d.addAuthor(0, 1);
        char[] bad = {'a' - 1, 'z' + 1, 'A', 'Z', '0', 31, 33, 0, '\t', '\n', 160, 228, 65535};
        for (char each : bad) fails(d, ARGUMENT, x -> x.type(each));
        due(d.type('a'), 1);
        due(d.type('z'), 2);
        due(d.type(' '), 3);
        for (int i = 4; i <= 20; i++) due(d.type((char) ('a' + i)), i);
        fails(d, STATE, x -> x.type('q'));
        fails(d, STATE, x -> x.type(' '));
        for (char each : bad) fails(d, ARGUMENT, x -> x.type(each));
        due(d.insert(0, 0), 20);
        due(plain(d), "az efghijklmnopqrstu");
        due(d.type('m'), 1);
        for (char each = 'a'; each <= 'z'; each++) {
            Doc other = new Doc();
            due(other.type(each), 1);
        }
    }

    static void promise4() {
        Doc d = new Doc();
        d.type('h');
        fails(d, INDEX, x -> x.insert(0, 0));
        d.addAuthor(0, 1);
        d.addAuthor(1, 7);
        d.type('i');
        fails(d, INDEX, x -> x.insert(2, 0));
        fails(d, INDEX, x -> x.insert(-1, 0));
        fails(d, INDEX, x -> x.insert(LEAST, 0));
        fails(d, INDEX, x -> x.insert(0, 1));
        fails(d, INDEX, x -> x.insert(0, -1));
        fails(d, INDEX, x -> x.insert(0, GREATEST));
        fails(d, INDEX, x -> x.insert(0, LEAST));
        due(d.insert(0, 0), 2);
        fails(d, ARGUMENT, x -> x.insert(0, 0));
        fails(d, INDEX, x -> x.insert(0, 3));
        due(put(d, 1, 2, "end"), 5);
        due(put(d, 1, 0, "so "), 8);
        due(put(d, 0, 4, "x"), 9);
        due(plain(d), "so hxiend");
        due(d.authorOf(0), 1);
        due(d.authorOf(3), 0);
        due(d.authorOf(4), 0);
        due(d.authorOf(8), 1);
    }

    static void promise4Limits() {
        Doc d = with("a".repeat(20));
        put(d, 0, 20, "b".repeat(20));
        put(d, 0, 40, "c".repeat(20));
        due(d.length(), 60);
        fails(d, ARGUMENT, x -> x.insert(0, 0));
        d.type('d');
        fails(d, STATE, x -> x.insert(0, 60));
        fails(d, INDEX, x -> x.insert(0, 61));
        d.delete(0, 59, 1);
        d.type('e');
        fails(d, STATE, x -> x.insert(0, 59));
        d.delete(0, 0, 1);
        due(d.insert(0, 58), 60);
        due(plain(d), "a".repeat(19) + "b".repeat(20) + "c".repeat(19) + "de");

        Doc full = withFortyEdits();
        fails(full, ARGUMENT, x -> x.insert(0, 0));
        full.type('x');
        fails(full, STATE, x -> x.insert(0, 0));
        fails(full, INDEX, x -> x.insert(1, 0));
        due(full.type('y'), 2);
    }

    static void promise4Clauses() {
        Doc d = with("abcdef");
        d.addClause(0, 2);
        d.addClause(2, 2);
        d.addClause(5, 1);
        put(d, 0, 0, "p");
        put(d, 0, d.length(), "q");
        due(text(d), "p[0:ab][1:cd]e[2:f]q");
        put(d, 0, 3, "r");
        due(text(d), "p[0:ab]r[1:cd]e[2:f]q");
        put(d, 0, 2, "st");
        due(text(d), "p[0:astb]r[1:cd]e[2:f]q");
        put(d, 0, 8, "u");
        due(text(d), "p[0:astb]r[1:cd]ue[2:f]q");
        put(d, 0, 1, "v");
        due(text(d), "pv[0:astb]r[1:cd]ue[2:f]q");
    }

    static void promise4Refusals() {
        Doc d = withThreeClauses();
        d.lock(1, true);
        typeAll(d, "xy");
        refused(d, 'l', 1, x -> x.insert(0, 4));
        due(d.type('z'), 3);
        due(d.insert(0, 3), 14);
        due(text(d), "[0:aaa]xyz[1:bbb]cc[2:ddd]");
        typeAll(d, "k");
        refused(d, 'l', 1, x -> x.insert(1, 8));
        fails(d, INDEX, x -> x.insert(2, 8));
        d.sign(0, 1);
        d.setStrict(true);
        refused(d, 's', 0, x -> x.insert(1, 1));
        due(d.insert(1, 13), 15);
        due(text(d), "[0:aaa]xyz[1:bbb]cc[2:ddkd]");
        Doc empty = withThreeClauses();
        empty.lock(0, true);
        fails(empty, ARGUMENT, x -> x.insert(0, 1));
    }

    static void promise5() {
        Doc d = with("abcdefgh");
        fails(d, INDEX, x -> x.delete(1, 0, 1));
        fails(d, INDEX, x -> x.delete(-1, 0, 1));
        fails(d, INDEX, x -> x.delete(0, -1, 1));
        fails(d, INDEX, x -> x.delete(0, 0, 0));
        fails(d, INDEX, x -> x.delete(0, 8, 0));
        fails(d, INDEX, x -> x.delete(0, 8, 1));
        fails(d, INDEX, x -> x.delete(0, 0, 9));
        fails(d, INDEX, x -> x.delete(0, 7, 2));
        fails(d, INDEX, x -> x.delete(0, 0, -1));
        fails(d, INDEX, x -> x.delete(0, 3, LEAST));
        fails(d, INDEX, x -> x.delete(0, 3, GREATEST));
        fails(d, INDEX, x -> x.delete(0, GREATEST, GREATEST));
        fails(d, INDEX, x -> x.delete(0, GREATEST, 1));
        fails(d, INDEX, x -> x.delete(0, LEAST, 1));
        fails(d, INDEX, x -> x.delete(0, LEAST, GREATEST));
        fails(d, INDEX, x -> x.delete(0, -1, 9));
        due(d.delete(0, 0, 1), 7);
        due(d.delete(0, 6, 1), 6);
        due(plain(d), "bcdefg");
        due(d.delete(0, 2, 3), 3);
        due(plain(d), "bcg");
        due(d.delete(0, 0, 3), 0);
        fails(d, INDEX, x -> x.delete(0, 0, 1));
        Doc full = withFortyEdits();
        fails(full, STATE, x -> x.delete(0, 0, 1));
        fails(full, INDEX, x -> x.delete(0, 0, 4));
        fails(full, INDEX, x -> x.delete(1, 0, 1));
    }

    static void promise5Refusals() {
        Doc d = withThreeClauses();
        d.lock(2, true);
        d.lock(1, true);
        refused(d, 'l', 1, x -> x.delete(0, 5, 1));
        refused(d, 'l', 2, x -> x.delete(1, 10, 1));
        refused(d, 'l', 1, x -> x.delete(1, 5, 4));
        due(d.delete(1, 6, 2), 9);
        due(text(d), "[0:aaa][1:bbb][2:ddd]");
        due(d.delete(1, 0, 3), 6);
        due(d.clauseLength(0), 0);
        due(d.clauses(), 3);
        due(text(d), "[1:bbb][2:ddd]");
    }

    static void promise6() {
        Doc d = with("abcdefgh");
        fails(d, INDEX, x -> x.move(1, 0, 1, 0));
        fails(d, INDEX, x -> x.move(-1, 0, 1, 0));
        fails(d, INDEX, x -> x.move(0, -1, 1, 0));
        fails(d, INDEX, x -> x.move(0, 0, 0, 0));
        fails(d, INDEX, x -> x.move(0, 8, 1, 0));
        fails(d, INDEX, x -> x.move(0, 8, 0, 0));
        fails(d, INDEX, x -> x.move(0, 7, 2, 0));
        fails(d, INDEX, x -> x.move(0, 1, GREATEST, 0));
        fails(d, INDEX, x -> x.move(0, GREATEST, GREATEST, 0));
        fails(d, INDEX, x -> x.move(0, LEAST, 1, 0));
        fails(d, INDEX, x -> x.move(0, 0, LEAST, 0));
        fails(d, INDEX, x -> x.move(0, 0, 1, -1));
        fails(d, INDEX, x -> x.move(0, 0, 1, 8));
        fails(d, INDEX, x -> x.move(0, 0, 3, 6));
        fails(d, INDEX, x -> x.move(0, 0, 8, 1));
        fails(d, INDEX, x -> x.move(0, 0, 1, GREATEST));
        fails(d, INDEX, x -> x.move(0, 0, 1, LEAST));
        due(d.move(0, 0, 1, 7), 1);
        due(plain(d), "bcdefgha");
        due(d.move(0, 7, 1, 0), 2);
        due(plain(d), "abcdefgh");
        due(d.move(0, 1, 3, 2), 3);
        due(plain(d), "aebcdfgh");
        due(d.move(0, 5, 3, 2), 4);
        due(plain(d), "aefghbcd");
        due(d.move(0, 0, 8, 0), 5);
        due(d.move(0, 3, 2, 3), 6);
        due(plain(d), "aefghbcd");
        due(d.move(0, 0, 3, 5), 7);
        due(plain(d), "ghbcdaef");
        due(d.length(), 8);
        Doc full = withFortyEdits();
        fails(full, STATE, x -> x.move(0, 0, 1, 0));
        fails(full, INDEX, x -> x.move(0, 0, 1, 3));
        fails(full, INDEX, x -> x.move(1, 0, 1, 0));
    }

    static void promise6WholeClauses() {
        Doc d = withThreeClauses();
        d.move(0, 3, 3, 0);
        due(text(d), "[1:bbb][0:aaa]cc[2:ddd]");
        d.move(0, 8, 3, 1);
        due(text(d), "[1:b][2:ddd][1:bb][0:aaa]cc");
        d.move(0, 1, 5, 2);
        due(text(d), "[1:b][0:a][2:ddd][0:bbaa]cc");
        d.move(0, 0, 11, 0);
        due(text(d), "[1:b][0:a][2:ddd][0:bbaa]cc");
        d.move(1, 0, 5, 6);
        due(text(d), "[0:bbaa]cc[1:b]a[2:ddd]");
    }

    static void promise6PartsOfClauses() {
        Doc d = withThreeClauses();
        d.move(0, 1, 1, 0);
        due(text(d), "a[0:aa][1:bbb]cc[2:ddd]");
        d.move(0, 0, 1, 2);
        due(text(d), "[0:aa]a[1:bbb]cc[2:ddd]");
        d.move(0, 2, 1, 1);
        due(text(d), "[0:aaa][1:bbb]cc[2:ddd]");
        d.move(0, 6, 2, 4);
        due(text(d), "[0:aaa][1:bccbb][2:ddd]");
        d.move(0, 2, 2, 9);
        due(text(d), "[0:aa][1:ccbb][2:ddd]ab");
        d.move(0, 3, 2, 3);
        due(text(d), "[0:aa][1:ccbb][2:ddd]ab");
        d.move(0, 5, 2, 5);
        due(text(d), "[0:aa][1:ccb]bd[2:dd]ab");
        d.move(0, 9, 1, 8);
        due(text(d), "[0:aa][1:ccb]bd[2:dad]b");
    }

    /** Text and goal are those without the moved characters, also when the clause has gaps. */
    static void promise6Gaps() {
        Doc d = with("abcd");
        d.addClause(0, 4);
        put(d, 0, 4, "xy");
        d.addClause(4, 2);
        d.move(0, 4, 2, 2);
        due(text(d), "[0:ab][1:xy][0:cd]");
        d.move(0, 1, 4, 1);
        due(text(d), "[0:ab][1:xy][0:cd]");
        due(words(d, 0), "abcd");
        d.move(0, 1, 4, 0);
        due(text(d), "b[1:xy]c[0:ad]");
        d.move(0, 4, 2, 0);
        due(text(d), "[0:ad]b[1:xy]c");
        d.move(0, 2, 4, 1);
        due(text(d), "[0:ab][1:xy][0:cd]");
        d.move(0, 0, 6, 0);
        due(text(d), "[0:ab][1:xy][0:cd]");
        d.move(0, 3, 1, 0);
        due(text(d), "y[0:ab][1:x][0:cd]");
        d.move(0, 1, 5, 0);
        due(text(d), "[0:ab][1:x][0:cd]y");
    }

    static void promise6Refusals() {
        Doc d = withThreeClauses();
        d.lock(0, true);
        refused(d, 'l', 0, x -> x.move(0, 0, 1, 5));
        refused(d, 'l', 0, x -> x.move(0, 6, 1, 1));
        due(d.move(0, 0, 3, 8), 1);
        due(text(d), "[1:bbb]cc[2:ddd][0:aaa]");
        due(d.move(0, 0, 3, 6), 2);
        due(text(d), "cc[2:ddd][0:a][1:bbb][0:aa]");
        due(d.move(0, 6, 3, 8), 3);
        due(text(d), "cc[2:ddd][0:aaa][1:bbb]");
        refused(d, 'l', 0, x -> x.move(0, 6, 1, 5));
        due(d.move(0, 6, 1, 6), 4);
        due(text(d), "cc[2:ddd][0:aaa][1:bbb]");
    }

    static void promise7() {
        Doc d = withThreeClauses();
        due(d.edits(), 1);
        d.addClause(6, 2);
        d.sign(0, 1);
        due(d.edits(), 1);
        d.delete(0, 0, 1);
        due(d.edits(), 2);
        d.move(0, 0, 1, 0);
        due(d.edits(), 3);
        d.lock(1, true);
        refused(d, 'l', 1, x -> x.delete(0, 2, 1));
        due(d.edits(), 3);
        fails(d, INDEX, x -> x.delete(0, 60, 1));
        due(d.edits(), 3);
        due(withFortyEdits().edits(), 40);
    }

    static void promise8To10() {
        Doc d = with("abcdef");
        d.addAuthor(1, 9);
        fails(d, INDEX, x -> x.editKind(1));
        fails(d, INDEX, x -> x.editAuthor(1));
        fails(d, INDEX, x -> x.editCost(1));
        d.delete(1, 0, 1);
        d.move(0, 0, 2, 1);
        put(d, 1, 0, "x");
        due(d.editKind(0), 'i');
        due(d.editKind(1), 'd');
        due(d.editKind(2), 'm');
        due(d.editKind(3), 'i');
        due(d.editAuthor(0), 0);
        due(d.editAuthor(1), 1);
        due(d.editAuthor(2), 0);
        due(d.editAuthor(3), 1);
        due(d.editCost(0), 6);
        due(d.editCost(1), 9);
        due(d.editCost(2), 2);
        due(d.editCost(3), 9);
        for (int bad : new int[] {-1, 4, LEAST, GREATEST}) {
            fails(d, INDEX, x -> x.editKind(bad));
            fails(d, INDEX, x -> x.editAuthor(bad));
            fails(d, INDEX, x -> x.editCost(bad));
        }
        Doc full = withFortyEdits();
        due(full.editKind(39), 'm');
        fails(full, INDEX, x -> x.editKind(40));
        fails(full, INDEX, x -> x.editAuthor(40));
        fails(full, INDEX, x -> x.editCost(40));
    }

    static void promise10Schemes() {
        Doc d = new Doc();
        d.addAuthor(0, 13);
        d.addAuthor(1, 17);
        d.addAuthor(2, 7);
        d.addAuthor(3, 11);
        d.addAuthor(3, 999);
        int[][] costs = {{13, 39, 13, 39, 13, 39}, {17, 17, 17, 17, 17, 17}, {7, 21, 3, 10, 0, 0},
            {22, 33, 22, 33, 22, 33}, {1998, 2997, 1998, 2997, 1998, 2997}};
        int edit = 0;
        for (int author = 0; author < 5; author++) {
            put(d, author, 0, "a");
            put(d, author, 0, "bcd");
            d.move(author, 0, 1, 1);
            d.move(author, 0, 3, 1);
            d.delete(author, 0, 1);
            d.delete(author, 0, 3);
            int[] due = costs[author];
            int[] order = {due[0], due[1], due[4], due[5], due[2], due[3]};
            for (int i = 0; i < 6; i++) due(d.editCost(edit + i), order[i]);
            edit += 6;
        }
        put(d, 3, 0, "ab");
        due(d.editCost(30), 22);
        d.delete(2, 0, 2);
        due(d.editCost(31), 7);
        put(d, 0, 0, "a".repeat(20));
        put(d, 4, 0, "b".repeat(20));
        put(d, 2, 0, "c".repeat(20));
        d.delete(2, 0, 59);
        due(d.editCost(32), 260);
        due(d.editCost(33), 19980);
        due(d.editCost(34), 140);
        due(d.editCost(35), 206);
        due(d.isConsistent(), true);
    }

    static void promise10Fees() {
        Doc d = withThreeClauses();
        d.sign(0, 1);
        d.sign(1, 3);
        d.sign(1, 4);
        d.withdraw(d.sign(0, 7));
        d.setFee(100);
        d.delete(0, 0, 1);
        due(d.editCost(1), 201);
        d.setFee(30);
        due(d.editCost(1), 201);
        d.delete(1, 0, 1);
        due(d.editCost(2), 5);
        d.delete(1, d.length() - 1, 1);
        due(d.editCost(3), 35);
        due(d.bill(0), 11 + 201);
        due(d.bill(1), 40);
    }

    static void promise11And12() {
        Doc d = withThreeClauses();
        fails(d, NOTHING, x -> x.refusalReason());
        fails(d, NOTHING, x -> x.refusalSubject());
        fails(d, INDEX, x -> x.delete(0, 11, 1));
        fails(d, NOTHING, x -> x.refusalReason());
        d.lock(2, true);
        refused(d, 'l', 2, x -> x.delete(0, 8, 1));
        d.sign(0, 4);
        d.sign(0, 3);
        d.sign(0, 1);
        d.setStrict(true);
        refused(d, 's', 1, x -> x.delete(0, 0, 1));
        refused(d, 's', 1, x -> x.delete(0, 3, 1));
        refused(d, 'l', 2, x -> x.delete(0, 0, 9));
        d.withdraw(1);
        refused(d, 's', 2, x -> x.delete(0, 0, 1));
        d.delete(0, 3, 1);
        due(refusal(d), "s2");
        d.lock(2, false);
        refused(d, 's', 0, x -> x.delete(0, 9, 1));
        d.setStrict(false);
        d.delete(0, 0, 1);
        due(refusal(d), "s0");
        due(d.state(2), 'x');
        d.setStrict(true);
        d.delete(0, 0, 1);
        due(refusal(d), "s0");
    }

    static void promise13() {
        Doc d = with("abc");
        due(d.length(), 3);
        put(d, 0, 1, "xy");
        due(d.length(), 5);
        d.move(0, 0, 2, 1);
        due(d.length(), 5);
        d.delete(0, 0, 4);
        due(d.length(), 1);
        d.type('q');
        due(d.length(), 1);
        d.delete(0, 0, 1);
        due(d.length(), 0);
    }

    static void promise14To16() {
        Doc d = with("abcd");
        d.addAuthor(0, 0);
        put(d, 1, 2, "xy");
        d.addClause(1, 2);
        due(plain(d), "abxycd");
        int[] authors = {0, 0, 1, 1, 0, 0};
        int[] clauses = {-1, 0, 0, -1, -1, -1};
        for (int i = 0; i < 6; i++) {
            due(d.authorOf(i), authors[i]);
            due(d.clauseOf(i), clauses[i]);
        }
        for (int bad : new int[] {-1, 6, 7, 60, LEAST, GREATEST}) {
            fails(d, INDEX, x -> x.charAt(bad));
            fails(d, INDEX, x -> x.authorOf(bad));
            fails(d, INDEX, x -> x.clauseOf(bad));
        }
        d.move(1, 0, 1, 3);
        due(plain(d), "bxyacd");
        due(d.authorOf(3), 0);
        due(d.authorOf(1), 1);
        d.delete(0, 0, 1);
        due(d.authorOf(0), 1);
        due(d.clauseOf(0), 0);
        due(d.charAt(4), 'd');
        fails(d, INDEX, x -> x.charAt(5));
        fails(d, INDEX, x -> x.authorOf(5));
        fails(d, INDEX, x -> x.clauseOf(5));
    }

    static void promise17And18() {
        Doc d = new Doc();
        due(d.lengthAgain(), 0);
        fails(d, INDEX, x -> x.charAgain(0));
        d.addAuthor(0, 1);
        put(d, 0, 0, "hello you");
        due(plainAgain(d), "hello you");
        put(d, 0, 5, " to");
        d.move(0, 8, 4, 0);
        d.delete(0, 0, 1);
        due(plain(d), "youhello to");
        due(d.lengthAgain(), 11);
        due(plainAgain(d), "youhello to");
        d.addClause(0, 11);
        d.lock(0, true);
        refused(d, 'l', 0, x -> x.delete(0, 0, 1));
        due(plainAgain(d), "youhello to");
        for (int bad : new int[] {-1, 11, LEAST, GREATEST}) fails(d, INDEX, x -> x.charAgain(bad));
        due(plainAgain(withFortyEdits()), "abc");
        Doc e = with("abc");
        due(e.charAgain(0), 'a');
        e.delete(0, 0, 1);
        due(e.charAgain(0), 'b');
        fails(e, INDEX, x -> x.charAgain(2));
        e.move(0, 0, 1, 1);
        due(e.charAgain(0), 'c');
        e.addClause(0, 1);
        due(e.charAgain(1), 'b');
    }

    static void promise19() {
        Doc d = with("xy abcd");
        due(text(d), "xy abcd");
        d.addClause(3, 3);
        due(text(d), "xy [0:abc]d");
        d.move(0, 6, 1, 5);
        due(text(d), "xy [0:abdc]");
        put(d, 0, 7, "c");
        d.addClause(7, 1);
        d.move(0, 7, 1, 5);
        due(text(d), "xy [0:ab][1:c][0:dc]");
        d.addClause(0, 1);
        d.addClause(1, 1);
        d.addClause(2, 1);
        due(text(d), "[2:x][3:y][4: ][0:ab][1:c][0:dc]");
        d.delete(0, 0, 8);
        due(text(d), "");
        due(line(d), "");
    }

    /** The document's own example. */
    static void promise19Example() {
        Doc d = with("xy abd");
        d.addClause(3, 3);
        put(d, 0, 6, "cx");
        d.addClause(6, 2);
        d.move(0, 6, 2, 5);
        due(text(d), "xy [0:ab][1:cx][0:d]");
        d.move(0, 5, 1, 5);
        due(text(d), "xy [0:ab]c[1:x][0:d]");
        d.delete(0, 6, 1);
        due(text(d), "xy [0:ab]c[0:d]");
        due(d.clauseOf(5), -1);
        due(d.isConsistent(), true);
    }

    static void promise19Nested() {
        Doc d = with("aa");
        d.addClause(0, 2);
        for (int i = 1; i < 6; i++) {
            char letter = (char) ('a' + i);
            put(d, 0, 2 * i, letter + "" + letter);
            d.addClause(2 * i, 2);
            d.move(0, 2 * i, 2, i);
        }
        due(text(d), "[0:a][1:b][2:c][3:d][4:e][5:ff][4:e][3:d][2:c][1:b][0:a]");
        due(d.isConsistent(), true);
        put(d, 0, 6, "x".repeat(20));
        put(d, 0, 6, "y".repeat(20));
        put(d, 0, 2, "bbbbbbbb");
        due(text(d), "[0:a][1:b]bbbbbbbb[2:c][3:d][4:e][5:f" + "y".repeat(20) + "x".repeat(20)
            + "f][4:e][3:d][2:c][1:b][0:a]");
    }

    static void promise20() {
        Doc d = withThreeClauses();
        due(words(d, 0), "aaa");
        due(words(d, 2), "ddd");
        d.writeText();
        fails(d, INDEX, x -> x.writeClause(3));
        fails(d, INDEX, x -> x.writeClause(-1));
        fails(d, INDEX, x -> x.writeClause(LEAST));
        fails(d, INDEX, x -> x.writeClause(GREATEST));
        due(line(d), "[0:aaa][1:bbb]cc[2:ddd]");
        put(d, 0, 1, "xy");
        due(words(d, 0), "axyaa");
        d.move(0, 5, 3, 2);
        due(text(d), "[0:ax][1:bbb][0:yaa]cc[2:ddd]");
        due(words(d, 0), "axyaa");
        due(words(d, 1), "bbb");
        d.delete(0, 2, 3);
        due(words(d, 1), "");
        due(words(d, 2), "ddd");
    }

    static void promise21() {
        Doc d = withThreeClauses();
        for (int bad : new int[] {-1, 0, 1, LEAST, GREATEST}) fails(d, INDEX, x -> x.outputAt(bad));
        d.writeText();
        due(d.outputAt(0), '[');
        due(d.outputAt(1), '0');
        due(d.outputAt(2), ':');
        due(d.outputAt(3), 'a');
        due(d.outputAt(6), ']');
        for (int bad : new int[] {-1, 23, 24, LEAST, GREATEST}) fails(d, INDEX, x -> x.outputAt(bad));
        d.writeClause(1);
        due(d.outputAt(2), 'b');
        fails(d, INDEX, x -> x.outputAt(3));
        d.delete(0, 0, 11);
        due(line(d), "bbb");
        d.writeText();
        fails(d, INDEX, x -> x.outputAt(0));
    }

    static void promise22() {
        Doc d = new Doc();
        fails(d, INDEX, x -> x.addClause(0, 0));
        fails(d, INDEX, x -> x.addClause(0, 1));
        d.addAuthor(0, 1);
        put(d, 0, 0, "abcdefghij");
        fails(d, INDEX, x -> x.addClause(-1, 1));
        fails(d, INDEX, x -> x.addClause(0, 0));
        fails(d, INDEX, x -> x.addClause(0, 11));
        fails(d, INDEX, x -> x.addClause(10, 0));
        fails(d, INDEX, x -> x.addClause(10, 1));
        fails(d, INDEX, x -> x.addClause(9, 2));
        fails(d, INDEX, x -> x.addClause(0, LEAST));
        fails(d, INDEX, x -> x.addClause(1, GREATEST));
        fails(d, INDEX, x -> x.addClause(GREATEST, GREATEST));
        fails(d, INDEX, x -> x.addClause(LEAST, 1));
        due(d.addClause(4, 2), 0);
        fails(d, STATE, x -> x.addClause(3, 2));
        fails(d, STATE, x -> x.addClause(5, 2));
        fails(d, STATE, x -> x.addClause(0, 10));
        fails(d, STATE, x -> x.addClause(4, 2));
        due(d.addClause(2, 2), 1);
        due(d.addClause(0, 1), 2);
        due(d.addClause(1, 1), 3);
        due(d.addClause(6, 1), 4);
        due(d.addClause(9, 1), 5);
        fails(d, STATE, x -> x.addClause(7, 1));
        fails(d, STATE, x -> x.addClause(0, 1));
        fails(d, INDEX, x -> x.addClause(0, 11));
        due(text(d), "[2:a][3:b][1:cd][0:ef][4:g]hi[5:j]");
        due(d.isConsistent(), true);
    }

    static void promise22WholeText() {
        Doc d = with("abc");
        due(d.addClause(0, 3), 0);
        due(d.clauseLength(0), 3);
        due(d.signers(0), 0);
        due(d.lock(0, false), false);
        d.delete(0, 0, 3);
        put(d, 0, 0, "new");
        due(d.addClause(1, 2), 1);
        due(text(d), "n[1:ew]");
        due(d.isConsistent(), true);
    }

    static void promise23And24() {
        Doc d = with("aaabbbccddd");
        due(d.clauses(), 0);
        d.addClause(0, 3);
        due(d.clauses(), 1);
        d.addClause(3, 2);
        due(d.clauses(), 2);
        due(d.clauseLength(0), 3);
        due(d.clauseLength(1), 2);
        put(d, 0, 1, "xx");
        due(d.clauseLength(0), 5);
        put(d, 0, 0, "xx");
        due(d.clauseLength(0), 5);
        d.delete(0, 0, 4);
        due(d.clauseLength(0), 3);
        d.delete(0, 0, 3);
        due(d.clauseLength(0), 0);
        due(d.clauseLength(1), 2);
        due(d.clauses(), 2);
        for (int bad : new int[] {-1, 2, LEAST, GREATEST}) fails(d, INDEX, x -> x.clauseLength(bad));
    }

    static void promise25() {
        Doc d = withThreeClauses();
        for (int bad : new int[] {-1, 3, LEAST, GREATEST}) {
            fails(d, INDEX, x -> x.lock(bad, true));
            fails(d, INDEX, x -> x.lock(bad, false));
        }
        due(d.lock(1, false), false);
        due(d.lock(1, true), false);
        due(d.lock(1, true), true);
        due(d.lock(0, true), false);
        refused(d, 'l', 0, x -> x.delete(0, 2, 2));
        due(d.lock(0, false), true);
        due(d.lock(0, false), false);
        refused(d, 'l', 1, x -> x.delete(0, 2, 2));
        due(d.delete(0, 2, 1), 10);
        due(d.lock(1, false), true);
        due(d.delete(0, 2, 2), 8);
    }

    /** Only changed words matter to a lock, letter by letter. */
    static void promise25SameWords() {
        Doc d = withThreeClauses();
        d.lock(0, true);
        due(d.move(0, 0, 1, 1), 1);
        refused(d, 'l', 0, x -> x.move(0, 0, 2, 1));
        due(words(d, 0), "aaa");
        Doc e = with("xababy");
        e.addClause(0, 6);
        e.lock(0, true);
        refused(e, 'l', 0, x -> x.move(0, 1, 1, 2));
        due(e.move(0, 1, 2, 3), 1);
        due(words(e, 0), "xababy");
    }

    static void promise26() {
        Doc d = withThreeClauses();
        d.addAuthor(0, 0);
        d.addAuthor(0, 0);
        d.addAuthor(0, 0);
        for (int i = 0; i < 3; i++) due(d.signers(i), 0);
        d.sign(4, 1);
        due(d.signers(0), 16);
        due(d.signers(1), 0);
        d.sign(1, 3);
        d.sign(4, 5);
        due(d.signers(0), 18);
        due(d.signers(1), 2);
        due(d.signers(2), 16);
        d.withdraw(0);
        due(d.signers(0), 18);
        d.withdraw(2);
        due(d.signers(0), 2);
        due(d.signers(2), 0);
        d.sign(0, 7);
        due(d.signers(2), 1);
        d.delete(0, 3, 1);
        due(d.signers(0), 0);
        due(d.signers(1), 0);
        due(d.signers(2), 0);
        for (int bad : new int[] {-1, 3, LEAST, GREATEST}) fails(d, INDEX, x -> x.signers(bad));
    }

    static void promise27() {
        Doc d = new Doc();
        fails(d, INDEX, x -> x.sign(0, 0));
        d.addAuthor(0, 1);
        fails(d, ARGUMENT, x -> x.sign(0, 0));
        fails(d, ARGUMENT, x -> x.sign(0, 1));
        put(d, 0, 0, "abcdef");
        d.addClause(0, 1);
        d.addClause(1, 1);
        for (int bad : new int[] {0, 4, 5, 7, -1, -4, LEAST, GREATEST, 64}) fails(d, ARGUMENT, x -> x.sign(0, bad));
        for (int bad : new int[] {-1, 1, LEAST, GREATEST}) fails(d, INDEX, x -> x.sign(bad, 0));
        due(d.sign(0, 1), 0);
        due(d.sign(0, 2), 1);
        due(d.sign(0, 3), 2);
        due(d.sign(0, 3), 3);
        for (int i = 2; i < 6; i++) d.addClause(i, 1);
        due(d.sign(0, 63), 4);
        fails(d, ARGUMENT, x -> x.sign(0, 64));
        fails(d, ARGUMENT, x -> x.sign(0, 127));
        for (int i = 5; i < 12; i++) due(d.sign(0, 32), i);
        fails(d, STATE, x -> x.sign(0, 1));
        fails(d, ARGUMENT, x -> x.sign(0, 0));
        fails(d, ARGUMENT, x -> x.sign(0, -1));
        fails(d, INDEX, x -> x.sign(1, 1));
        d.withdraw(0);
        fails(d, STATE, x -> x.sign(0, 1));
        for (int i = 1; i < 12; i++) due(d.state(i), 'v');
    }

    static void promise28() {
        Doc d = withThreeClauses();
        fails(d, INDEX, x -> x.withdraw(0));
        d.sign(0, 1);
        d.sign(0, 2);
        d.sign(0, 4);
        d.sign(0, 7);
        for (int bad : new int[] {-1, 4, LEAST, GREATEST}) fails(d, INDEX, x -> x.withdraw(bad));
        due(d.withdraw(1), 3);
        fails(d, STATE, x -> x.withdraw(1));
        d.delete(0, 0, 1);
        fails(d, STATE, x -> x.withdraw(0));
        fails(d, STATE, x -> x.withdraw(3));
        due(d.withdraw(2), 0);
        due(d.state(1), 'w');
        d.delete(0, 2, 1);
        due(d.state(1), 'w');
        due(d.signatures(), 4);
    }

    static void promise29And30() {
        Doc d = withThreeClauses();
        due(d.signatures(), 0);
        d.sign(0, 1);
        due(d.signatures(), 1);
        d.sign(1, 2);
        d.sign(1, 6);
        due(d.signatures(), 3);
        for (int bad : new int[] {-1, 3, LEAST, GREATEST}) fails(d, INDEX, x -> x.state(bad));
        for (int i = 0; i < 3; i++) due(d.state(i), 'v');
        d.withdraw(0);
        d.delete(0, 10, 1);
        due(d.state(0), 'w');
        due(d.state(1), 'v');
        due(d.state(2), 'x');
        due(d.signatures(), 3);
        put(d, 0, 9, "d");
        due(words(d, 2), "ddd");
        due(d.state(2), 'x');
    }

    /** Neither moving a whole clause nor swapping equal letters changes words. */
    static void promise30SameWords() {
        Doc d = with("aaabbcd");
        d.addClause(0, 3);
        d.addClause(3, 2);
        d.addClause(5, 2);
        for (int i = 0; i < 3; i++) d.sign(0, 1 << i);
        d.move(0, 0, 3, 4);
        due(text(d), "[1:bb][2:cd][0:aaa]");
        d.move(0, 0, 4, 3);
        due(text(d), "[0:aaa][1:bb][2:cd]");
        d.move(0, 0, 1, 1);
        due(text(d), "[0:aaa][1:bb][2:cd]");
        for (int i = 0; i < 3; i++) due(d.state(i), 'v');
        Doc e = with("abcabc");
        e.addClause(0, 6);
        e.sign(0, 1);
        e.move(0, 1, 3, 1);
        due(e.state(0), 'v');
        e.move(0, 1, 3, 2);
        due(words(e, 0), "abbcac");
        due(e.state(0), 'x');
        due(e.voidedBy(0), 2);
    }

    static void promise31() {
        Doc d = withThreeClauses();
        fails(d, INDEX, x -> x.isUntouched(0));
        d.sign(0, 1);
        d.sign(0, 2);
        d.sign(0, 3);
        for (int i = 0; i < 3; i++) due(d.isUntouched(i), true);
        for (int bad : new int[] {-1, 3, LEAST, GREATEST}) fails(d, INDEX, x -> x.isUntouched(bad));
        d.withdraw(1);
        due(d.isUntouched(1), true);
        d.delete(0, 0, 1);
        due(d.isUntouched(0), false);
        due(d.isUntouched(1), true);
        due(d.isUntouched(2), false);
        put(d, 0, 1, "a");
        due(words(d, 0), "aaa");
        due(d.isUntouched(0), false);
        d.sign(1, 1);
        due(d.isUntouched(3), true);
        d.delete(0, 3, 1);
        due(d.isUntouched(1), false);
        due(d.state(1), 'w');
        due(d.isUntouched(3), true);
        d.move(0, 0, 3, d.length() - 3);
        due(d.isUntouched(3), true);
        d.delete(0, d.length() - 1, 1);
        due(d.isUntouched(3), false);
        due(d.isConsistent(), true);
    }

    static void promise32() {
        Doc d = withThreeClauses();
        fails(d, INDEX, x -> x.voidedBy(0));
        d.sign(0, 1);
        d.sign(0, 2);
        d.sign(0, 3);
        for (int i = 0; i < 3; i++) {
            final int signature = i;
            fails(d, NOTHING, x -> x.voidedBy(signature));
        }
        for (int bad : new int[] {-1, 3, LEAST, GREATEST}) fails(d, INDEX, x -> x.voidedBy(bad));
        d.move(0, 6, 2, 9);
        d.delete(0, 0, 1);
        due(d.voidedBy(0), 2);
        due(d.voidedBy(2), 2);
        fails(d, NOTHING, x -> x.voidedBy(1));
        d.delete(0, 0, 4);
        due(d.voidedBy(0), 2);
        due(d.voidedBy(1), 3);
        due(d.voidedBy(2), 2);
        d.withdraw(d.sign(0, 4));
        fails(d, NOTHING, x -> x.voidedBy(3));
        d.delete(0, 1, 1);
        fails(d, NOTHING, x -> x.voidedBy(3));
        Doc first = with("a");
        first.addClause(0, 1);
        first.sign(0, 1);
        first.delete(0, 0, 1);
        due(first.voidedBy(0), 1);
    }

    static void promise33() {
        Doc d = withThreeClauses();
        due(d.setStrict(false), false);
        due(d.setStrict(true), false);
        due(d.setStrict(true), true);
        d.sign(0, 2);
        d.sign(1, 3);
        d.sign(1, 4);
        refused(d, 's', 0, x -> x.delete(0, 3, 1));
        refused(d, 's', 1, x -> x.delete(0, 2, 1));
        refused(d, 's', 2, x -> x.move(0, 10, 1, 0));
        due(d.move(0, 0, 3, 3), 1);
        due(d.setStrict(false), true);
        due(d.delete(0, 0, 1), 10);
        due(d.state(0), 'x');
        due(d.setStrict(true), false);
        due(d.delete(0, 0, 1), 9);
        refused(d, 's', 2, x -> x.delete(0, 8, 1));
    }

    static void promise34() {
        Doc d = new Doc();
        for (int bad : new int[] {-1, 1000, LEAST, GREATEST}) fails(d, ARGUMENT, x -> x.setFee(bad));
        due(d.setFee(999), 0);
        due(d.setFee(0), 999);
        due(d.setFee(5), 0);
        for (int bad : new int[] {-1, 1000}) fails(d, ARGUMENT, x -> x.setFee(bad));
        due(d.setFee(6), 5);
    }

    static void promise35And36() {
        Doc d = new Doc();
        fails(d, INDEX, x -> x.bill(0));
        fails(d, INDEX, x -> x.billAgain(0));
        d.addAuthor(2, 5);
        d.addAuthor(3, 4);
        d.addAuthor(1, 9);
        for (int i = 0; i < 3; i++) due(d.bill(i), 0);
        put(d, 0, 0, "abcdef");
        d.delete(0, 0, 1);
        due(d.bill(0), 32);
        due(d.billAgain(0), 32);
        d.move(1, 0, 1, 1);
        due(d.bill(1), 8);
        due(d.billAgain(1), 8);
        d.addClause(0, 2);
        d.sign(0, 1);
        d.sign(1, 1);
        d.setFee(100);
        d.delete(1, 0, 3);
        d.setFee(999);
        due(d.bill(1), 8 + 12 + 200);
        due(d.billAgain(1), 8 + 12 + 200);
        due(d.bill(2), 0);
        due(d.billAgain(2), 0);
        for (int bad : new int[] {-1, 3, LEAST, GREATEST}) {
            fails(d, INDEX, x -> x.bill(bad));
            fails(d, INDEX, x -> x.billAgain(bad));
        }
        d.lock(0, true);
        d.type('x');
        due(d.insert(2, 0), 3);
        due(d.bill(2), 9);
        due(d.billAgain(2), 9);
    }

    static void promise37() {
        Doc d = new Doc();
        fails(d, INDEX, x -> x.share(0));
        d.addAuthor(0, 1);
        d.addAuthor(0, 1);
        d.addAuthor(0, 1);
        fails(d, ARITHMETIC, x -> x.share(0));
        fails(d, INDEX, x -> x.share(3));
        put(d, 0, 0, "a");
        dueD(d.share(0), 1.0);
        dueD(d.share(1), 0.0);
        put(d, 1, 1, "bb");
        dueD(d.share(0), 1f / 3f);
        dueD(d.share(1), 2f / 3f);
        d.move(2, 0, 3, 0);
        dueD(d.share(2), 0.0);
        put(d, 2, 1, "cccc");
        dueD(d.share(0), 1f / 7f);
        dueD(d.share(2), 4f / 7f);
        for (int bad : new int[] {-1, 3, LEAST, GREATEST}) fails(d, INDEX, x -> x.share(bad));
        d.delete(0, 0, 7);
        fails(d, ARITHMETIC, x -> x.share(0));
        fails(d, INDEX, x -> x.share(-1));
    }

    static void promise38() {
        Doc d = new Doc();
        fails(d, ARITHMETIC, x -> x.meanCost());
        d.addAuthor(0, 1);
        d.addAuthor(1, 4);
        put(d, 0, 0, "ab");
        dueD(d.meanCost(), 2.0);
        put(d, 0, 0, "c");
        dueD(d.meanCost(), 1.5);
        d.delete(1, 0, 1);
        dueD(d.meanCost(), 7.0 / 3.0);
        d.addClause(0, 1);
        d.sign(0, 1);
        d.setFee(10);
        d.delete(1, 0, 1);
        dueD(d.meanCost(), 21.0 / 4.0);
        d.delete(1, 0, 1);
        dueD(d.meanCost(), 25.0 / 5.0);
        d.addAuthor(0, 0);
        put(d, 2, 0, "x");
        dueD(d.meanCost(), 25.0 / 6.0);
    }

    static void promise39() {
        Doc d = new Doc();
        due(d.isConsistent(), true);
        d.addAuthor(2, 3);
        d.addAuthor(3, 5);
        put(d, 0, 0, "abcdefgh");
        d.addClause(1, 3);
        due(d.isConsistent(), true);
        d.sign(0, 1);
        d.setFee(7);
        put(d, 1, 2, "xyz");
        due(d.isConsistent(), true);
        d.addClause(8, 2);
        d.sign(1, 3);
        d.move(0, 1, 6, 3);
        due(d.isConsistent(), true);
        d.withdraw(1);
        d.delete(1, 2, 4);
        due(d.isConsistent(), true);
        d.delete(1, 0, d.length());
        due(d.isConsistent(), true);
        due(withFortyEdits().isConsistent(), true);
    }

    /** A locked clause comes before a signature, and the lowest of several is the subject. */
    static void termsRefusals() {
        Doc d = withThreeClauses();
        d.sign(0, 4);
        d.sign(0, 2);
        d.sign(0, 1);
        d.lock(0, true);
        d.lock(1, true);
        d.setStrict(true);
        refused(d, 'l', 0, x -> x.delete(0, 0, 11));
        d.lock(0, false);
        refused(d, 'l', 1, x -> x.delete(0, 0, 11));
        d.lock(1, false);
        refused(d, 's', 0, x -> x.delete(0, 0, 11));
        d.withdraw(0);
        refused(d, 's', 1, x -> x.delete(0, 0, 11));
        refused(d, 's', 2, x -> x.delete(0, 0, 1));
        d.setStrict(false);
        due(d.delete(0, 0, 11), 0);
        due(d.state(1), 'x');
        due(d.voidedBy(2), 1);
        due(d.bill(0), 22);
    }

    /** A full log is told before a refusal, and a refused edit takes no room in it. */
    static void termsFullLog() {
        Doc d = withThreeClauses();
        d.lock(1, true);
        for (int i = 1; i < 40; i++) {
            refused(d, 'l', 1, x -> x.delete(0, 3, 1));
            d.move(0, 0, 1, 0);
        }
        due(d.edits(), 40);
        d.lock(0, true);
        d.lock(2, true);
        fails(d, STATE, x -> x.delete(0, 10, 1));
        fails(d, STATE, x -> x.move(0, 10, 1, 0));
        d.type('x');
        fails(d, STATE, x -> x.insert(0, 9));
        due(refusal(d), "l1");
    }

    /** As many authors, characters, clauses, signatures and edits as there may be. */
    static void termsFullDocument() {
        Doc d = new Doc();
        for (int i = 0; i < 5; i++) d.addAuthor(1, i + 1);
        for (int i = 0; i < 3; i++) put(d, i, 0, "a".repeat(20));
        for (int i = 0; i < 6; i++) due(d.addClause(10 * i, 10), i);
        for (int i = 0; i < 12; i++) due(d.sign(i % 5, i < 11 ? 1 << i % 6 : 63), i);
        d.setStrict(true);
        for (int i = 3; i < 39; i++) d.move(3, 0, 10, 50);
        due(d.setStrict(false), true);
        for (int i = 0; i < 12; i++) due(d.state(i), 'v');
        due(d.signers(4), 1 << 4 | 1 << 0 | 1 << 1);
        due(d.signers(5), 1 << 0 | 1 << 1);
        d.setFee(999);
        due(d.delete(4, 50, 10), 50);
        due(d.edits(), 40);
        due(d.clauseLength(5), 0);
        due(d.editCost(39), 5 + 2 * 999);
        dueD(d.meanCost(), (1 + 2 + 3 + 36 * 4 + 5 + 2 * 999) / 40.0);
        due(d.signers(5), 0);
        due(d.signers(4), 1 << 4 | 1 << 0);
        for (int i = 0; i < 12; i++) {
            boolean isOver = i == 5 || i == 11;
            due(d.isUntouched(i), !isOver);
            due(d.state(i), isOver ? 'x' : 'v');
        }
        due(d.withdraw(10), 9);
        due(d.voidedBy(11), 39);
        due(d.billAgain(4), 5 + 2 * 999);
        due(d.bill(3), 36 * 4);
        dueD(d.share(0), 10f / 50f);
        dueD(d.share(2), 20f / 50f);
        due(d.lengthAgain(), 50);
        due(d.writeText(), 50 + 5 * 4);
        due(d.isConsistent(), true);
    }

    public static void main(String[] args) {
        run(PromiseTest.class);
    }
}

/**
 * "WORDS", "GROUPS", "THE TEXT" and "CHANGES" of the description: a test for each sentence that names a boundary,
 * under the sentence's own words.
 */
final class DescriptionTest {
    private static final int BAD = WordGroups.BAD, STATE = WordGroups.STATE, FULL = WordGroups.FULL;
    private static final int NONE = WordGroups.NONE;

    public static void main(String[] args) {
        atMost512Calls();
        letters();
        wordLetters();
        codes();
        orderOfWords();
        pattern();
        liveWords();
        weights();
        liveWordsAtMost();
        families();
        groupsOfPowersOfTwo();
        largestFamilies();
        sameWordInSeveralItems();
        leastEmptyGroup();
        partlyFilledGroup();
        costOfPutting();
        removedIntoFamilyOne();
        rebuiltOnlyIfGreater();
        groupAfterRebuilding();
        rebuildingOfNothing();
        costOfRebuilding();
        nodes();
        manyNodes();
        failures();
        textLetters();
        occurrences();
        matches();
        weightAtPosition();
        divisionsDoNotOverlap();
        divisionsLeaveOut();
        historyAtMostEight();
        changesAreRecorded();
        otherCallsAreNotRecorded();
        undoRestoresEachPart();
        notOfAState();
        Checks.end();
    }

    /** "An object is used for at most 512 calls after it has been made". */
    private static void atMost512Calls() {
        WordGroups x = new WordGroups();
        x.spell(111111);
        for (int call = 2; call <= 511; call++) {
            x.rebuild();
        }
        Checks.same("told(4) as the call 512", x.told(4), 510);

        WordGroups y = Checks.withWords(111111);
        y.type();
        for (int call = 4; call <= 511; call++) {
            y.group(0, 0, 3);
        }
        Checks.same("follow(0, 0, 5) as the call 512", y.follow(0, 0, 5), 11111);

        WordGroups z = Checks.withWords(444444);
        z.keep(0);
        for (int call = 4; call <= 510; call += 3) {
            z.weigh(call % 99);
            z.rebuild();
            z.back(0);
        }
        Checks.same("weigh(5) as the call 511", z.weigh(5), 101);
        // 6 for the insertion, 6 and 0 for the removal of the only word, 6 for the insertion after it.
        Checks.same("told(3) as the call 512", z.told(3), 6 + 6 + 6);
    }

    /** "The letters are 0 to 3." */
    private static void letters() {
        WordGroups x = new WordGroups();
        Checks.same("write(-1)", x.write(-1), BAD);
        Checks.same("write(0)", x.write(0), 1);
        Checks.same("write(3)", x.write(3), 2);
        Checks.same("write(4)", x.write(4), BAD);
        x.type();
        Checks.same("the lowest letter", x.at(0, 0), 0);
        Checks.same("the highest letter", x.at(1, 0), 3);
    }

    /** "A word consists of 1 to 6 letters". */
    private static void wordLetters() {
        WordGroups x = new WordGroups();
        Checks.same("a word of 0 letters", x.spell(0), BAD);
        Checks.same("a word of 0 letters", x.insert(1), STATE);
        Checks.same("a word of 1 letter", Checks.insert(x, 4, 1), 0);
        Checks.same("a word of 6 letters", Checks.insert(x, 444444, 1), 1);
        Checks.same("a word of 7 letters", x.spell(4444444), BAD);
        Checks.same("a word of 7 letters", x.write(3), FULL);
        Checks.same("the word of 1 letter", x.word(0, 0), 4);
        Checks.same("the word of 6 letters", x.word(1, 0), 444444);
    }

    /** "its code is the number whose decimal digits are its letters, each increased by 1, .. has the code 142". */
    private static void codes() {
        int[][] letters = {{0}, {3}, {0, 3, 1}, {0, 0, 0, 0, 0, 0}, {3, 3, 3, 3, 3, 3}, {0, 1, 2, 3, 0, 1}};
        int[] codes = {1, 4, 142, 111111, 444444, 123412};
        for (int k = 0; k < codes.length; k++) {
            WordGroups x = new WordGroups();
            for (int letter : letters[k]) {
                x.write(letter);
            }
            x.insert(1);
            Checks.same("the code of a word of letters", x.word(0, 0), codes[k]);
            x.clear();
            Checks.same("spell(" + codes[k] + ")", x.spell(codes[k]), letters[k].length);
            x.type();
            for (int i = 0; i < letters[k].length; i++) {
                Checks.same("a letter of the word " + codes[k], x.at(i, 0), letters[k][i]);
            }
        }
    }

    /** "Words are ordered by their codes." */
    private static void orderOfWords() {
        int[] ordered = {1, 4, 11, 12, 44, 111, 444, 1111, 4444, 11111, 44444, 111111, 444444};
        WordGroups x = new WordGroups();
        WordGroups y = new WordGroups();
        for (int k = 0; k < ordered.length; k++) {
            Checks.insert(x, ordered[k], 0);
            Checks.insert(y, ordered[ordered.length - 1 - k], 0);
        }
        for (int k = 0; k < ordered.length; k++) {
            Checks.same("word(" + k + ", 0), inserted upwards", x.word(k, 0), ordered[k]);
            Checks.same("word(" + k + ", 0), inserted downwards", y.word(k, 0), ordered[k]);
        }
    }

    /** "The pattern is a list of at most 6 letters, empty at first, .. (if it is not empty)". */
    private static void pattern() {
        WordGroups x = new WordGroups();
        Checks.same("told(6) at first", x.told(6), 0);
        Checks.same("type() of an empty pattern", x.type(), STATE);
        Checks.same("insert(0) of an empty pattern", x.insert(0), STATE);
        Checks.same("remove() of an empty pattern", x.remove(), STATE);
        Checks.same("weigh(0) of an empty pattern", x.weigh(0), STATE);
        Checks.same("find(0, 0) of an empty pattern", x.find(0, 0), STATE);
        for (int length = 1; length <= 6; length++) {
            Checks.same("write(2)", x.write(2), length);
        }
        Checks.same("a seventh letter", x.write(2), FULL);
        Checks.same("told(6)", x.told(6), 6);
    }

    /** "A word is live if it was inserted and not removed since". */
    private static void liveWords() {
        WordGroups x = Checks.withWords(1, 22, 333);
        Checks.same("remove() before it is inserted", Checks.remove(x, 4), STATE);
        Checks.same("insert(7)", x.insert(7), 2);
        Checks.same("insert(7) again", x.insert(7), STATE);
        Checks.same("remove()", x.remove(), 0);
        Checks.same("remove() again", x.remove(), STATE);
        Checks.same("weigh(7) after it is removed", x.weigh(7), STATE);
        Checks.same("insert(8) after it is removed", x.insert(8), 0);
        Checks.same("remove() after it is inserted again", x.remove(), 1);
    }

    /** "it has a weight from -99 to 99 then". */
    private static void weights() {
        WordGroups x = new WordGroups();
        Checks.same("insert(-100)", Checks.insert(x, 1, -100), BAD);
        Checks.same("insert(-99)", x.insert(-99), 0);
        Checks.same("insert(100)", Checks.insert(x, 2, 100), BAD);
        Checks.same("insert(99)", x.insert(99), 1);
        Checks.same("weigh(100)", x.weigh(100), BAD);
        Checks.same("weigh(-100)", x.weigh(-100), BAD);
        Checks.same("weigh(-99), from 99", x.weigh(-99), 199);
        Checks.same("weigh(99), from -99", x.weigh(99), 1);
        Checks.same("word(0, 1)", x.word(0, 1), -99);
        Checks.same("word(1, 1)", x.word(1, 1), 99);
        Checks.same("told(5)", x.told(5), 0);
    }

    /** "There are at most 24 live words." */
    private static void liveWordsAtMost() {
        WordGroups x = Checks.withManyWords(23);
        Checks.same("a 24th word", Checks.insert(x, 114, 1), 3);
        Checks.same("a 25th word", Checks.insert(x, 121, 1), FULL);
        Checks.same("word(23, 0)", x.word(23, 0), 114);
        Checks.same("word(24, 0)", x.word(24, 0), NONE);
        Checks.same("weigh(5) of one of 24", Checks.weigh(x, 1, 5), 100);
        Checks.same("a 25th word after weigh(5)", Checks.insert(x, 121, 1), FULL);
        Checks.remove(x, 1);
        Checks.same("a 24th word after remove()", Checks.insert(x, 121, 1), 1);
        x.undo();
        x.undo();
        Checks.same("a 25th word after undo()", x.insert(1), FULL);
        x.keep(0);
        Checks.remove(x, 1);
        x.back(0);
        Checks.same("a 25th word after back(0)", Checks.insert(x, 121, 1), FULL);
    }

    /** "There are two families, 0 .. and 1", "Each of them has the groups 0 to 6". */
    private static void families() {
        WordGroups x = Checks.withWords(1, 22);
        Checks.remove(x, 1);
        Checks.same("group(0, 1, 0)", x.group(0, 1, 0), 2);
        Checks.same("group(1, 0, 0)", x.group(1, 0, 0), 1);
        for (int what = 0; what <= 4; what++) {
            Checks.same("group(-1, 0, " + what + ")", x.group(-1, 0, what), BAD);
            Checks.same("group(2, 0, " + what + ")", x.group(2, 0, what), BAD);
            Checks.same("group(0, 6, " + what + ")", x.group(0, 6, what), 0);
            Checks.same("group(1, 6, " + what + ")", x.group(1, 6, what), 0);
            Checks.same("group(0, 7, " + what + ")", x.group(0, 7, what), BAD);
            Checks.same("group(1, -1, " + what + ")", x.group(1, -1, what), BAD);
        }
    }

    private static void sameSizes(String when, WordGroups x, int family, int... due) {
        for (int group = 0; group < 7; group++) {
            int items = group < due.length ? due[group] : 0;
            Checks.same(when + ": group(" + family + ", " + group + ", 0)", x.group(family, group, 0), items);
        }
    }

    /** "the group i is empty, or it contains from 1 to 2 to the power of i items". */
    private static void groupsOfPowersOfTwo() {
        sameSizes("1 word", Checks.withManyWords(1), 0, 1);
        sameSizes("2 words", Checks.withManyWords(2), 0, 0, 2);
        sameSizes("3 words", Checks.withManyWords(3), 0, 1, 2);
        sameSizes("4 words", Checks.withManyWords(4), 0, 0, 0, 4);
        sameSizes("7 words", Checks.withManyWords(7), 0, 1, 2, 4);
        sameSizes("8 words", Checks.withManyWords(8), 0, 0, 0, 0, 8);
        sameSizes("15 words", Checks.withManyWords(15), 0, 1, 2, 4, 8);
        sameSizes("16 words", Checks.withManyWords(16), 0, 0, 0, 0, 0, 16);
        sameSizes("24 words", Checks.withManyWords(24), 0, 0, 0, 0, 8, 16);
        sameSizes("31 items", weighed(7), 0, 1, 2, 4, 8, 16);
        sameSizes("32 items", weighed(8), 0, 0, 0, 0, 0, 0, 32);
        sameSizes("15 removed items", weighed(15), 1, 1, 2, 4, 8);
        sameSizes("16 removed items", weighed(16), 1, 0, 0, 0, 0, 16);
    }

    /** 24 words, so many of which, 24 at most, get the weight 0 one after the other. */
    private static WordGroups weighed(int times) {
        WordGroups x = Checks.withManyWords(24);
        for (int k = 0; k < times; k++) {
            Checks.weigh(x, Checks.WORDS[k], 0);
        }
        return x;
    }

    /** "(There is always such a group.)": no family has more items than 47, as more removed ones are rebuilt. */
    private static void largestFamilies() {
        WordGroups x = weighed(23);
        Checks.same("told(1), at most", x.told(1), 47);
        Checks.same("told(2), at most", x.told(2), 23);
        Checks.same("told(4)", x.told(4), 0);
        Checks.same("told(9)", x.told(9), 5 + 4);
        sameSizes("47 items", x, 0, 1, 2, 4, 8, 0, 32);
        sameSizes("23 items", x, 1, 1, 2, 4, 0, 16);
        Checks.same("item(0, 5, 31, 0)", x.item(0, 5, 31, 0), 114);
        Checks.same("item(0, 5, 32, 0)", x.item(0, 5, 32, 0), NONE);
        Checks.same("item(1, 4, 15, 0), the 16th word", x.item(1, 4, 15, 0), 34);
        x.keep(0);
        Checks.same("weigh(0) of the 24th word", Checks.weigh(x, 114, 0), 123);
        Checks.same("told(4) after one more", x.told(4), 1);
        sameSizes("23 words and one", x, 0, 1, 0, 0, 0, 0, 23);
        sameSizes("23 words and one", x, 1);
        x.undo();
        sameSizes("47 items after undo()", x, 0, 1, 2, 4, 8, 0, 32);
        x.rebuild();
        x.back(0);
        sameSizes("23 items after back(0)", x, 1, 1, 2, 4, 0, 16);
        Checks.same("insert(1) as a 25th word", Checks.insert(x, 121, 1), FULL);
        Checks.same("remove()", Checks.remove(x, 1), 15);
    }

    /** "the same word can occur in several items of a family". */
    private static void sameWordInSeveralItems() {
        WordGroups x = Checks.withWords(1, 22, 333, 4444);
        Checks.weigh(x, 22, 50);
        Checks.weigh(x, 22, -50);
        sameSizes("one word three times", x, 0, 0, 2, 4);
        sameSizes("one word twice", x, 1, 0, 2);
        int[] weights = {-50, 50};
        int[] removed = {2, 50};
        for (int k = 0; k < 2; k++) {
            Checks.same("item(0, 1, " + k + ", 0)", x.item(0, 1, k, 0), 22);
            Checks.same("item(0, 1, " + k + ", 1)", x.item(0, 1, k, 1), weights[k]);
            Checks.same("item(1, 1, " + k + ", 0)", x.item(1, 1, k, 0), 22);
            Checks.same("item(1, 1, " + k + ", 1)", x.item(1, 1, k, 1), removed[k]);
        }
        Checks.same("group(0, 1, 1), each node once", x.group(0, 1, 1), 3);
        Checks.same("group(0, 1, 2), the letters of each item", x.group(0, 1, 2), 4);
    }

    /** "let i be the least number of a group that is empty; .. the groups 0 to i - 1 are empty then". */
    private static void leastEmptyGroup() {
        WordGroups x = Checks.withManyWords(5);
        sameSizes("0 and 2 are not empty", x, 0, 1, 0, 4);
        Checks.same("insert(1) into the gap", Checks.insert(x, 12, 1), 1);
        sameSizes("the gap is filled, 2 stays", x, 0, 0, 2, 4);
        Checks.same("insert(1) into 0", Checks.insert(x, 13, 1), 0);
        sameSizes("nothing is empty below 3", x, 0, 1, 2, 4);
        Checks.same("insert(1) into 3", Checks.insert(x, 14, 1), 3);
        sameSizes("all comes into 3", x, 0, 0, 0, 0, 8);
        int[] items = {1, 2, 3, 4, 11, 12, 13, 14};
        for (int k = 0; k < items.length; k++) {
            Checks.same("item(0, 3, " + k + ", 0)", x.item(0, 3, k, 0), items[k]);
        }

        WordGroups y = weighed(7);
        Checks.same("remove() into group 3 of family 1", Checks.remove(y, 14), 3);
        Checks.same("insert(0) into group 5", y.insert(0), 5);
        WordGroups z = weighed(15);
        Checks.same("remove() into group 4 of family 1", Checks.remove(z, 34), 4);
        sameSizes("16 removed items", z, 1, 0, 0, 0, 0, 16);
    }

    /** A group that a rebuilding fills in part is not empty: nothing comes into it, but all out of it. */
    private static void partlyFilledGroup() {
        WordGroups x = Checks.withWords(1, 22, 333);
        Checks.same("told(3) of 3 words", x.told(3), 1 + 3 + 3);
        Checks.same("rebuild()", x.rebuild(), 6);
        sameSizes("3 items of 4", x, 0, 0, 0, 3);
        Checks.same("a first word", Checks.insert(x, 4, 1), 0);
        Checks.same("a second word", Checks.insert(x, 44, 1), 1);
        Checks.same("a third word", Checks.insert(x, 444, 1), 0);
        sameSizes("3 items of 4 beside others", x, 0, 1, 2, 3);
        Checks.same("a fourth word", Checks.insert(x, 4444, 1), 3);
        sameSizes("7 items of 8", x, 0, 0, 0, 0, 7);
        Checks.same("told(3)", x.told(3), 7 + 6 + 1 + 3 + 3 + 16);

        WordGroups y = Checks.withManyWords(9);
        y.rebuild();
        sameSizes("9 items of 16", y, 0, 0, 0, 0, 0, 9);
        Checks.remove(y, 1);
        for (int k = 9; k < 24; k++) {
            Checks.insert(y, Checks.WORDS[k], 0);
        }
        sameSizes("9 items of 16 and 15 others", y, 0, 1, 2, 4, 8, 9);
        Checks.same("the 24th live word", Checks.insert(y, 1, 0), 5);
        sameSizes("25 items of 32", y, 0, 0, 0, 0, 0, 0, 25);
    }

    /** "The cost of this is the number of letters of the words of all items in the group i then (.. with each item)". */
    private static void costOfPutting() {
        WordGroups x = Checks.withWords(123);
        Checks.same("told(3) of one item", x.told(3), 3);
        Checks.insert(x, 1, 0);
        Checks.same("told(3): the items of the lower group too", x.told(3), 3 + 4);
        Checks.insert(x, 444444, 0);
        Checks.same("told(3): not those of the higher group", x.told(3), 3 + 4 + 6);
        Checks.insert(x, 22, 0);
        Checks.same("told(3): the items of all lower groups", x.told(3), 3 + 4 + 6 + 12);
        Checks.weigh(x, 22, 5);
        Checks.same("told(3): 22 into both families", x.told(3), 25 + 2 + 2);
        Checks.weigh(x, 22, 6);
        Checks.same("told(3): 22 counts with each item", x.told(3), 29 + 4 + 4);
    }

    /** "Removing it puts it, with its weight, into the family 1". */
    private static void removedIntoFamilyOne() {
        WordGroups x = Checks.withWords(1, 22, 333, 4444);
        Checks.weigh(x, 333, -99);
        Checks.remove(x, 333);
        sameSizes("removed items", x, 1, 0, 2);
        Checks.same("item(1, 1, 0, 1), the weight that it had", x.item(1, 1, 0, 1), -99);
        Checks.same("item(1, 1, 1, 1), the weight before", x.item(1, 1, 1, 1), 3);
        sameSizes("the inserted items stay", x, 0, 1, 0, 4);
        Checks.same("told(0)", x.told(0), 3);
    }

    /** "if the number of items in the family 1, times 2, is greater than the number of items in the family 0 then". */
    private static void rebuiltOnlyIfGreater() {
        int[] due = {20, 20, 10, 10, 11, 11, 12, 12, 12, 12, 13, 13, 13, 13, 13, 13, 13, 13, 14, 14, 14, 14, 14, 14};
        for (int words = 1; words <= 24; words++) {
            WordGroups x = Checks.withManyWords(words);
            for (int k = 0; k < words / 2; k++) {
                Checks.holds("removal " + (k + 1) + " of " + words, Checks.remove(x, Checks.WORDS[k]) < 10);
                Checks.same("told(2)", x.told(2), k + 1);
                Checks.same("told(1)", x.told(1), words);
            }
            Checks.same("told(4) with half of " + words + " removed", x.told(4), 0);
            Checks.same("one more of " + words, Checks.remove(x, Checks.WORDS[words / 2]), due[words - 1]);
            Checks.same("told(4) after one more", x.told(4), 1);
            Checks.same("told(1), the live words", x.told(1), words - words / 2 - 1);
            Checks.same("told(2)", x.told(2), 0);
        }
        WordGroups y = weighed(11);
        for (int k = 0; k < 6; k++) {
            Checks.holds("removal " + (k + 1), Checks.remove(y, Checks.WORDS[k]) < 10);
        }
        Checks.same("told(1)", y.told(1), 35);
        Checks.same("told(2)", y.told(2), 17);
        Checks.same("18 of 35: 17 live words", Checks.remove(y, 13), 15);
        sameSizes("17 items of 32", y, 0, 0, 0, 0, 0, 0, 17);
    }

    /** "where i is the least number such that 2 to the power of i is not less than the number of live words". */
    private static void groupAfterRebuilding() {
        int[] words = {1, 2, 3, 4, 5, 8, 9, 16, 17, 24};
        int[] groups = {0, 1, 2, 2, 3, 3, 4, 4, 5, 5};
        for (int n = 0; n < words.length; n++) {
            WordGroups x = Checks.withManyWords(words[n]);
            x.rebuild();
            int[] due = new int[7];
            due[groups[n]] = words[n];
            sameSizes(words[n] + " words rebuilt", x, 0, due);
            sameSizes(words[n] + " words rebuilt", x, 1);
            for (int k = 0; k < words[n]; k++) {
                Checks.same("the code of item " + k, x.item(0, groups[n], k, 0), Checks.WORDS[k]);
                Checks.same("the weight of item " + k, x.item(0, groups[n], k, 1), k);
            }
        }
    }

    /** "if there are live words": without any, all groups are empty after a rebuilding, which costs nothing. */
    private static void rebuildingOfNothing() {
        WordGroups x = new WordGroups();
        Checks.same("rebuild() of nothing", x.rebuild(), 0);
        sameSizes("rebuilt of nothing", x, 0);
        Checks.same("told(4)", x.told(4), 1);
        Checks.same("insert(1) after it", Checks.insert(x, 333, 1), 0);
        Checks.same("remove() of the last word", x.remove(), 20);
        sameSizes("after the last word", x, 0);
        sameSizes("after the last word", x, 1);
        Checks.same("told(3): 3 in, 3 out, 0 for rebuilding", x.told(3), 3 + 3 + 0);
        Checks.same("told(4)", x.told(4), 2);
        Checks.same("told(9)", x.told(9), 0);
    }

    /** "the cost of this is the number of letters of all live words". */
    private static void costOfRebuilding() {
        WordGroups x = Checks.withWords(1, 22, 333, 4444);
        Checks.weigh(x, 22, 9);
        Checks.remove(x, 1);
        int costs = x.told(3);
        Checks.same("rebuild(): live words alone, each once", x.rebuild(), 2 + 3 + 4);
        Checks.same("told(3)", x.told(3), costs + 9);
        Checks.remove(x, 333);
        Checks.same("told(3): putting alone", x.told(3), costs + 9 + 3);
        Checks.same("remove() that rebuilds", Checks.remove(x, 4444), 10);
        // 4444 comes into the group 1 of the family 1, beside 333, and then 22 is rebuilt.
        Checks.same("told(3): putting and rebuilding", x.told(3), costs + 9 + 3 + (3 + 4) + 2);
    }

    /** "The nodes of a group are all beginnings .., the empty one and the words themselves included, each once." */
    private static void nodes() {
        Checks.same("nodes of an empty group", new WordGroups().group(0, 0, 1), 0);
        Checks.same("nodes of a word of 1 letter", Checks.withWords(4).group(0, 0, 1), 2);
        Checks.same("nodes of a word of 6 letters", Checks.withWords(412341).group(0, 0, 1), 7);
        Checks.same("nodes of a word and its beginning", Checks.withWords(412341, 4123).group(0, 1, 1), 7);
        Checks.same("nodes of a word and its end", Checks.withWords(4123, 23).group(0, 1, 1), 7);
        Checks.same("nodes of words without a common letter", Checks.withWords(1, 2, 3, 4).group(0, 2, 1), 5);
    }

    /** The greatest number of nodes: 32 items of different words, each with four nodes that no other word has. */
    private static void manyNodes() {
        WordGroups x = new WordGroups();
        int[] begins = {11, 12, 13, 14, 21, 22, 23, 24, 31, 32, 33, 34, 41, 42, 43, 44};
        for (int k = 0; k < 8; k++) {
            Checks.insert(x, begins[k] * 10000 + 2222, 1);
        }
        for (int begin : begins) {
            Checks.insert(x, begin * 10000 + 1111, 1);
        }
        for (int k = 0; k < 8; k++) {
            Checks.remove(x, begins[k] * 10000 + 2222);
        }
        for (int k = 8; k < 16; k++) {
            Checks.insert(x, begins[k] * 10000 + 2222, 1);
        }
        Checks.same("group(0, 5, 0)", x.group(0, 5, 0), 32);
        // The empty one, 4 of one letter, 16 of two, and 4 more for each word.
        Checks.same("group(0, 5, 1)", x.group(0, 5, 1), 1 + 4 + 16 + 32 * 4);
        Checks.same("group(0, 5, 2)", x.group(0, 5, 2), 32 * 6);
        Checks.type(x, 444444, 442222);
        Checks.same("follow(0, 5, 12), the last word", x.follow(0, 5, 12), 442222);
        Checks.same("follow(0, 5, 6), its beginning", x.follow(0, 5, 6), 44);
    }

    /** "the longest of its ends, shorter than itself (the empty one at least), that is a node of the same group". */
    private static void failures() {
        Checks.same("the empty one at least", Checks.withWords(1234).group(0, 0, 3), 0);
        Checks.same("shorter than itself", Checks.withWords(11).group(0, 0, 3), 0 + 1);
        Checks.same("a word of 6 letters", Checks.withWords(111111).group(0, 0, 3), 0 + 1 + 2 + 3 + 4 + 5);
        // 1212 falls to 12, 121 to 1; 212 is no node.
        Checks.same("the longest of them", Checks.withWords(1212).group(0, 0, 3), 0 + 0 + 1 + 2);
        // With 212: 1212 falls to 212, 121 to 21, 12 to 2; and 21 to 1, 212 to 12.
        Checks.same("the longest of both words", Checks.withWords(1212, 212).group(0, 1, 3), 1 + 2 + 3 + 1 + 2);
        WordGroups x = Checks.withWords(2, 3, 12);
        Checks.same("of the same group: 2 is in another one", x.group(0, 0, 3), 0);
        Checks.same("all nodes of one letter", Checks.withWords(1, 2, 3, 4).group(0, 2, 3), 0);
    }

    /** "The text is a list of at most 60 letters, empty at first." */
    private static void textLetters() {
        WordGroups x = new WordGroups();
        Checks.same("told(7) at first", x.told(7), 0);
        Checks.same("at(0, 0) at first", x.at(0, 0), BAD);
        x.spell(123412);
        for (int k = 1; k <= 9; k++) {
            x.type();
        }
        x.spell(12341);
        Checks.same("59 letters", x.type(), 59);
        x.spell(23);
        Checks.same("61 letters", x.type(), FULL);
        x.spell(4);
        Checks.same("60 letters", x.type(), 60);
        Checks.same("61 letters", x.type(), FULL);
        Checks.same("told(7)", x.told(7), 60);
        Checks.same("at(59, 0)", x.at(59, 0), 3);
        Checks.same("at(60, 0)", x.at(60, 0), BAD);
        Checks.sameText("the text", Checks.letters(x), "012301".repeat(9) + "01230" + "3");
    }

    /** "An occurrence of a word ends at the position of its last letter in the text (positions begin with 0)." */
    private static void occurrences() {
        WordGroups x = new WordGroups();
        Checks.type(x, 1, 234123, 4);
        int[] codes = {1, 12, 123412, 234, 34, 4};
        int[][] ends = {{0, 4}, {1, 5}, {5}, {3, 7}, {3, 7}, {3, 7}};
        for (int n = 0; n < codes.length; n++) {
            x.spell(codes[n]);
            for (int k = 0; k < ends[n].length; k++) {
                Checks.same("find(" + k + ", 0) of " + codes[n], x.find(k, 0), ends[n][k]);
            }
            Checks.same("find(..) of " + codes[n] + ", no more", x.find(ends[n].length, 0), NONE);
        }
    }

    /** "Occurrences of live words are matches." */
    private static void matches() {
        WordGroups x = new WordGroups();
        Checks.type(x, 1221, 221);
        Checks.same("total(0) without words", x.total(0), 0);
        Checks.insert(x, 221, 1);
        Checks.same("total(0)", x.total(0), 2);
        Checks.insert(x, 22, 1);
        Checks.same("total(0)", x.total(0), 4);
        Checks.insert(x, 12, 1);
        Checks.same("total(0)", x.total(0), 6);
        Checks.remove(x, 22);
        Checks.same("total(0) after a removal", x.total(0), 4);
        Checks.same("at(2, 1) after a removal", x.at(2, 1), 0);
        Checks.weigh(x, 12, 9);
        Checks.same("total(0) after weigh(9): once, not for each item", x.total(0), 4);
        Checks.same("at(1, 2) after weigh(9)", x.at(1, 2), 9);
        x.undo();
        x.undo();
        Checks.same("total(0) after undo()", x.total(0), 6);
    }

    /** "The weight at a position is the sum of the weights of all matches that end there." */
    private static void weightAtPosition() {
        WordGroups x = new WordGroups();
        Checks.insert(x, 1, 99);
        Checks.insert(x, 11, -99);
        Checks.insert(x, 111, -99);
        Checks.insert(x, 111111, 50);
        Checks.type(x, 111111, 2);
        int[] due = {99, 0, -99, -99, -99, -49, 0};
        for (int i = 0; i < due.length; i++) {
            Checks.same("at(" + i + ", 2)", x.at(i, 2), due[i]);
        }
        Checks.same("total(1)", x.total(1), 99 - 99 * 3 - 49);
        Checks.same("total(3)", x.total(3), 0);
    }

    /** "A division of the text covers some of its letters with matches that do not overlap". */
    private static void divisionsDoNotOverlap() {
        WordGroups x = new WordGroups();
        Checks.insert(x, 12, 5);
        Checks.insert(x, 21, 6);
        Checks.type(x, 121);
        Checks.same("two that share a letter", x.total(4), 6);
        Checks.same("two that share a letter", x.total(5), 1);
        x.clear();
        Checks.type(x, 1221);
        Checks.same("two side by side", x.total(4), 11);
        Checks.same("two side by side", x.total(5), 2);
        x.clear();
        Checks.type(x, 12121, 2);
        Checks.same("three times 12", x.total(4), 15);
        Checks.same("three times 12", x.total(5), 3);
        Checks.weigh(x, 21, 9);
        Checks.same("twice 21, with a letter left out on each side", x.total(4), 18);
        Checks.same("twice 21, with a letter left out on each side", x.total(5), 2);
    }

    /** "(It may leave out letters, and it may have no matches; then its weight is 0.)" */
    private static void divisionsLeaveOut() {
        WordGroups x = new WordGroups();
        Checks.same("total(4) of nothing", x.total(4), 0);
        Checks.same("total(5) of nothing", x.total(5), 0);
        Checks.insert(x, 12, 7);
        Checks.insert(x, 3, -99);
        Checks.type(x, 3, 12, 33, 12, 34);
        Checks.same("letters left out before, between and after", x.total(4), 14);
        Checks.same("letters left out before, between and after", x.total(5), 2);
        Checks.weigh(x, 12, -1);
        Checks.same("no matches, as all of them are below 0", x.total(4), 0);
        Checks.same("no matches, as all of them are below 0", x.total(5), 0);
        Checks.weigh(x, 12, 0);
        Checks.same("no matches, as none is above 0", x.total(5), 0);
    }

    /** "A history of at most 8 states is kept .. if there are more than 8, the oldest one is dropped". */
    private static void historyAtMostEight() {
        for (int changes = 0; changes <= 10; changes++) {
            WordGroups x = Checks.withManyWords(changes);
            int kept = Math.min(changes, 8);
            Checks.same("told(8) after " + changes + " changes", x.told(8), kept);
            for (int left = kept - 1; left >= 0; left--) {
                Checks.same("undo() of " + changes + " changes", x.undo(), left);
            }
            Checks.same("undo() of no more", x.undo(), STATE);
            Checks.same("told(0), what cannot be undone", x.told(0), changes - kept);
        }
        WordGroups y = Checks.withManyWords(8);
        y.undo();
        y.undo();
        y.rebuild();
        Checks.insert(y, 44, 1);
        Checks.same("told(8), full again, nothing dropped", y.told(8), 8);
        Checks.insert(y, 43, 1);
        Checks.same("told(8), full again, one dropped", y.told(8), 8);
        for (int k = 0; k < 8; k++) {
            y.undo();
        }
        Checks.same("told(0), the first word stays", y.told(0), 1);
        Checks.same("undo() of no more", y.undo(), STATE);
    }

    /** "a change that returns no error code records .." */
    private static void changesAreRecorded() {
        WordGroups x = new WordGroups();
        x.rebuild();
        Checks.same("told(8) after rebuild() of nothing", x.told(8), 1);
        Checks.insert(x, 12, 1);
        Checks.same("told(8) after insert(1)", x.told(8), 2);
        x.weigh(1);
        Checks.same("told(8) after weigh(1), one change", x.told(8), 3);
        x.keep(0);
        x.remove();
        Checks.same("told(8) after remove()", x.told(8), 4);
        x.back(0);
        Checks.same("told(8) after back(0)", x.told(8), 5);
        x.back(0);
        Checks.same("told(8) after back(0) to the same state", x.told(8), 6);
        Checks.same("undo()", x.undo(), 5);
        Checks.same("told(8) after undo()", x.told(8), 5);
        x.undo();
        Checks.same("told(0) after undo() of back(0)", x.told(0), 0);
        x.undo();
        Checks.same("told(0) after undo() of remove()", x.told(0), 1);
    }

    private static void otherCallsAreNotRecorded() {
        WordGroups x = Checks.withWords(1, 22);
        x.wipe();
        x.write(3);
        x.spell(1);
        x.type();
        x.clear();
        x.keep(0);
        x.keep(1);
        Checks.same("told(8) after calls that are no changes", x.told(8), 2);
        x.insert(5);
        x.insert(100);
        x.weigh(100);
        x.spell(3);
        x.weigh(5);
        x.remove();
        x.back(2);
        Checks.same("told(8) after refused changes", x.told(8), 2);
        Checks.same("undo()", x.undo(), 1);
        Checks.same("told(0) after undo()", x.told(0), 1);
    }

    /** "records the live words, the groups, the costs and the rebuildings before it"; "undo() .. restores it". */
    private static void undoRestoresEachPart() {
        WordGroups x = Checks.withWords(1, 22, 333);
        Checks.remove(x, 22);
        x.keep(0);
        String before = Checks.state(x);
        int costs = x.told(3);
        Checks.insert(x, 4, 4);
        x.undo();
        Checks.sameState("undo() of insert(4)", x, before);
        Checks.weigh(x, 1, 9);
        Checks.same("told(4): weigh(9) rebuilt", x.told(4), 1);
        x.undo();
        Checks.sameState("undo() of weigh(9)", x, before);
        x.remove();
        x.undo();
        Checks.sameState("undo() of remove()", x, before);
        x.rebuild();
        x.undo();
        Checks.sameState("undo() of rebuild()", x, before);

        x.rebuild();
        x.back(0);
        Checks.same("told(3) after back(0)", x.told(3), costs);
        x.undo();
        Checks.same("told(3) after undo() of back(0)", x.told(3), costs + 4);
        Checks.same("told(4) after undo() of back(0)", x.told(4), 1);
        Checks.same("group(0, 1, 0) after undo() of back(0)", x.group(0, 1, 0), 2);
        Checks.same("group(1, 0, 0) after undo() of back(0)", x.group(1, 0, 0), 0);
    }

    /** "The pattern, the text and the images do not belong to a state." */
    private static void notOfAState() {
        WordGroups x = Checks.withWords(1);
        x.keep(0);
        Checks.type(x, 1234);
        Checks.insert(x, 22, 2);
        x.keep(0);
        x.keep(1);
        Checks.type(x, 41);
        x.spell(333);
        x.undo();
        Checks.same("told(6) after undo()", x.told(6), 3);
        Checks.sameText("the text after undo()", Checks.letters(x), "012330");
        Checks.same("told(0) after undo()", x.told(0), 1);
        Checks.same("back(0) after undo()", x.back(0), 2);
        Checks.same("told(6) after back(0)", x.told(6), 3);
        Checks.sameText("the text after back(0)", Checks.letters(x), "012330");
        x.clear();
        x.wipe();
        x.undo();
        Checks.same("told(6): undo() brings no pattern back", x.told(6), 0);
        Checks.same("told(7): undo() brings no text back", x.told(7), 0);
        Checks.same("back(1) after two undo()", x.back(1), 2);
    }
}

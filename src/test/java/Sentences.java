/** Answers that are due by single sentences of the document: what is told of a wrong one names its sentence. */
final class Sentences {
    private final Due due;
    private final String test;
    private String sentence;
    private int sentences;
    private int answers;

    Sentences(String test) {
        this.test = test;
        due = new Due(test);
    }

    /** Begins the test of a sentence, in the document's own words. */
    void of(String words) {
        closeSentence();
        sentence = words;
        sentences++;
        answers = 0;
    }

    void is(String call, long got, long want) {
        answers++;
        due.is("\"" + sentence + "\": " + call, got, want);
    }

    void holds(String claim, boolean holds) {
        is(claim, holds ? 1 : 0, 1);
    }

    /** The blocks of a list, by their lengths; where they start follows from it. */
    void lengths(String when, PackedLists x, int list, int... lengths) {
        is(when + ": number of blocks", x.list(list, 1), lengths.length);
        int first = 0;
        for (int block = 0; block < lengths.length; block++) {
            is(when + ": length of block " + block, x.block(list, block, 1), lengths[block]);
            is(when + ": first index of block " + block, x.block(list, block, 0), first);
            first += lengths[block];
        }
    }

    /** The numbers of a list, which are looked at. */
    void numbers(String when, PackedLists x, int list, int... numbers) {
        is(when + ": how many numbers", x.list(list, 0), numbers.length);
        for (int index = 0; index < numbers.length; index++) {
            is(when + ": number " + index, x.at(list, index), numbers[index]);
        }
    }

    void result(String when, PackedLists x, int... numbers) {
        is(when + ": how many numbers of the result", x.count(6), numbers.length);
        for (int index = 0; index < numbers.length; index++) {
            is(when + ": result(" + index + ")", x.result(index), numbers[index]);
        }
    }

    /** Ends the program. */
    void finish() {
        closeSentence();
        System.out.println(test + ": " + sentences + " sentences");
        due.finish();
    }

    /** A sentence without an answer would look tested, and is not. */
    private void closeSentence() {
        if (sentences > 0) {
            due.holds("\"" + sentence + "\" has answers", answers > 0);
        }
    }
}

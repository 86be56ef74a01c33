/** What a call answered, with the call's text, so that a wrong answer tells where it came from. */
record Answer(String call, long got) {
    void is(long want) {
        Sentences.due(call, got, want);
    }

    void isNoError() {
        Sentences.due(call + " is no error", got < 0 ? 1 : 0, 0);
    }

    String told() {
        return call + " = " + got;
    }
}

/** A sentence of the document, word for word, and the test that holds the program to it. */
record Held(String sentence, Runnable test) {
}
